/-! walks of the machine over the integers, goal first -/
def im_go (own : Nat) (code : ab_C) : Nat → im_S → Option (List Prop × im_S)
  | 0, x => some ([], x)
  | k + 1, (pc, L, st, w) => match code pc with
    | some (i, t) => match im_nx own i t pc L st w with
      | some (ps, x) => match im_go own code k x with
        | some (qs, y) => some (ps ++ qs, y)
        | none => none
      | none => none
    | none => none
def im_wp (ro : ab_R) (C : Nat → List Value → ab_W → ab_O → Prop) (own : Nat) (ret : Option FieldType) (code : ab_C) (n : Nat) (T : List im_T) (Q : Option im_V → im_W → Prop) (x : im_S) : Prop := ab_wp ro C own false ret code (fun o => ∃ v w, o = (v.map (im_v n), im_w n T w, 0, 0) ∧ w.length = n ∧ Q v w) (im_s n T x)
section ImW
variable {ro : ab_R} {C : Nat → List Value → ab_W → ab_O → Prop} {own : Nat} {ret : Option FieldType} {code : ab_C} {n : Nat} {T : List im_T} {Q : Option im_V → im_W → Prop}
theorem im_g (k : Nat) {x y : im_S} {ps : List Prop} (h : im_go own code k x = some (ps, y)) (hp : ab_all ps) (kk : im_wp ro C own ret code n T Q y) : im_wp ro C own ret code n T Q x := by
  induction k generalizing x ps with
  | zero =>
    unfold im_go at h
    cases h
    exact kk
  | succ k ih =>
    obtain ⟨pc, L, st, w⟩ := x
    unfold im_go at h
    split at h
    · rename_i i t hc
      split at h
      · rename_i qs z hn
        split at h
        · rename_i rs u hg
          cases h
          obtain ⟨h1, h2⟩ := ab_all_append hp
          obtain ⟨o, j, hX, hQ⟩ := ih hg h2
          obtain ⟨qs', h3, h4⟩ := im_nx_ok (ro := ro) (n := n) (T := T) hn h1
          exact ⟨o, j + 1, ⟨i, t, hc, Or.inl ⟨qs', _, h3, h4, hX⟩⟩, hQ⟩
        · cases h
      · cases h
    · cases h
theorem im_q {Q' : Option im_V → im_W → Prop} (h : ∀ v w, Q' v w → Q v w) {x : im_S} (k : im_wp ro C own ret code n T Q' x) : im_wp ro C own ret code n T Q x := by
  obtain ⟨o, j, hX, v, w, e, hl, hQ⟩ := k
  exact ⟨o, j, hX, v, w, e, hl, h v w hQ⟩
theorem im_br_ok {i : Instr} {t pc : Nat} {L : im_L} {st : List im_V} {w : im_W} {ps : List Prop} {c : Prop} {x y : im_S} (h : im_br i t pc L st w = some (ps, c, x, y)) (hp : ab_all ps) : ∃ c', ab_br i t pc (im_l n L) (im_k n st) (im_w n T w) 0 0 = some (c', im_s n T x, im_s n T y) ∧ (c' ↔ c) := by
  unfold im_br at h
  split at h
  · split at h
    · rename_i x r
      cases h
      have hx := hp.1
      have hy := im_0
      exact ⟨_, rfl, im_eq hx hy⟩
    · cases h
  · split at h
    · rename_i y x r
      cases h
      have hx := hp.1
      have hy := hp.2.1
      exact ⟨_, rfl, im_eq hx hy⟩
    · cases h
  · split at h
    · rename_i x r
      cases h
      have hx := hp.1
      have hy := im_0
      exact ⟨_, rfl, not_congr (im_eq hx hy)⟩
    · cases h
  · split at h
    · rename_i y x r
      cases h
      have hx := hp.1
      have hy := hp.2.1
      exact ⟨_, rfl, not_congr (im_eq hx hy)⟩
    · cases h
  · split at h
    · rename_i x r
      cases h
      have hx := hp.1
      have hy := im_0
      exact ⟨_, rfl, im_lt hx hy⟩
    · cases h
  · split at h
    · rename_i y x r
      cases h
      have hx := hp.1
      have hy := hp.2.1
      exact ⟨_, rfl, im_lt hx hy⟩
    · cases h
  · split at h
    · rename_i x r
      cases h
      have hx := hp.1
      have hy := im_0
      exact ⟨_, rfl, im_le hy hx⟩
    · cases h
  · split at h
    · rename_i y x r
      cases h
      have hx := hp.1
      have hy := hp.2.1
      exact ⟨_, rfl, im_le hy hx⟩
    · cases h
  · split at h
    · rename_i x r
      cases h
      have hx := hp.1
      have hy := im_0
      exact ⟨_, rfl, im_lt hy hx⟩
    · cases h
  · split at h
    · rename_i y x r
      cases h
      have hx := hp.1
      have hy := hp.2.1
      exact ⟨_, rfl, im_lt hy hx⟩
    · cases h
  · split at h
    · rename_i x r
      cases h
      have hx := hp.1
      have hy := im_0
      exact ⟨_, rfl, im_le hx hy⟩
    · cases h
  · split at h
    · rename_i y x r
      cases h
      have hx := hp.1
      have hy := hp.2.1
      exact ⟨_, rfl, im_le hx hy⟩
    · cases h
  · split at h
    · cases h
      exact ⟨_, rfl, Iff.rfl⟩
    · cases h
      exact ⟨_, rfl, Iff.rfl⟩
    · cases h
      exact ⟨_, rfl, Iff.rfl⟩
    · cases h
  · split at h
    · cases h
      exact ⟨_, rfl, Iff.rfl⟩
    · cases h
      exact ⟨_, rfl, Iff.rfl⟩
    · cases h
      exact ⟨_, rfl, Iff.rfl⟩
    · cases h
  · cases h
theorem im_b {pc t : Nat} {i : Instr} {L : im_L} {st : List im_V} {w : im_W} {ps : List Prop} {c : Prop} {x y : im_S} (hc : code pc = some (i, t)) (h : im_br i t pc L st w = some (ps, c, x, y)) (hp : ab_all ps) (k1 : c → im_wp ro C own ret code n T Q x) (k2 : ¬ c → im_wp ro C own ret code n T Q y) : im_wp ro C own ret code n T Q (pc, L, st, w) := by
  obtain ⟨c', h1, h2⟩ := im_br_ok (n := n) (T := T) h hp
  exact ax_br hc h1 (fun z => k1 (h2.mp z)) (fun z => k2 (fun q => z (h2.mpr q)))
theorem im_bT {pc t : Nat} {i : Instr} {L : im_L} {st : List im_V} {w : im_W} {ps : List Prop} {c : Prop} {x y : im_S} (hc : code pc = some (i, t)) (h : im_br i t pc L st w = some (ps, c, x, y)) (hp : ab_all ps) (z : c) (k : im_wp ro C own ret code n T Q x) : im_wp ro C own ret code n T Q (pc, L, st, w) := im_b hc h hp (fun _ => k) (fun q => absurd z q)
theorem im_bF {pc t : Nat} {i : Instr} {L : im_L} {st : List im_V} {w : im_W} {ps : List Prop} {c : Prop} {x y : im_S} (hc : code pc = some (i, t)) (h : im_br i t pc L st w = some (ps, c, x, y)) (hp : ab_all ps) (z : ¬ c) (k : im_wp ro C own ret code n T Q y) : im_wp ro C own ret code n T Q (pc, L, st, w) := im_b hc h hp (fun q => absurd q z) (fun _ => k)
theorem im_rt_ok {i : Instr} {st : List im_V} {ps : List Prop} {v : Option im_V} (h : im_rt ret i st = some (ps, v)) (hp : ab_all ps) : ∃ qs, ab_rt ret i (im_k n st) = some (qs, v.map (im_v n)) ∧ ab_all qs := by
  unfold im_rt at h
  split at h
  · cases h
    exact ⟨_, rfl, trivial⟩
  · cases h
    refine ⟨_, rfl, ?_, trivial⟩
    rcases hp.1 with rfl | rfl
    · exact Or.inl rfl
    · exact Or.inr rfl
  · cases h
    exact ⟨_, rfl, trivial⟩
  · rename_i x
    cases h
    match x with
    | .inl none => exact ⟨_, rfl, trivial⟩
    | .inl (some _) => exact ⟨_, rfl, trivial⟩
    | .inr _ => exact ⟨_, rfl, trivial⟩
  · cases h
    exact ⟨_, rfl, trivial⟩
  · cases h
theorem im_r {pc t : Nat} {i : Instr} {L : im_L} {st : List im_V} {w : im_W} {ps : List Prop} {v : Option im_V} (hc : code pc = some (i, t)) (h : im_rt ret i st = some (ps, v)) (hp : ab_all ps) (hn : w.length = n) (k : Q v w) : im_wp ro C own ret code n T Q (pc, L, st, w) := by
  obtain ⟨qs, h1, h2⟩ := im_rt_ok (n := n) h hp
  exact ax_ret hc h1 h2 ⟨v, w, rfl, hn, k⟩
/-- a switch -/
def im_ts (pc : Nat) (d lo hi : Int) (offs : Array Int) (x : Int) : Nat := if x < lo ∨ hi < x then ((pc : Int) + d).toNat else match offs[(x - lo).toNat]? with
  | some off => ((pc : Int) + off).toNat
  | none => 0
theorem im_sw {pc t tgt : Nat} {d lo hi x : Int} {offs : Array Int} {L : im_L} {r : List im_V} {w : im_W} (hc : code pc = some (.tableswitch d lo hi offs, t)) (hx : im_ir x) (hd : 0 ≤ (pc : Int) + d) (ho : (x < lo ∨ hi < x) ∨ ∃ off, offs[(x - lo).toNat]? = some off ∧ 0 ≤ (pc : Int) + off) (e : im_ts pc d lo hi offs x = tgt) (k : im_wp ro C own ret code n T Q (tgt, L, r, w)) : im_wp ro C own ret code n T Q (pc, L, .inl x :: r, w) := by
  have ex := im_i hx
  subst e
  refine ax_sw (ps := [((Int32.ofInt x).toInt < lo ∨ hi < (Int32.ofInt x).toInt) ∨ ∃ off, offs[((Int32.ofInt x).toInt - lo).toNat]? = some off ∧ 0 ≤ (pc : Int) + off, 0 ≤ (pc : Int) + d]) (x := (im_l n L, im_k n r, im_w n T w, 0, 0)) (im_ts pc d lo hi offs x) hc rfl ?_ ⟨by rw [ex]; exact ho, hd, trivial⟩ k
  unfold ab_ts im_ts
  rw [ex]
  rfl
/-- downward: from each round to the next -/
theorem im_for (N : Nat) (S : Nat → im_S) (step : ∀ k, k < N → im_wp ro C own ret code n T Q (S (k + 1)) → im_wp ro C own ret code n T Q (S k)) (fin : im_wp ro C own ret code n T Q (S N)) : im_wp ro C own ret code n T Q (S 0) := by
  have key : ∀ m k, k + m = N → im_wp ro C own ret code n T Q (S k) := by
    intro m
    induction m with
    | zero => intro k h; rw [show k = N by omega]; exact fin
    | succ m ih => intro k h; exact step k (by omega) (ih (k + 1) (by omega))
  exact key N 0 (by omega)
theorem im_loop {α : Type} (S : α → im_S) (m : α → Nat) (I : α → Prop) (h : ∀ a, I a → (∀ b, I b → m b < m a → im_wp ro C own ret code n T Q (S b)) → im_wp ro C own ret code n T Q (S a)) (a0 : α) (h0 : I a0) : im_wp ro C own ret code n T Q (S a0) := by
  have key : ∀ k a, m a < k → I a → im_wp ro C own ret code n T Q (S a) := by
    intro k
    induction k with
    | zero => intro a h1; exact absurd h1 (Nat.not_lt_zero _)
    | succ k ih => intro a h1 h2; exact h a h2 (fun b hb hm => ih b (by omega) hb)
  exact key (m a0 + 1) a0 (Nat.lt_succ_self _) h0
/-- one and the same state, told otherwise -/
theorem im_eqs {x y : im_S} (h : x = y) (k : im_wp ro C own ret code n T Q y) : im_wp ro C own ret code n T Q x := h ▸ k
end ImW
/-! calls -/
def im_pi (is : List Nat) (k : Nat) : Option Nat := match is[k]? with
  | some x => some x
  | none => if k < 500000 then none else if k < 510000 then some (k - 500000) else if k < 1000000 then some (k - 10000) else some k
def im_rv (is : List Nat) (v : im_V) : Option im_V := match v with
  | .inr (.inr (.inl (some k))) => match im_pi is k with
    | some j => some (.inr (.inr (.inl (some j))))
    | none => none
  | .inl x => some (.inl x)
  | .inr (.inl x) => some (.inr (.inl x))
  | .inr (.inr (.inl none)) => some (.inr (.inr (.inl none)))
  | .inr (.inr (.inr t)) => some (.inr (.inr (.inr t)))
def im_rvs (is : List Nat) : List im_V → Option (List im_V)
  | [] => some []
  | v :: r => match im_rv is v, im_rvs is r with
    | some x, some y => some (x :: y)
    | _, _ => none
def im_re (is : List Nat) (e : im_E) : Option im_E := match e with
  | .inl (c, fs) => match im_rvs is fs with
    | some z => some (.inl (c, z))
    | none => none
  | .inr (t, m, .inl f) => some (.inr (t, m, .inl f))
  | .inr (t, m, .inr (.inl g)) => some (.inr (t, m, .inr (.inl g)))
  | _ => none
def im_res (is : List Nat) : List im_E → Option (List im_E)
  | [] => some []
  | v :: r => match im_re is v, im_res is r with
    | some x, some y => some (x :: y)
    | _, _ => none
def im_get (w : im_W) : List Nat → Option (List im_E)
  | [] => some []
  | k :: r => match w[k]?, im_get w r with
    | some x, some y => some (x :: y)
    | _, _ => none
def im_puts (w : im_W) : List Nat → List im_E → im_W
  | k :: is, e :: z => im_puts (w.set k e) is z
  | _, _ => w
def im_rvo (is : List Nat) (v : Option im_V) : Option (Option im_V) := match v with
  | none => some none
  | some x => match im_rv is x with
    | some y => some (some y)
    | none => none
theorem im_rvs_cons {is : List Nat} {v : im_V} {r z : List im_V} (h : im_rvs is (v :: r) = some z) : ∃ x y, im_rv is v = some x ∧ im_rvs is r = some y ∧ z = x :: y := by
  unfold im_rvs at h
  split at h
  · rename_i x y h1 h2
    cases h
    exact ⟨x, y, h1, h2, rfl⟩
  · cases h
theorem im_res_cons {is : List Nat} {v : im_E} {r z : List im_E} (h : im_res is (v :: r) = some z) : ∃ x y, im_re is v = some x ∧ im_res is r = some y ∧ z = x :: y := by
  unfold im_res at h
  split at h
  · rename_i x y h1 h2
    cases h
    exact ⟨x, y, h1, h2, rfl⟩
  · cases h
theorem im_get_cons {w : im_W} {k : Nat} {is : List Nat} {z : List im_E} (h : im_get w (k :: is) = some z) : ∃ x y, w[k]? = some x ∧ im_get w is = some y ∧ z = x :: y := by
  unfold im_get at h
  split at h
  · rename_i x y h1 h2
    cases h
    exact ⟨x, y, h1, h2, rfl⟩
  · cases h
theorem im_res_len {is : List Nat} : ∀ {l z : List im_E}, im_res is l = some z → z.length = l.length
  | [], z, h => by cases h; rfl
  | v :: r, z, h => by
    obtain ⟨x, y, h1, h2, rfl⟩ := im_res_cons h
    simp [im_res_len h2]
theorem im_get_len {w : im_W} : ∀ {l : List Nat} {z : List im_E}, im_get w l = some z → z.length = l.length
  | [], z, h => by cases h; rfl
  | v :: r, z, h => by
    obtain ⟨x, y, h1, h2, rfl⟩ := im_get_cons h
    simp [im_get_len h2]
theorem im_get_at {w : im_W} : ∀ {l : List Nat} {z : List im_E}, im_get w l = some z → ∀ (p k : Nat), l[p]? = some k → w[k]? = z[p]? ∧ k < w.length
  | [], z, h, p, k, hk => by cases hk
  | v :: r, z, h, p, k, hk => by
    obtain ⟨x, y, h1, h2, rfl⟩ := im_get_cons h
    cases p with
    | zero =>
      cases hk
      exact ⟨h1, (List.getElem?_eq_some_iff.mp h1).1⟩
    | succ p => exact im_get_at h2 p k hk
theorem im_res_at {is : List Nat} : ∀ {l z : List im_E}, im_res is l = some z → ∀ (p : Nat) (e : im_E), l[p]? = some e → ∃ x, im_re is e = some x ∧ z[p]? = some x
  | [], z, h, p, k, hk => by cases hk
  | v :: r, z, h, p, k, hk => by
    obtain ⟨x, y, h1, h2, rfl⟩ := im_res_cons h
    cases p with
    | zero =>
      cases hk
      exact ⟨x, h1, rfl⟩
    | succ p => exact im_res_at h2 p k hk
theorem im_puts_len : ∀ {is : List Nat} {z : List im_E} {w : im_W}, (im_puts w is z).length = w.length
  | [], [], w => rfl
  | [], _ :: _, w => rfl
  | _ :: _, [], w => rfl
  | k :: is, e :: z, w => by
    show (im_puts (w.set k e) is z).length = _
    rw [im_puts_len, List.length_set]
theorem im_puts_out {i : Nat} : ∀ {is : List Nat} {z : List im_E} {w : im_W}, i ∉ is → (im_puts w is z)[i]? = w[i]?
  | [], [], w, _ => rfl
  | [], _ :: _, w, _ => rfl
  | _ :: _, [], w, _ => rfl
  | k :: is, e :: z, w, h => by
    show (im_puts (w.set k e) is z)[i]? = _
    rw [im_puts_out (fun q => h (List.mem_cons_of_mem _ q)), List.getElem?_set_ne (fun q => h (by rw [← q]; exact List.mem_cons_self))]
theorem im_puts_in {i : Nat} {x : im_E} : ∀ {is : List Nat} {z : List im_E} {w : im_W} {p : Nat}, is.Nodup → i < w.length → is[p]? = some i → z[p]? = some x → (im_puts w is z)[i]? = some x
  | [], _, w, p, _, _, h, _ => by cases h
  | _ :: _, [], w, p, _, _, _, h => by cases h
  | k :: is, e :: z, w, p, hn, hl, h1, h2 => by
    obtain ⟨hn1, hn2⟩ := List.nodup_cons.mp hn
    show (im_puts (w.set k e) is z)[i]? = _
    cases p with
    | zero =>
      cases h1
      cases h2
      rw [im_puts_out hn1, List.getElem?_set_self hl]
    | succ p => exact im_puts_in hn2 (by rw [List.length_set]; exact hl) h1 h2
theorem im_pA {is : List Nat} {n m k j : Nat} (hl : is.length + 3 * m < 400000) (h : im_pi is k = some j) : ab_pi (is ++ List.range' n (3 * m)) (n + 3 * m) k = j := by
  unfold im_pi at h
  unfold ab_pi
  rw [List.length_append, List.length_range']
  cases e : is[k]? with
  | some x =>
    rw [e] at h
    cases h
    have hk := (List.getElem?_eq_some_iff.mp e).1
    rw [if_pos (by omega), List.getD_eq_getElem?_getD, List.getElem?_append_left hk, e]
    rfl
  | none =>
    rw [e] at h
    dsimp only at h
    by_cases h5 : k < 500000
    · rw [if_pos h5] at h
      cases h
    · rw [if_neg h5] at h
      rw [if_neg (by omega), if_neg h5]
      by_cases h6 : k < 510000
      · rw [if_pos h6] at h ⊢
        exact Option.some.inj h
      · rw [if_neg h6] at h ⊢
        by_cases h7 : k < 1000000
        · rw [if_pos h7] at h ⊢
          exact Option.some.inj h
        · rw [if_neg h7] at h ⊢
          exact Option.some.inj h
theorem im_pB {is : List Nat} {n m x : Nat} (hl : is.length + x < 500000) : ab_pi (is ++ List.range' n (3 * m)) (n + 3 * m) (is.length + x) = n + x := by
  unfold ab_pi
  rw [List.length_append, List.length_range']
  by_cases h : x < 3 * m
  · rw [if_pos (by omega), List.getD_eq_getElem?_getD, List.getElem?_append_right (by omega), show is.length + x - is.length = x by omega, List.getElem?_range' h]
    show n + 1 * x = _
    omega
  · rw [if_neg (by omega), if_pos hl]
    omega
section ImC
variable {is : List Nat} {n : Nat} {T : List im_T}
theorem im_rv_ok (hl : is.length + 3 * T.length < 100000) {v v' : im_V} (h : im_rv is v = some v') : ab_rv (ab_pi (is ++ List.range' n (3 * T.length)) (n + 3 * T.length)) (im_v is.length v) = im_v n v' := by
  match v, h with
  | .inl x, h => cases h; rfl
  | .inr (.inl x), h => cases h; rfl
  | .inr (.inr (.inl none)), h => cases h; rfl
  | .inr (.inr (.inr t)), h =>
    cases h
    show Value.ref (ab_pi _ _ (is.length + 3 * min t 100000)) = Value.ref (n + 3 * min t 100000)
    rw [im_pB (by omega)]
  | .inr (.inr (.inl (some k))), h =>
    unfold im_rv at h
    dsimp only at h
    split at h
    · rename_i j hj
      cases h
      show Value.ref (ab_pi _ _ k) = Value.ref j
      rw [im_pA (by omega) hj]
    · cases h
theorem im_rvs_ok (hl : is.length + 3 * T.length < 100000) : ∀ {l l' : List im_V}, im_rvs is l = some l' → (im_k is.length l).map (ab_rv (ab_pi (is ++ List.range' n (3 * T.length)) (n + 3 * T.length))) = im_k n l'
  | [], l', h => by cases h; rfl
  | v :: r, l', h => by
    obtain ⟨x, y, h1, h2, rfl⟩ := im_rvs_cons h
    show ab_rv _ (im_v is.length v) :: (im_k is.length r).map _ = im_v n x :: im_k n y
    rw [im_rv_ok hl h1, im_rvs_ok hl h2]
theorem im_re_ok (hl : is.length + 3 * T.length < 100000) {e e' : im_E} (h : im_re is e = some e') : ab_re (ab_pi (is ++ List.range' n (3 * T.length)) (n + 3 * T.length)) id (im_e is.length e) = im_e n e' := by
  match e, h with
  | .inl (c, fs), h =>
    unfold im_re at h
    dsimp only at h
    split at h
    · rename_i z hz
      cases h
      show Sum.inr (c, (im_k is.length fs).map _) = Sum.inr (c, im_k n z)
      rw [im_rvs_ok hl hz]
    · cases h
  | .inr (t, m, .inl f), h =>
    cases h
    show ab_re _ id (cond (Nat.beq t 2) _ _) = cond (Nat.beq t 2) _ _
    cases Nat.beq t 2 with
    | true => rfl
    | false => rfl
  | .inr (t, m, .inr (.inl g)), h =>
    cases h
    show Sum.inl (t, m, Sum.inr (Sum.inr (Sum.inr (Sum.inr (fun i : Nat => Option.map _ ((g (i : Int)).map (fun q => is.length + 3 * min q 100000))))))) = _
    refine congrArg (fun z => Sum.inl (t, m, Sum.inr (Sum.inr (Sum.inr (Sum.inr z))))) ?_
    funext i
    cases g (i : Int) with
    | none => rfl
    | some q =>
      show some (ab_pi _ _ (is.length + 3 * min q 100000)) = some (n + 3 * min q 100000)
      rw [im_pB (by omega)]
  | .inr (t, m, .inr (.inr g)), h => cases h
theorem im_tc_len : ∀ {m : Nat} {T : List im_T}, (im_tc m T).length = 3 * T.length
  | m, [] => rfl
  | m, t :: r => by
    show (im_tc (m + 3) r).length + 1 + 1 + 1 = 3 * (r.length + 1)
    rw [im_tc_len]
    omega
theorem im_tc_re {p : Nat → Nat} {a b : Nat} : ∀ {T : List im_T} {x : Nat}, (∀ y, y < x + 3 * T.length → p (a + y) = b + y) → (im_tc (a + x) T).map (ab_re p id) = im_tc (b + x) T
  | [], _, _ => rfl
  | t :: r, x, h => by
    have hl : (t :: r).length = r.length + 1 := rfl
    have ih := im_tc_re (p := p) (a := a) (b := b) (T := r) (x := x + 3) (fun y hy => h y (by omega))
    show Sum.inr (7, [Value.ref (p (a + x + 1)), Value.ref (p (a + x + 2)), _, _, _]) :: _ :: _ :: (im_tc (a + x + 3) r).map (ab_re p id) = _
    rw [show a + x + 1 = a + (x + 1) by omega, show a + x + 2 = a + (x + 2) by omega, h (x + 1) (by omega), h (x + 2) (by omega), show a + x + 3 = a + (x + 3) by omega, ih]
    rfl
theorem im_w_len {w : im_W} : (im_w n T w).length = w.length + 3 * T.length := by
  unfold im_w
  rw [List.length_append, List.length_map, im_tc_len]
theorem im_w_old {w : im_W} {k : Nat} (h : k < w.length) : (im_w n T w)[k]? = (w[k]?).map (im_e n) := by
  unfold im_w
  rw [List.getElem?_append_left (by rw [List.length_map]; exact h), List.getElem?_map]
theorem im_w_new {w : im_W} {x : Nat} : (im_w n T w)[w.length + x]? = (im_tc n T)[x]? := by
  unfold im_w
  rw [List.getElem?_append_right (by rw [List.length_map]; omega), List.length_map, show w.length + x - w.length = x by omega]
theorem im_is {w wc z : im_W} (hn : w.length = n) (hc : wc.length = is.length) (hl : is.length + 3 * T.length < 100000) (h1 : im_res is wc = some z) (h2 : im_get w is = some z) : (is ++ List.range' n (3 * T.length)).map (fun i => (im_w n T w)[i]?) = (im_w is.length T wc).map (fun e => some (ab_re (ab_pi (is ++ List.range' n (3 * T.length)) (n + 3 * T.length)) id e)) := by
  rw [show im_w is.length T wc = wc.map (im_e is.length) ++ im_tc is.length T from rfl, List.map_append, List.map_append]
  have ha : is.map (fun i => (im_w n T w)[i]?) = (wc.map (im_e is.length)).map (fun e => some (ab_re (ab_pi (is ++ List.range' n (3 * T.length)) (n + 3 * T.length)) id e)) := by
    apply List.ext_getElem?
    intro p
    rw [List.getElem?_map, List.getElem?_map, List.getElem?_map]
    cases e1 : is[p]? with
    | none =>
      have : is.length ≤ p := List.getElem?_eq_none_iff.mp e1
      rw [List.getElem?_eq_none (show wc.length ≤ p by omega)]
      rfl
    | some k =>
      have hp := (List.getElem?_eq_some_iff.mp e1).1
      obtain ⟨g1, g2⟩ := im_get_at h2 p k e1
      have hpc : p < wc.length := by omega
      obtain ⟨x, g3, g4⟩ := im_res_at h1 p _ (List.getElem?_eq_getElem hpc)
      rw [List.getElem?_eq_getElem hpc]
      show some ((im_w n T w)[k]?) = some (some (ab_re _ id (im_e is.length wc[p])))
      rw [im_re_ok hl g3, im_w_old g2, g1, g4]
      rfl
  have hb : (List.range' n (3 * T.length)).map (fun i => (im_w n T w)[i]?) = (im_tc is.length T).map (fun e => some (ab_re (ab_pi (is ++ List.range' n (3 * T.length)) (n + 3 * T.length)) id e)) := by
    have ht := im_tc_re (p := ab_pi (is ++ List.range' n (3 * T.length)) (n + 3 * T.length)) (a := is.length) (b := n) (T := T) (x := 0) (fun y hy => im_pB (by omega))
    apply List.ext_getElem?
    intro p
    rw [List.getElem?_map, List.getElem?_map]
    have ht2 := congrArg (fun l => l[p]?) ht
    simp only [List.getElem?_map] at ht2
    by_cases hp : p < 3 * T.length
    · rw [List.getElem?_range' hp]
      show some ((im_w n T w)[n + 1 * p]?) = _
      rw [show n + 1 * p = w.length + p by omega, im_w_new]
      have hq : p < (im_tc is.length T).length := by rw [im_tc_len]; exact hp
      rw [show is.length + 0 = is.length from rfl, show n + 0 = n from rfl, List.getElem?_eq_getElem hq] at ht2
      rw [List.getElem?_eq_getElem hq]
      exact congrArg some ht2.symm
    · rw [List.getElem?_eq_none (by rw [List.length_range']; omega), List.getElem?_eq_none (by rw [im_tc_len]; omega)]
      rfl
  rw [ha, hb]
theorem im_nodup {w z : im_W} (hn : w.length = n) (h2 : im_get w is = some z) (h3 : is.Nodup) : (is ++ List.range' n (3 * T.length)).Nodup := by
  refine List.nodup_append.mpr ⟨h3, List.nodup_range', fun a ha b hb e => ?_⟩
  obtain ⟨p, hp⟩ := List.getElem?_of_mem ha
  have h4 := (im_get_at h2 p a hp).2
  have h5 := (List.mem_range'_1.mp hb).1
  omega
theorem im_put {w wc w1 z z1 : im_W} (hn : w.length = n) (hc : wc.length = is.length) (hc1 : w1.length = is.length) (hl : is.length + 3 * T.length < 100000) (h2 : im_get w is = some z) (h3 : is.Nodup) (h4 : im_res is w1 = some z1) : ab_put (is ++ List.range' n (3 * T.length)) (im_w is.length T wc).length (im_w n T w) (im_w is.length T w1) (ab_pi (is ++ List.range' n (3 * T.length)) (n + 3 * T.length)) = im_w n T (im_puts w is z1) := by
  unfold ab_put
  rw [List.drop_eq_nil_of_le (by rw [im_w_len, im_w_len]; omega), List.map_nil, List.append_nil]
  apply List.ext_getElem?
  intro i
  rw [ab_mi_get, Nat.zero_add]
  have hpl : (im_puts w is z1).length = n := by rw [im_puts_len]; exact hn
  by_cases hi : i < n + 3 * T.length
  · cases hx : ab_ix (is ++ List.range' n (3 * T.length)) i 0 with
    | none =>
      have hni := ab_ix_none hx
      have h5 : i ∉ is := fun q => hni (List.mem_append_left _ q)
      have h6 : i < n := by
        by_cases q : i < n
        · exact q
        · exact absurd (List.mem_append_right _ (List.mem_range'_1.mpr ⟨by omega, by omega⟩)) hni
      rw [im_w_old (by omega), im_w_old (by omega), im_puts_out h5]
      cases w[i]? with
      | none => rfl
      | some e => simp [hx]
    | some j =>
      obtain ⟨j', hj1, hj2⟩ := ab_ix_some hx
      have hj : j = j' := by omega
      subst hj
      have hwi : i < (im_w n T w).length := by rw [im_w_len]; omega
      rw [List.getElem?_eq_getElem hwi]
      simp only [Option.map_some, hx]
      by_cases hjl : j < is.length
      · rw [List.getElem?_append_left hjl] at hj2
        obtain ⟨g1, g2⟩ := im_get_at h2 j i hj2
        have hj3 : j < w1.length := by omega
        obtain ⟨x, g3, g4⟩ := im_res_at h4 j _ (List.getElem?_eq_getElem hj3)
        rw [im_w_old (w := w1) hj3, List.getElem?_eq_getElem hj3, im_w_old (by omega), im_puts_in h3 g2 hj2 g4]
        show some (ab_re _ id (im_e is.length w1[j])) = some (im_e n x)
        rw [im_re_ok hl g3]
      · rw [List.getElem?_append_right (by omega)] at hj2
        have hj4 : j - is.length < 3 * T.length := by
          have := (List.getElem?_eq_some_iff.mp hj2).1
          rw [List.length_range'] at this
          exact this
        rw [List.getElem?_range' hj4] at hj2
        have hi2 : i = n + (j - is.length) := by
          have e : n + 1 * (j - is.length) = i := by injection hj2
          omega
        have ht := im_tc_re (p := ab_pi (is ++ List.range' n (3 * T.length)) (n + 3 * T.length)) (a := is.length) (b := n) (T := T) (x := 0) (fun y hy => im_pB (by omega))
        have ht2 := congrArg (fun l => l[j - is.length]?) ht
        simp only [List.getElem?_map] at ht2
        have hq : j - is.length < (im_tc is.length T).length := by rw [im_tc_len]; exact hj4
        rw [show is.length + 0 = is.length from rfl, show n + 0 = n from rfl, List.getElem?_eq_getElem hq] at ht2
        rw [show (im_w is.length T w1)[j]? = (im_w is.length T w1)[w1.length + (j - is.length)]? by congr 1; omega, im_w_new, List.getElem?_eq_getElem hq, show (im_w n T (im_puts w is z1))[i]? = (im_w n T (im_puts w is z1))[(im_puts w is z1).length + (j - is.length)]? by congr 1; omega, im_w_new]
        exact ht2
  · rw [List.getElem?_eq_none (by rw [im_w_len]; omega), List.getElem?_eq_none (by rw [im_w_len]; omega)]
    rfl
end ImC
theorem im_k_take {n : Nat} (st : List im_V) (k : Nat) : (im_k n st).take k = im_k n (st.take k) := by unfold im_k; rw [List.map_take]
theorem im_k_drop {n : Nat} (st : List im_V) (k : Nat) : (im_k n st).drop k = im_k n (st.drop k) := by unfold im_k; rw [List.map_drop]
theorem im_k_len {n : Nat} (st : List im_V) : (im_k n st).length = st.length := List.length_map _
theorem im_k_rev {n : Nat} (st : List im_V) : (im_k n st).reverse = im_k n st.reverse := by unfold im_k; rw [List.map_reverse]
theorem im_ca_ok {own n : Nat} {T : List im_T} {i : Instr} {st as r : List im_V} {w : im_W} {j : Nat} (h : im_ca own i st w = some (j, as, r)) : ab_ca own i (im_k n st) (im_w n T w) = some (j, im_k n as, im_k n r) := by
  unfold im_ca at h
  split at h
  · rename_i ix
    split at h
    · rename_i j' m hm
      split at h
      · rename_i o r' hd
        split at h
        · rename_i ci fs hw
          obtain ⟨hb, h⟩ := im_cond h
          cases h
          have e := im_w_get (n := n) (T := T) hw
          have ed : (im_k n st).drop m = .ref o :: im_k n r := by rw [im_k_drop, hd]; rfl
          have hb2 : (Nat.beq ((im_k n st).take m).length m && Nat.ble (ab_sum (im_k n r)) 8 && Nat.beq ci (ab_ow j)) = true := by rw [im_k_take, im_k_len, im_sum_ok]; exact hb
          simp only [ab_ca, hm, ed, e, im_e]
          rw [hb2, cond_true, im_k_take, im_k_rev]
          rfl
        · cases h
      · cases h
    · cases h
  · rename_i ix
    split at h
    · rename_i j' m hm
      split at h
      · rename_i o r' hd
        obtain ⟨hb, h⟩ := im_cond h
        cases h
        have ed : (im_k n st).drop m = .ref o :: im_k n r := by rw [im_k_drop, hd]; rfl
        have hb2 : (Nat.beq ((im_k n st).take m).length m && Nat.ble (ab_sum (im_k n r)) 8) = true := by rw [im_k_take, im_k_len, im_sum_ok]; exact hb
        simp only [ab_ca, hm, ed]
        rw [hb2, cond_true, im_k_take, im_k_rev]
        rfl
      · cases h
    · rename_i j' m hm
      split at h
      · rename_i o r' hd
        obtain ⟨hb, h⟩ := im_cond h
        cases h
        have ed : (im_k n st).drop m = .ref o :: im_k n r := by rw [im_k_drop, hd]; rfl
        have hb2 : (Nat.beq ((im_k n st).take m).length m && Nat.ble (ab_sum (im_k n r)) 8) = true := by rw [im_k_take, im_k_len, im_sum_ok]; exact hb
        simp only [ab_ca, hm, ed]
        rw [hb2, cond_true, im_k_take, im_k_rev]
        rfl
      · cases h
    · cases h
  · rename_i ix
    split at h
    · rename_i j' m hm
      obtain ⟨hb, h⟩ := im_cond h
      cases h
      have hb2 : (Nat.beq ((im_k n st).take m).length m && Nat.ble (ab_sum ((im_k n st).drop m)) 8) = true := by rw [im_k_take, im_k_len, im_k_drop, im_sum_ok]; exact hb
      simp only [ab_ca, hm]
      rw [hb2, cond_true, im_k_take, im_k_rev, im_k_drop]
    · rename_i j' m hm
      obtain ⟨hb, h⟩ := im_cond h
      cases h
      have hb2 : (Nat.beq ((im_k n st).take m).length m && Nat.ble (ab_sum ((im_k n st).drop m)) 8) = true := by rw [im_k_take, im_k_len, im_k_drop, im_sum_ok]; exact hb
      simp only [ab_ca, hm]
      rw [hb2, cond_true, im_k_take, im_k_rev, im_k_drop]
    · cases h
  · cases h
/-- a method's contract: from these arguments and this world it ends, and then Q -/
def im_ct (ro : ab_R) (T : List im_T) (d j : Nat) (as : List im_V) (w : im_W) (Q : Option im_V → im_W → Prop) : Prop := ∃ v w1, ab_Ev ro ab_codes d j (im_k w.length as) (im_w w.length T w) (v.map (im_v w.length), im_w w.length T w1, 0, 0) ∧ w1.length = w.length ∧ Q v w1
def im_en1 (v : im_V) : im_L := match v with
  | .inr (.inl x) => [some (.inr (.inl x)), none]
  | v => [some v]
def im_en (n : Nat) (as : List im_V) : im_L := as.flatMap im_en1 ++ List.replicate (n - (as.flatMap im_en1).length) none
theorem im_en_ok {n m : Nat} (as : List im_V) : ab_en m (im_k n as) = im_l n (im_en m as) := by
  have key : ∀ as : List im_V, (im_k n as).flatMap ab_e1 = im_l n (as.flatMap im_en1) := by
    intro as
    induction as with
    | nil => rfl
    | cons v r ih =>
      rw [show im_k n (v :: r) = im_v n v :: im_k n r from rfl, List.flatMap_cons, List.flatMap_cons, ih]
      unfold im_l
      rw [List.map_append]
      congr 1
      match v with
      | .inl x => rfl
      | .inr (.inl x) => rfl
      | .inr (.inr (.inl none)) => rfl
      | .inr (.inr (.inl (some x))) => rfl
      | .inr (.inr (.inr x)) => rfl
  unfold ab_en im_en
  rw [key, im_l_len]
  unfold im_l
  rw [List.map_append, List.map_replicate]
  rfl
theorem im_ct_of {ro : ab_R} {T : List im_T} {d j own nL : Nat} {ret : Option FieldType} {code : ab_C} {L0 : im_L} {as : List im_V} {w : im_W} {Q : Option im_V → im_W → Prop} {n : Nat} (hj : Nat.blt j 240 = true) (hi : ab_ini j = false) (ho : ab_ow j = own) (hr : ab_ret j = ret) (hc : ab_codes j = code) (hl : ab_nL j = nL) (hL : im_en nL as = L0) (hn : w.length = n) (hen : L0.length = nL) (h : im_wp ro (ab_Ev ro ab_codes d) own ret code n T Q (0, L0, [], w)) : im_ct ro T (d + 1) j as w Q := by
  subst hn
  subst ho
  subst hr
  subst hc
  subst hl
  subst hL
  obtain ⟨o, k, hX, v, w1, rfl, hl, hQ⟩ := h
  refine ⟨v, w1, ⟨im_blt hj, by rw [im_en_ok, im_l_len]; exact hen, k, ?_⟩, hl, hQ⟩
  rw [hi, im_en_ok]
  exact hX
/-- cells put back, told cell by cell -/
def im_lkp : List Nat → List im_E → Nat → Option im_E
  | k :: is, e :: z, i => cond (Nat.beq k i) (some e) (im_lkp is z i)
  | _, _, _ => none
def im_putm (is : List Nat) (z : List im_E) : Nat → im_W → im_W
  | _, [] => []
  | i, e :: r => (match im_lkp is z i with
    | some x => x
    | none => e) :: im_putm is z (i + 1) r
theorem im_putm_at {is : List Nat} {z : List im_E} : ∀ (w : im_W) (i k : Nat), (im_putm is z i w)[k]? = (w[k]?).map (fun e => (im_lkp is z (i + k)).getD e)
  | [], _, _ => rfl
  | e :: r, i, 0 => by
    show some (match im_lkp is z i with
      | some x => x
      | none => e) = some ((im_lkp is z (i + 0)).getD e)
    rw [Nat.add_zero]
    cases im_lkp is z i with
    | none => rfl
    | some x => rfl
  | e :: r, i, k + 1 => by
    show (im_putm is z (i + 1) r)[k]? = (r[k]?).map _
    rw [im_putm_at r (i + 1) k, show i + 1 + k = i + (k + 1) by omega]
theorem im_lkp_none {i : Nat} : ∀ {is : List Nat} {z : List im_E}, i ∉ is → im_lkp is z i = none
  | [], _, _ => rfl
  | _ :: _, [], _ => rfl
  | k :: is, e :: z, h => by
    show cond (Nat.beq k i) (some e) (im_lkp is z i) = none
    cases hb : Nat.beq k i with
    | true => exact absurd (by rw [Nat.eq_of_beq_eq_true hb]; exact List.mem_cons_self) h
    | false => exact im_lkp_none (fun q => h (List.mem_cons_of_mem _ q))
theorem im_lkp_some {i : Nat} {x : im_E} : ∀ {is : List Nat} {z : List im_E} {p : Nat}, is.Nodup → is[p]? = some i → z[p]? = some x → im_lkp is z i = some x
  | [], _, p, _, h, _ => by cases h
  | _ :: _, [], p, _, _, h => by cases h
  | k :: is, e :: z, p, hn, h1, h2 => by
    obtain ⟨hn1, hn2⟩ := List.nodup_cons.mp hn
    show cond (Nat.beq k i) (some e) (im_lkp is z i) = _
    cases p with
    | zero =>
      cases h1
      cases h2
      rw [show Nat.beq i i = true from Nat.beq_refl i]
      rfl
    | succ p =>
      have h1' : is[p]? = some i := h1
      cases hb : Nat.beq k i with
      | true =>
        have e2 := Nat.eq_of_beq_eq_true hb
        subst e2
        exact absurd (List.mem_of_getElem? h1') hn1
      | false => exact im_lkp_some hn2 h1' h2
theorem im_puts_m {is : List Nat} {z : List im_E} {w : im_W} (hn : is.Nodup) (hl : z.length = is.length) (hw : ∀ i ∈ is, i < w.length) : im_puts w is z = im_putm is z 0 w := by
  apply List.ext_getElem?
  intro i
  rw [im_putm_at, Nat.zero_add]
  by_cases h : i ∈ is
  · obtain ⟨p, hp⟩ := List.getElem?_of_mem h
    have hpl : p < z.length := by rw [hl]; exact (List.getElem?_eq_some_iff.mp hp).1
    have hz := List.getElem?_eq_getElem hpl
    rw [im_puts_in hn (hw i h) hp hz, im_lkp_some hn hp hz, List.getElem?_eq_getElem (hw i h)]
    rfl
  · rw [im_puts_out h, im_lkp_none h]
    cases w[i]? with
    | none => rfl
    | some e => rfl
section ImD
variable {ro : ab_R} {own d : Nat} {ret : Option FieldType} {code : ab_C} {n : Nat} {T : List im_T} {Q : Option im_V → im_W → Prop}
/-- a call: is, the caller's places of the callee's cells -/
theorem im_call (is : List Nat) {pc t j : Nat} {i : Instr} {L : im_L} {st as as' r : List im_V} {w wc z : im_W} {K : Option im_V → im_W → Prop} (hc : code pc = some (i, t)) (hca : im_ca own i st w = some (j, as, r)) (hct : im_ct ro T d j as' wc K) (h1 : im_rvs is as' = some as) (h2 : im_res is wc = some z) (h3 : im_get w is = some z) (h4 : is.Nodup) (hn : w.length = n) (hl : is.length < 1000) (hT : T.length < 1000)
    (k : ∀ v w1, K v w1 → ∃ v2 z1 w2, im_rvo is v = some v2 ∧ im_res is w1 = some z1 ∧ im_putm is z1 0 w = w2 ∧ im_wp ro (ab_Ev ro ab_codes d) own ret code n T Q (pc + 3, L, v2.toList ++ r, w2)) : im_wp ro (ab_Ev ro ab_codes d) own ret code n T Q (pc, L, st, w) := by
  obtain ⟨v, w1, hE, hw1, hK⟩ := hct
  obtain ⟨v2, z1, w2, g1, g2, g3, kk⟩ := k v w1 hK
  have hwc : wc.length = is.length := by rw [← im_res_len h2, im_get_len h3]
  rw [hwc] at hw1
  rw [← im_puts_m h4 (by rw [im_res_len g2, hw1]) (fun i hi => by
    obtain ⟨p, hp⟩ := List.getElem?_of_mem hi
    exact (im_get_at h3 p i hp).2)] at g3
  subst g3
  obtain ⟨o, m, hX, hQ⟩ := kk
  have hl2 : is.length + 3 * T.length < 100000 := by omega
  rw [hwc] at hE
  have hN : (im_w n T w).length = n + 3 * T.length := by rw [im_w_len, hn]
  refine ⟨o, m + 1, ⟨i, t, hc, Or.inr (Or.inr (Or.inr ⟨j, im_k n as, im_k n r, im_ca_ok hca, is ++ List.range' n (3 * T.length), im_k is.length as', im_w is.length T wc, im_w is.length T w1, v.map (im_v is.length), 0, 0, hE, ?_, ?_, im_nodup hn h3 h4, ?_, ?_⟩))⟩, hQ⟩
  · rw [hN, im_rvs_ok hl2 h1]
  · rw [hN]; exact im_is hn hwc hl2 h2 h3
  · rw [im_w_len]; omega
  · rw [hN, im_put hn hwc hw1 hl2 h3 h4 g2]
    have e : (v.map (im_v is.length)).map (ab_rv (ab_pi (is ++ List.range' n (3 * T.length)) (n + 3 * T.length))) = v2.map (im_v n) := by
      cases v with
      | none => cases g1; rfl
      | some x =>
        unfold im_rvo at g1
        dsimp only at g1
        split at g1
        · rename_i y hy
          cases g1
          show some (ab_rv _ (im_v is.length x)) = some (im_v n y)
          rw [im_rv_ok hl2 hy]
        · cases g1
    rw [e]
    have e2 : (v2.map (im_v n)).toList ++ im_k n r = im_k n (v2.toList ++ r) := by
      cases v2 with
      | none => rfl
      | some x => rfl
    rw [e2]
    exact hX
end ImD
/-! rules for rows of texts' handles -/
theorem im_tc_get : ∀ {T : List im_T} {m t : Nat}, t < T.length → ∃ fs, (im_tc m T)[3 * t]? = some (.inr (7, fs))
  | [], _, t, h => absurd h (Nat.not_lt_zero _)
  | x :: r, m, 0, _ => ⟨_, rfl⟩
  | x :: r, m, t + 1, h => by
    obtain ⟨fs, e⟩ := im_tc_get (T := r) (m := m + 3) (t := t) (by
      have : (x :: r).length = r.length + 1 := rfl
      omega)
    exact ⟨fs, e⟩
section ImR
variable {ro : ab_R} {C : Nat → List Value → ab_W → ab_O → Prop} {own : Nat} {ret : Option FieldType} {code : ab_C} {n : Nat} {T : List im_T} {Q : Option im_V → im_W → Prop}
theorem im_aal {pc t0 o m t : Nat} {i : Int} {L : im_L} {r : List im_V} {w : im_W} {g : Int → Option Nat} (hc : code pc = some (.aaload, t0)) (hw : w[o]? = some (.inr (5, m, .inr (.inl g)))) (hb : 0 ≤ i ∧ i < m ∧ i < 2147483648) (hg : g i = some t) (k : im_wp ro C own ret code n T Q (pc + 1, L, .inr (.inr (.inr t)) :: r, w)) : im_wp ro C own ret code n T Q (pc, L, .inl i :: .inr (.inr (.inl (some o))) :: r, w) := by
  refine im_g 1 (y := (pc + 1, L, .inr (.inr (.inr t)) :: r, w)) (ps := [0 ≤ i ∧ i < m ∧ i < 2147483648]) ?_ ⟨hb, trivial⟩ k
  simp only [im_go, hc, im_nx, hw, hg]
  rfl
theorem im_aas {pc t1 t2 o o2 m m2 : Nat} {i j : Int} {L : im_L} {r : List im_V} {w : im_W} {g g2 : Int → Option Nat} (hc : code pc = some (.aaload, t1)) (hc2 : code (pc + 1) = some (.aastore, t2)) (hw : w[o]? = some (.inr (5, m, .inr (.inl g)))) (hw2 : w[o2]? = some (.inr (5, m2, .inr (.inl g2)))) (hb : 0 ≤ i ∧ i < m2 ∧ i < 2147483648) (hb2 : 0 ≤ j ∧ j < m ∧ j < 2147483648) (hT : T.length < 1000) (hg : ∀ t, g2 i = some t → t < T.length) (hn : w.length = n) (k : im_wp ro C own ret code n T Q (pc + 2, L, r, w.set o (.inr (5, m, .inr (.inl (im_up g j (g2 i))))))) : im_wp ro C own ret code n T Q (pc, L, .inl i :: .inr (.inr (.inl (some o2))) :: .inl j :: .inr (.inr (.inl (some o))) :: r, w) := by
  have e1 := im_w_get (n := n) (T := T) hw
  have e2 := im_w_get (n := n) (T := T) hw2
  have e3 := im_w_set (n := n) (T := T) (e' := .inr (5, m, .inr (.inl (im_up g j (g2 i))))) hw
  obtain ⟨a1, a2⟩ := im_ix hb
  obtain ⟨b1, b2⟩ := im_ix hb2
  have hup : va_up (fun k : Nat => (g (k : Int)).map (fun q => n + 3 * min q 100000)) j.toNat ((g2 i).map (fun q => n + 3 * min q 100000)) = fun k : Nat => (im_up g j (g2 i) (k : Int)).map (fun q => n + 3 * min q 100000) := by
    funext k
    unfold va_up im_up
    by_cases e : k = j.toNat
    · rw [if_pos e, if_pos (by omega)]
    · rw [if_neg e, if_neg (by omega)]
  obtain ⟨o', kk, hX, hQ⟩ := k
  have st1 : ab_nx ro own false .aaload t1 pc (im_l n L) (im_k n (.inl i :: .inr (.inr (.inl (some o2))) :: .inl j :: .inr (.inr (.inl (some o))) :: r)) (im_w n T w) 0 0 = some ([vp_in (Int32.ofInt i) m2], pc + 1, im_l n L, va_rf ((g2 i).map (fun q => n + 3 * min q 100000)) :: .int (Int32.ofInt j) :: .ref o :: im_k n r, im_w n T w, 0, 0) := by
    simp only [ab_nx, im_k, List.map_cons, im_v, e2, im_e]
    rw [a2, Int.toNat_of_nonneg hb.1]
  have st2 : ab_nx ro own false .aastore t2 (pc + 1) (im_l n L) (va_rf ((g2 i).map (fun q => n + 3 * min q 100000)) :: .int (Int32.ofInt j) :: .ref o :: im_k n r) (im_w n T w) 0 0 = some ([vp_in (Int32.ofInt j) m], pc + 1 + 1, im_l n L, im_k n r, im_w n T (w.set o (.inr (5, m, .inr (.inl (im_up g j (g2 i)))))), 0, 0) := by
    rw [← e3]
    cases hgi : g2 i with
    | none =>
      rw [hgi] at hup
      simp only [ab_nx, Option.map_none, va_rf, e1, im_e]
      rw [b2]
      have hup' := hup
      simp only [Option.map_none] at hup'
      rw [hup']
      rfl
    | some t =>
      have ht := hg t hgi
      rw [hgi] at hup
      obtain ⟨fs, e4⟩ := im_tc_get (m := n) ht
      have e5 : (im_w n T w)[n + 3 * min t 100000]? = some (.inr (7, fs)) := by
        rw [show n + 3 * min t 100000 = w.length + 3 * t by omega, im_w_new]
        exact e4
      simp only [ab_nx, Option.map_some, va_rf, e1, e5, im_e]
      rw [b2]
      have hup' := hup
      simp only [Option.map_some] at hup'
      rw [hup']
      rfl
  exact ⟨o', kk + 1 + 1, ⟨_, _, hc, Or.inl ⟨_, _, st1, ⟨a1, trivial⟩, ⟨_, _, hc2, Or.inl ⟨_, _, st2, ⟨b1, trivial⟩, hX⟩⟩⟩⟩, hQ⟩
end ImR
