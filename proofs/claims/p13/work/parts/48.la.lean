/-! what a law tells: clause by clause -/
/-- what a clause tells, if it holds -/
def cl_tell (e : Int → Int) (q : dC) : Option Int := match q.2.2.2.2 e with
  | some z => if z = 0 then none else q.2.2.1 e
  | none => none
def tl_1 (e : Int → Int) (head lo hi acc : Int) (q : dC) : Int := if q.1 = head - 1 then (match cl_tell e q with
  | some s => bd s lo hi
  | none => acc) else acc
def tl (e : Int → Int) (head lo hi : Int) : Int → List dC → Int
  | acc, [] => acc
  | acc, q :: r => tl e head lo hi (tl_1 e head lo hi acc q) r
theorem tl_app (e : Int → Int) (head lo hi : Int) : ∀ (a b : List dC) (acc : Int), tl e head lo hi acc (a ++ b) = tl e head lo hi (tl e head lo hi acc a) b
  | [], b, acc => rfl
  | q :: a, b, acc => tl_app e head lo hi a b _
theorem tl_1_no {e : Int → Int} {head lo hi acc : Int} {q : dC} (h : ¬ q.1 = head - 1) : tl_1 e head lo hi acc q = acc := if_neg h
theorem tl_1_none {e : Int → Int} {head lo hi acc : Int} {q : dC} (h : cl_tell e q = none) : tl_1 e head lo hi acc q = acc := by
  unfold tl_1
  rw [h]
  split <;> rfl
theorem tl_1_yes {e : Int → Int} {head lo hi acc s : Int} {q : dC} (h : q.1 = head - 1) (h2 : cl_tell e q = some s) : tl_1 e head lo hi acc q = bd s lo hi := by
  unfold tl_1
  rw [if_pos h, h2]
theorem cl_tell_b {e : Int → Int} {q : dC} (h : q.2.2.2.2 e = none) : cl_tell e q = none := by
  unfold cl_tell
  rw [h]
theorem cl_tell_0 {e : Int → Int} {q : dC} (h : q.2.2.2.2 e = some 0) : cl_tell e q = none := by
  unfold cl_tell
  rw [h]
  exact if_pos rfl
theorem cl_tell_z {e : Int → Int} {q : dC} {z : Int} (h : q.2.2.2.2 e = some z) (hz : ¬ z = 0) : cl_tell e q = q.2.2.1 e := by
  unfold cl_tell
  rw [h]
  exact if_neg hz
/-- a text of the class means these clauses -/
def TRL (od : Bool) (q : im_T) (Cs : List dC) : Prop := q.1.2.1 = (Cs.length : Int) ∧ ∀ (i : Nat) (cl : dC), Cs[i]? = some cl → tx_part q.2.2.1 q.2.2.2 i 0 = cl.1 ∧ tx_part q.2.2.1 q.2.2.2 i 1 = cl.2.1 ∧ (∀ wl : Nat, (wl : Int) = d_wl od → ∀ wd, mc_ev q.2.1.2 q.2.1.1 wl wd (tx_part q.2.2.1 q.2.2.2 i 2) = d_enc (cl.2.2.1 wd) ∧ mc_ev q.2.1.2 q.2.1.1 wl wd (tx_part q.2.2.1 q.2.2.2 i 3) = d_enc (cl.2.2.2.1 wd) ∧ mc_ev q.2.1.2 q.2.1.1 wl wd (tx_part q.2.2.1 q.2.2.2 i 4) = d_enc (cl.2.2.2.2 wd)) ∧ (od = false → cl.1 = 3 → cl.2.2.1 = d_1)
theorem bd_id {x a b : Int} (h : a ≤ x ∧ x ≤ b) : bd x a b = x := by
  unfold bd
  rw [if_neg (by omega), if_neg (by omega)]
theorem take_s {α : Type} {l : List α} {m : Nat} {x : α} (h : l[m]? = some x) : l.take (m + 1) = l.take m ++ [x] := by
  rw [List.take_add_one, h]
  rfl
theorem tx_lat_s (e : Int → Int × Int) (p : Int → Int → Int) (kind x : Int) (m : Nat) : tx_lat e p kind x (m + 1) = if p m 0 = kind then (if (e (p m 4)).2 = 0 ∧ ¬ (e (p m 4)).1 = 0 ∧ (e (p m 2)).2 = 0 then (e (p m 2)).1 else tx_lat e p kind x m) else tx_lat e p kind x m := rfl
/-- class and clauses tell alike -/
theorem tx_lat_tl {q : im_T} {Cs : List dC} (h : TRL false q Cs) (wd : Int → Int) {kind x lo hi : Int} (hx : lo ≤ x ∧ x ≤ hi) : ∀ m : Nat, m ≤ Cs.length → bd (tx_lat (mc_ev q.2.1.2 q.2.1.1 8 wd) (tx_part q.2.2.1 q.2.2.2) kind x m) lo hi = tl wd (kind + 1) lo hi x (Cs.take m)
  | 0, _ => bd_id hx
  | m + 1, hm => by
    have ih := tx_lat_tl h wd (kind := kind) hx m (by omega)
    have hcl : Cs[m]? = some Cs[m] := List.getElem?_eq_getElem (by omega)
    obtain ⟨p0, p1, p2, -⟩ := h.2 m _ hcl
    obtain ⟨pa, -, pc⟩ := p2 8 rfl wd
    rw [take_s hcl, tl_app, ← ih]
    show _ = tl_1 wd (kind + 1) lo hi _ _
    rw [tx_lat_s, p0, pa, pc]
    generalize Cs[m] = cl
    by_cases hk : cl.1 = kind
    · rw [if_pos hk]
      cases et : cl.2.2.2.2 wd with
      | none =>
        rw [tl_1_none (cl_tell_b et), if_neg (fun z => absurd z.1 (by decide))]
      | some z =>
        by_cases hz : z = 0
        · subst hz
          rw [tl_1_none (cl_tell_0 et), if_neg (fun z => z.2.1 rfl)]
        · cases ef : cl.2.2.1 wd with
          | none =>
            rw [tl_1_none (by rw [cl_tell_z et hz, ef]), if_neg (fun z => absurd z.2.2 (by decide))]
          | some s =>
            rw [tl_1_yes (s := s) (by omega) (by rw [cl_tell_z et hz, ef]), if_pos ⟨rfl, hz, rfl⟩]
            rfl
    · rw [if_neg hk, tl_1_no (by omega)]
theorem as_lat_tl {q : im_T} {Cs : List dC} (h : TRL false q Cs) (wd : Int → Int) {kind x lo hi : Int} (hx : lo ≤ x ∧ x ≤ hi) : bd (as_lat (some q) wd kind x) lo hi = tl wd (kind + 1) lo hi x Cs := by
  have t := tx_lat_tl h wd (kind := kind) hx Cs.length (Nat.le_refl _)
  rw [List.take_length] at t
  rw [← t]
  show bd (tx_lat _ _ kind x q.1.2.1.toNat) lo hi = _
  rw [h.1]
  rfl
theorem as_lat_3 {q : im_T} {Cs : List dC} (h : TRL false q Cs) (wd : Int → Int) : as_lat (some q) wd 3 0 = 0 ∨ as_lat (some q) wd 3 0 = 1 := by
  have key : ∀ m : Nat, m ≤ Cs.length → tx_lat (mc_ev q.2.1.2 q.2.1.1 8 wd) (tx_part q.2.2.1 q.2.2.2) 3 0 m = 0 ∨ tx_lat (mc_ev q.2.1.2 q.2.1.1 8 wd) (tx_part q.2.2.1 q.2.2.2) 3 0 m = 1 := by
    intro m
    induction m with
    | zero => intro _; exact Or.inl rfl
    | succ m ih =>
      intro hm
      have ih := ih (by omega)
      have hcl : Cs[m]? = some Cs[m] := List.getElem?_eq_getElem (by omega)
      obtain ⟨p0, p1, p2, p3⟩ := h.2 m _ hcl
      obtain ⟨pa, -, -⟩ := p2 8 rfl wd
      rw [tx_lat_s]
      by_cases hk : tx_part q.2.2.1 q.2.2.2 m 0 = 3
      · rw [if_pos hk]
        rw [p0] at hk
        rw [p3 rfl hk] at pa
        split
        · rw [pa]; exact Or.inr rfl
        · exact ih
      · rw [if_neg hk]; exact ih
  have := key q.1.2.1.toNat (by rw [h.1]; omega)
  exact this
/-- the clauses stand in the tokens from i to N -/
def LSd (c x : Int → Int) (N : Int) : Int → List dC → Prop
  | i, [] => N ≤ i
  | i, q :: r => i < N ∧ ∃ (n : Nat) (l l' j : Int), d_law c x n i l = some (.inr (j, l', q)) ∧ LSd c x N (j + 1) r
theorem d_bq_r {r : Option dR} {k : Int → Int → dM → Option dQ} {y : Int × Int × dC} (h : d_bq r k = some (.inr y)) : ∃ j l m, r = some (.inr (j, l, m)) ∧ k j l m = some (.inr y) := by
  match r, h with
  | some (.inr (j, l, m)), h => exact ⟨j, l, m, rfl, h⟩
/-- a law's clause, taken apart -/
theorem d_if_r {od : Bool} {c x : Int → Int} {n : Nat} {i l K t : Int} {a b : dM} {j l' : Int} {q : dC} (h : d_if od c x n i l K t a b = some (.inr (j, l', q))) : (c i = 5 ∧ ∃ m, dn od c x n 9 0 (i + 1) l d_0 = some (.inr (j, l', m)) ∧ q = (K, t, a, b, m)) ∨ (¬ c i = 5 ∧ j = i ∧ l' = l ∧ q = (K, t, a, b, d_1)) := by
  unfold d_if at h
  split at h
  · rename_i hc
    obtain ⟨j1, l1, m1, h1, h2⟩ := d_bq_r h
    cases h2
    exact Or.inl ⟨hc, m1, h1, rfl⟩
  · rename_i hc
    cases h
    exact Or.inr ⟨hc, rfl, rfl, rfl⟩
theorem d_law_r {c x : Int → Int} {n : Nat} {i l j l' : Int} {q : dC} (h : d_law c x n i l = some (.inr (j, l', q))) : ((1 ≤ c i ∧ c i ≤ 3) ∧ ∃ j1 l1 m1, dn false c x n 3 0 (i + 1) l d_0 = some (.inr (j1, l1, m1)) ∧ d_if false c x n j1 l1 (c i - 1) 1 m1 d_1 = some (.inr (j, l', q))) ∨ (c i = 4 ∧ d_if false c x n (i + 1) l 3 1 d_1 d_1 = some (.inr (j, l', q))) := by
  unfold d_law at h
  split at h
  · rename_i hc
    obtain ⟨j1, l1, m1, h1, h2⟩ := d_bq_r h
    exact Or.inl ⟨hc, j1, l1, m1, h1, h2⟩
  · split at h
    · rename_i hc
      exact Or.inr ⟨hc, h⟩
    · cases h
