/-! the two languages: what a row of tokens means (c: codes, x: values) -/
abbrev dM : Type := (Int → Int) → Option Int
abbrev dR : Type := Int ⊕ (Int × Int × dM)
def d_0 : dM := fun _ => some 0
def d_1 : dM := fun _ => some 1
def d_num (x : Int) : dM := fun _ => some x
def d_wd (k : Int) : dM := fun e => some (e k)
def d_op (w : Int) (a b : dM) : dM := fun e => match a e, b e with
  | some x, some y => if (mc_cb w x y).2 = 0 then some (mc_cb w x y).1 else none
  | _, _ => none
def d_not (a : dM) : dM := fun e => match a e with
  | some x => some (1 - x)
  | none => none
def d_or (a b : dM) : dM := fun e => match a e with
  | some x => if x = 0 then b e else some x
  | none => none
def d_and (a b : dM) : dM := fun e => match a e with
  | some x => if x = 0 then some x else b e
  | none => none
def d_nt (b : Bool) (a : dM) : dM := match b with
  | true => d_not a
  | false => a
/-- where a word's number stands -/
def d_wi (od : Bool) (c : Int) : Int := match od with
  | false => if c = 9 then 0 else if c = 10 then 3 else if c = 11 then 4 else if c = 12 then 5 else if c = 13 then 7 else if c = 14 then 1 else if c = 15 then 2 else 6
  | true => if c = 14 then 5 else if c = 15 then 15 else c - 16
def d_first (od : Bool) : Int := match od with
  | false => 9
  | true => 14
def d_last (od : Bool) : Int := match od with
  | false => 16
  | true => 20
def d_bind (r : Option dR) (k : Int → Int → dM → Option dR) : Option dR := match r with
  | some (.inr (i, l, m)) => k i l m
  | some (.inl f) => some (.inl f)
  | none => none
/-- "not" again and again: where it ends, whether turned -/
def d_nots (c : Int → Int) : Nat → Int → Bool → Int × Bool
  | 0, i, b => (i, b)
  | n + 1, i, b => if c i = 8 then d_nots c n (i + 1) (!b) else (i, b)
def d_tw (c : Int) : Int := if c = 142 then 5 else if c = 147 then 6 else 7
def d_sw (c : Int) : Int := if c = 143 then 3 else 4
def d_cw (c : Int) : Int := if c = 160 then 8 else if c = 162 then 9 else 10
/-- kinds: 0 part, 1 term, 2 its rest, 3 sum, 4 its rest, 5 plain, 6 that without "not", 7 both, 8 its rest, 9 test, 10 its rest; n: fuel; o: brackets open; i: the token; l: parts -/
def dn (od : Bool) (c x : Int → Int) : Nat → Nat → Int → Int → Int → dM → Option dR
  | 0, _, _, _, _, _ => none
  | n + 1, k, o, i, l, a => match k with
    | 0 => if c i = 191 then (if o = 8 then some (.inl i) else d_bind (dn od c x n 3 (o + 1) (i + 1) l d_0) (fun j l m => if c j = 193 then some (.inr (j + 1, l, m)) else some (.inl j))) else if (c i = 50 ∧ x i ≤ 1000) ∨ (d_first od ≤ c i ∧ c i ≤ d_last od) then (if l = 50 then some (.inl i) else if od = true ∧ (c i = 14 ∨ c i = 15) then (if c (i + 1) = 50 ∧ 0 ≤ x (i + 1) ∧ x (i + 1) ≤ 9 then some (.inr (i + 2, l + 1, d_wd (d_wi od (c i) + x (i + 1)))) else some (.inl (i + 1))) else some (.inr (i + 1, l + 1, if c i = 50 then d_num (x i) else d_wd (d_wi od (c i))))) else some (.inl i)
    | 1 => d_bind (dn od c x n 0 o i l d_0) (fun j l m => dn od c x n 2 o j l m)
    | 2 => if c i = 142 ∨ c i = 147 ∨ c i = 137 then d_bind (dn od c x n 0 o (i + 1) l d_0) (fun j l m => dn od c x n 2 o j l (d_op (d_tw (c i)) a m)) else some (.inr (i, l, a))
    | 3 => d_bind (dn od c x n 1 o i l d_0) (fun j l m => dn od c x n 4 o j l m)
    | 4 => if c i = 143 ∨ c i = 145 then d_bind (dn od c x n 1 o (i + 1) l d_0) (fun j l m => dn od c x n 4 o j l (d_op (d_sw (c i)) a m)) else some (.inr (i, l, a))
    | 5 => d_bind (dn od c x n 6 o (d_nots c 401 i false).1 l d_0) (fun j l m => some (.inr (j, l, d_nt (d_nots c 401 i false).2 m)))
    | 6 => if c i = 140 then (if o = 8 then some (.inl i) else d_bind (dn od c x n 9 (o + 1) (i + 1) l d_0) (fun j l m => if c j = 141 then some (.inr (j + 1, l, m)) else some (.inl j))) else d_bind (dn od c x n 3 o i l d_0) (fun j l m => if c j = 160 ∨ c j = 162 ∨ c j = 161 then d_bind (dn od c x n 3 o (j + 1) l d_0) (fun j2 l2 m2 => some (.inr (j2, l2, d_op (d_cw (c j)) m m2))) else some (.inl j))
    | 7 => d_bind (dn od c x n 5 o i l d_0) (fun j l m => dn od c x n 8 o j l m)
    | 8 => if c i = 7 then d_bind (dn od c x n 5 o (i + 1) l d_0) (fun j l m => dn od c x n 8 o j l (d_and a m)) else some (.inr (i, l, a))
    | 9 => d_bind (dn od c x n 7 o i l d_0) (fun j l m => dn od c x n 10 o j l m)
    | _ => if c i = 6 then d_bind (dn od c x n 7 o (i + 1) l d_0) (fun j l m => dn od c x n 10 o j l (d_or a m)) else some (.inr (i, l, a))
theorem dn_0 {od : Bool} {c x : Int → Int} {n : Nat} {o i l : Int} {a : dM} : dn od c x (n + 1) 0 o i l a = (if c i = 191 then (if o = 8 then some (.inl i) else d_bind (dn od c x n 3 (o + 1) (i + 1) l d_0) (fun j l m => if c j = 193 then some (.inr (j + 1, l, m)) else some (.inl j))) else if (c i = 50 ∧ x i ≤ 1000) ∨ (d_first od ≤ c i ∧ c i ≤ d_last od) then (if l = 50 then some (.inl i) else if od = true ∧ (c i = 14 ∨ c i = 15) then (if c (i + 1) = 50 ∧ 0 ≤ x (i + 1) ∧ x (i + 1) ≤ 9 then some (.inr (i + 2, l + 1, d_wd (d_wi od (c i) + x (i + 1)))) else some (.inl (i + 1))) else some (.inr (i + 1, l + 1, if c i = 50 then d_num (x i) else d_wd (d_wi od (c i))))) else some (.inl i)) := rfl
theorem dn_1 {od : Bool} {c x : Int → Int} {n : Nat} {o i l : Int} {a : dM} : dn od c x (n + 1) 1 o i l a = (d_bind (dn od c x n 0 o i l d_0) (fun j l m => dn od c x n 2 o j l m)) := rfl
theorem dn_2 {od : Bool} {c x : Int → Int} {n : Nat} {o i l : Int} {a : dM} : dn od c x (n + 1) 2 o i l a = (if c i = 142 ∨ c i = 147 ∨ c i = 137 then d_bind (dn od c x n 0 o (i + 1) l d_0) (fun j l m => dn od c x n 2 o j l (d_op (d_tw (c i)) a m)) else some (.inr (i, l, a))) := rfl
theorem dn_3 {od : Bool} {c x : Int → Int} {n : Nat} {o i l : Int} {a : dM} : dn od c x (n + 1) 3 o i l a = (d_bind (dn od c x n 1 o i l d_0) (fun j l m => dn od c x n 4 o j l m)) := rfl
theorem dn_4 {od : Bool} {c x : Int → Int} {n : Nat} {o i l : Int} {a : dM} : dn od c x (n + 1) 4 o i l a = (if c i = 143 ∨ c i = 145 then d_bind (dn od c x n 1 o (i + 1) l d_0) (fun j l m => dn od c x n 4 o j l (d_op (d_sw (c i)) a m)) else some (.inr (i, l, a))) := rfl
theorem dn_5 {od : Bool} {c x : Int → Int} {n : Nat} {o i l : Int} {a : dM} : dn od c x (n + 1) 5 o i l a = (d_bind (dn od c x n 6 o (d_nots c 401 i false).1 l d_0) (fun j l m => some (.inr (j, l, d_nt (d_nots c 401 i false).2 m)))) := rfl
theorem dn_6 {od : Bool} {c x : Int → Int} {n : Nat} {o i l : Int} {a : dM} : dn od c x (n + 1) 6 o i l a = (if c i = 140 then (if o = 8 then some (.inl i) else d_bind (dn od c x n 9 (o + 1) (i + 1) l d_0) (fun j l m => if c j = 141 then some (.inr (j + 1, l, m)) else some (.inl j))) else d_bind (dn od c x n 3 o i l d_0) (fun j l m => if c j = 160 ∨ c j = 162 ∨ c j = 161 then d_bind (dn od c x n 3 o (j + 1) l d_0) (fun j2 l2 m2 => some (.inr (j2, l2, d_op (d_cw (c j)) m m2))) else some (.inl j))) := rfl
theorem dn_7 {od : Bool} {c x : Int → Int} {n : Nat} {o i l : Int} {a : dM} : dn od c x (n + 1) 7 o i l a = (d_bind (dn od c x n 5 o i l d_0) (fun j l m => dn od c x n 8 o j l m)) := rfl
theorem dn_8 {od : Bool} {c x : Int → Int} {n : Nat} {o i l : Int} {a : dM} : dn od c x (n + 1) 8 o i l a = (if c i = 7 then d_bind (dn od c x n 5 o (i + 1) l d_0) (fun j l m => dn od c x n 8 o j l (d_and a m)) else some (.inr (i, l, a))) := rfl
theorem dn_9 {od : Bool} {c x : Int → Int} {n : Nat} {o i l : Int} {a : dM} : dn od c x (n + 1) 9 o i l a = (d_bind (dn od c x n 7 o i l d_0) (fun j l m => dn od c x n 10 o j l m)) := rfl
theorem dn_10 {od : Bool} {c x : Int → Int} {n : Nat} {o i l : Int} {a : dM} : dn od c x (n + 1) 10 o i l a = (if c i = 6 then d_bind (dn od c x n 7 o (i + 1) l d_0) (fun j l m => dn od c x n 10 o j l (d_or a m)) else some (.inr (i, l, a))) := rfl
abbrev dC : Type := Int × Int × dM × dM × dM
abbrev dQ : Type := Int ⊕ (Int × Int × dC)
def d_bq (r : Option dR) (k : Int → Int → dM → Option dQ) : Option dQ := match r with
  | some (.inr (i, l, m)) => k i l m
  | some (.inl f) => some (.inl f)
  | none => none
/-- a clause's end -/
def d_if (od : Bool) (c x : Int → Int) (n : Nat) (i l K t : Int) (a b : dM) : Option dQ := if c i = 5 then d_bq (dn od c x n 9 0 (i + 1) l d_0) (fun j l m => some (.inr (j, l, K, t, a, b, m))) else some (.inr (i, l, K, t, a, b, d_1))
def d_law (c x : Int → Int) (n : Nat) (i l : Int) : Option dQ := if 1 ≤ c i ∧ c i ≤ 3 then d_bq (dn false c x n 3 0 (i + 1) l d_0) (fun j l m => d_if false c x n j l (c i - 1) 1 m d_1) else if c i = 4 then d_if false c x n (i + 1) l 3 1 d_1 d_1 else some (.inl i)
def d_times (c x : Int → Int) (n : Nat) (i l K : Int) (a b : dM) : Option dQ := if c i = 27 then (if c (i + 1) = 50 ∧ 1 ≤ x (i + 1) ∧ x (i + 1) ≤ 20 then d_if true c x n (i + 2) l K (x (i + 1)) a b else some (.inl (i + 1))) else d_if true c x n i l K 1 a b
def d_two (c x : Int → Int) (n : Nat) (w i l K : Int) : Option dQ := d_bq (dn true c x n 3 0 (i + 1) l d_0) (fun j l m => if c j = w then d_bq (dn true c x n 3 0 (j + 1) l d_0) (fun j2 l2 m2 => d_times c x n j2 l2 K m m2) else some (.inl j))
def d_order (c x : Int → Int) (n : Nat) (i l : Int) : Option dQ := if c i = 21 then d_bq (dn true c x n 3 0 (i + 1) l d_0) (fun j l m => d_times c x n j l 0 m d_1) else if c i = 23 then d_two c x n 24 i l 2 else if c i = 25 then d_two c x n 26 i l 3 else if c i = 22 then d_times c x n (i + 1) l 1 d_1 d_1 else some (.inl i)
def d_cl (od : Bool) (c x : Int → Int) (n : Nat) (i l : Int) : Option dQ := match od with
  | false => d_law c x n i l
  | true => d_order c x n i l
/-- behind a clause; m clauses more may come -/
def d_rest (od : Bool) (c x : Int → Int) (n : Nat) (N : Int) : Nat → Int → Int → Option (Int ⊕ List dC)
  | 0, i, _ => if c i = 159 then some (.inl (i + 1)) else if i < N then some (.inl i) else some (.inr [])
  | m + 1, i, l => if c i = 159 then (match d_cl od c x n (i + 1) l with
    | some (.inr (j, l, q)) => (match d_rest od c x n N m j l with
      | some (.inr r) => some (.inr (q :: r))
      | z => z)
    | some (.inl f) => some (.inl f)
    | none => none) else if i < N then some (.inl i) else some (.inr [])
def d_all (od : Bool) (c x : Int → Int) (n : Nat) (N : Int) : Option (Int ⊕ List dC) := match d_cl od c x n 0 0 with
  | some (.inr (j, l, q)) => (match d_rest od c x n N 11 j l with
    | some (.inr r) => some (.inr (q :: r))
    | z => z)
  | some (.inl f) => some (.inl f)
  | none => none
theorem d_bind_l {r : Option dR} {k : Int → Int → dM → Option dR} {f : Int} (h : d_bind r k = some (.inl f)) : r = some (.inl f) ∨ ∃ j l m, r = some (.inr (j, l, m)) ∧ k j l m = some (.inl f) := by
  match r, h with
  | some (.inl g), h => exact Or.inl h
  | some (.inr (j, l, m)), h => exact Or.inr ⟨j, l, m, rfl, h⟩
theorem d_bind_r {r : Option dR} {k : Int → Int → dM → Option dR} {y : Int × Int × dM} (h : d_bind r k = some (.inr y)) : ∃ j l m, r = some (.inr (j, l, m)) ∧ k j l m = some (.inr y) := by
  match r, h with
  | some (.inr (j, l, m)), h => exact ⟨j, l, m, rfl, h⟩
theorem d_bind_s {r : Option dR} {k : Int → Int → dM → Option dR} {y : dR} (h : d_bind r k = some y) : (∃ f, r = some (.inl f) ∧ y = .inl f) ∨ ∃ j l m, r = some (.inr (j, l, m)) ∧ k j l m = some y := by
  match r, h with
  | some (.inl g), h => exact Or.inl ⟨g, rfl, (Option.some.inj h).symm⟩
  | some (.inr (j, l, m)), h => exact Or.inr ⟨j, l, m, rfl, h⟩
/-! code that means it: a run over it -/
theorem mc_fuel {c wd : Int → Int} {cl wl : Int} : ∀ (n n' : Nat) (a top : Int) (s : Int → Int), cl - a ≤ n → cl - a ≤ n' → mc_run c cl wl wd n a top s = mc_run c cl wl wd n' a top s := by
  intro n
  induction n with
  | zero =>
    intro n' a top s h h'
    rw [mc_run_end (by omega), mc_run_end (by omega)]
  | succ n ih =>
    intro n' a top s h h'
    by_cases e : cl ≤ a
    · rw [mc_run_end e, mc_run_end e]
    · obtain ⟨n', rfl⟩ : ∃ q, n' = q + 1 := ⟨n' - 1, by omega⟩
      rw [mc_run_s, mc_run_s]
      rw [ih n' (a + 1) (top + 1) _ (by omega) (by omega), ih n' (a + 1) top (im_up s (top - 1) (1 - s (top - 1))) (by omega) (by omega), ih n' (a + 1) (top - 1) (im_up s (top - 2) (mc_cb (c a % 16) (s (top - 2)) (s (top - 1))).1) (by omega) (by omega), ih n' (max a (c a / 16 - 1) + 1) top s (by omega) (by omega), ih n' (a + 1) (top - 1) s (by omega) (by omega)]
/-- a run with all the fuel that it needs -/
def mr_ (c : Int → Int) (cl wl : Int) (wd : Int → Int) (a top : Int) (s : Int → Int) : Int × (Int → Int) × Int := mc_run c cl wl wd (cl - a).toNat a top s
theorem mr_s {c wd : Int → Int} {cl wl a top : Int} {s : Int → Int} : mr_ c cl wl wd a top s = if cl ≤ a then (top, s, 0) else if c a % 16 = 0 then (top, s, 0) else if c a % 16 = 1 ∨ c a % 16 = 2 then (if 64 ≤ top then (top, s, 1) else mr_ c cl wl wd (a + 1) (top + 1) (im_up s top (mc_lit (c a % 16) (c a / 16) wl wd))) else if top < 1 ∨ (c a % 16 < 11 ∧ top < 2) then (top, s, 1) else if c a % 16 = 11 then mr_ c cl wl wd (a + 1) top (im_up s (top - 1) (1 - s (top - 1))) else if c a % 16 < 11 then (if (mc_cb (c a % 16) (s (top - 2)) (s (top - 1))).2 = 0 then mr_ c cl wl wd (a + 1) (top - 1) (im_up s (top - 2) (mc_cb (c a % 16) (s (top - 2)) (s (top - 1))).1) else (top - 1, im_up s (top - 2) (mc_cb (c a % 16) (s (top - 2)) (s (top - 1))).1, 1)) else if (¬ s (top - 1) = 0) ↔ c a % 16 = 12 then mr_ c cl wl wd (max a (c a / 16 - 1) + 1) top s else mr_ c cl wl wd (a + 1) (top - 1) s := by
  by_cases e : cl ≤ a
  · unfold mr_
    rw [if_pos e, mc_run_end e]
  · unfold mr_
    obtain ⟨n, hn⟩ : ∃ q, (cl - a).toNat = q + 1 := ⟨(cl - a).toNat - 1, by omega⟩
    rw [hn, mc_run_s]
    rw [mc_fuel n (cl - (a + 1)).toNat (a + 1) (top + 1) _ (by omega) (by omega), mc_fuel n (cl - (a + 1)).toNat (a + 1) top (im_up s (top - 1) (1 - s (top - 1))) (by omega) (by omega), mc_fuel n (cl - (a + 1)).toNat (a + 1) (top - 1) (im_up s (top - 2) (mc_cb (c a % 16) (s (top - 2)) (s (top - 1))).1) (by omega) (by omega), mc_fuel n (cl - (max a (c a / 16 - 1) + 1)).toNat (max a (c a / 16 - 1) + 1) top s (by omega) (by omega), mc_fuel n (cl - (a + 1)).toNat (a + 1) (top - 1) s (by omega) (by omega)]
def d_wl (od : Bool) : Int := match od with
  | false => 8
  | true => 25
/-- the code from u to t means m, and wants so many places -/
def SG (od : Bool) (c : Int → Int) (u t need : Int) (m : dM) : Prop := u ≤ t ∧ ∀ (c' : Int → Int) (cl : Int), (∀ i, u ≤ i → i < t → c' i = c i) → t ≤ cl → ∀ (wd : Int → Int) (top : Int) (s : Int → Int), 0 ≤ top → top + need ≤ 64 →
  (∀ v, m wd = some v → ∃ s', (∀ i, 0 ≤ i → i < top → s' i = s i) ∧ s' top = v ∧ mr_ c' cl (d_wl od) wd u top s = mr_ c' cl (d_wl od) wd t (top + 1) s') ∧ (m wd = none → (mr_ c' cl (d_wl od) wd u top s).2.2 = 1)
theorem SG_loc {od : Bool} {c c' : Int → Int} {u t need : Int} {m : dM} (h : SG od c u t need m) (hc : ∀ i, u ≤ i → i < t → c' i = c i) : SG od c' u t need m := ⟨h.1, fun c2 cl h1 h2 => h.2 c2 cl (fun i q1 q2 => (h1 i q1 q2).trans (hc i q1 q2)) h2⟩
theorem SG_more {od : Bool} {c : Int → Int} {u t need need' : Int} {m : dM} (h : SG od c u t need m) (hn : need ≤ need') : SG od c u t need' m := ⟨h.1, fun c2 cl h1 h2 wd top s h3 h4 => h.2 c2 cl h1 h2 wd top s h3 (by omega)⟩
theorem SG_num {od : Bool} {c : Int → Int} {u x : Int} (h1 : c u % 16 = 1) (h2 : c u / 16 = x) : SG od c u (u + 1) 1 (d_num x) := by
  refine ⟨by omega, fun c' cl hc hcl wd top s h3 h4 => ⟨fun v hv => ?_, fun hv => nomatch hv⟩⟩
  have e := hc u (by omega) (by omega)
  cases hv
  refine ⟨im_up s top x, fun i q1 q2 => im_up_ne _ _ (by omega), im_up_self _ _ _, ?_⟩
  rw [mr_s, e, if_neg (by omega), if_neg (by omega), if_pos (Or.inl h1), if_neg (by omega)]
  unfold mc_lit
  rw [if_pos h1, h2]
theorem SG_wd {od : Bool} {c : Int → Int} {u k : Int} (h1 : c u % 16 = 2) (h2 : c u / 16 = k) (h3 : 0 ≤ k ∧ k < d_wl od) : SG od c u (u + 1) 1 (d_wd k) := by
  refine ⟨by omega, fun c' cl hc hcl wd top s h4 h5 => ⟨fun v hv => ?_, fun hv => nomatch hv⟩⟩
  have e := hc u (by omega) (by omega)
  cases hv
  refine ⟨im_up s top (wd k), fun i q1 q2 => im_up_ne _ _ (by omega), im_up_self _ _ _, ?_⟩
  rw [mr_s, e, if_neg (by omega), if_neg (by omega), if_pos (Or.inr h1), if_neg (by omega)]
  unfold mc_lit
  rw [if_neg (by omega), h2, if_pos h3]
theorem SG_op {od : Bool} {c : Int → Int} {u t z na nb w : Int} {a b : dM} (ha : SG od c u t na a) (hb : SG od c t z nb b) (h1 : c z % 16 = w) (hw : 3 ≤ w ∧ w ≤ 10) : SG od c u (z + 1) (max na (nb + 1)) (d_op w a b) := by
  refine ⟨by have := ha.1; have := hb.1; omega, fun c' cl hc hcl wd top s h4 h5 => ?_⟩
  have la := ha.1
  have lb := hb.1
  have e := hc z (by omega) (by omega)
  have qa := ha.2 c' cl (fun i q1 q2 => hc i q1 (by omega)) (by omega) wd top s h4 (by omega)
  unfold d_op
  cases ea : a wd with
  | none => exact ⟨fun v hv => (nomatch hv), fun _ => qa.2 ea⟩
  | some va =>
    obtain ⟨s1, p1, p2, p3⟩ := qa.1 va ea
    have qb := hb.2 c' cl (fun i q1 q2 => hc i (by omega) (by omega)) (by omega) wd (top + 1) s1 (by omega) (by omega)
    rw [p3]
    cases eb : b wd with
    | none => exact ⟨fun v hv => (nomatch hv), fun _ => qb.2 eb⟩
    | some vb =>
      obtain ⟨s2, r1, r2, r3⟩ := qb.1 vb eb
      rw [r3]
      have k1 : s2 (top + 1 + 1 - 2) = va := by rw [show top + 1 + 1 - 2 = top by omega, r1 top h4 (by omega), p2]
      have k2 : s2 (top + 1 + 1 - 1) = vb := by rw [show top + 1 + 1 - 1 = top + 1 by omega, r2]
      have er : mr_ c' cl (d_wl od) wd z (top + 1 + 1) s2 = if (mc_cb w va vb).2 = 0 then mr_ c' cl (d_wl od) wd (z + 1) (top + 1 + 1 - 1) (im_up s2 (top + 1 + 1 - 2) (mc_cb w va vb).1) else (top + 1 + 1 - 1, im_up s2 (top + 1 + 1 - 2) (mc_cb w va vb).1, 1) := by
        rw [mr_s, e, if_neg (by omega), if_neg (by omega), if_neg (by omega), if_neg (by omega), if_neg (by omega), if_pos (by omega), k1, k2, h1]
      dsimp only
      rw [er]
      by_cases hz : (mc_cb w va vb).2 = 0
      · rw [if_pos hz, if_pos hz]
        refine ⟨fun v hv => ?_, fun hv => nomatch hv⟩
        cases hv
        refine ⟨im_up s2 (top + 1 + 1 - 2) (mc_cb w va vb).1, fun i q1 q2 => ?_, ?_, ?_⟩
        · rw [im_up_ne _ _ (by omega), r1 i q1 (by omega), p1 i q1 q2]
        · rw [show top + 1 + 1 - 2 = top by omega, im_up_self]
        · rw [show top + 1 + 1 - 1 = top + 1 by omega]
      · rw [if_neg hz, if_neg hz]
        exact ⟨fun v hv => (nomatch hv), fun _ => rfl⟩
theorem SG_not {od : Bool} {c : Int → Int} {u z na : Int} {a : dM} (ha : SG od c u z na a) (h1 : c z % 16 = 11) : SG od c u (z + 1) na (d_not a) := by
  refine ⟨by have := ha.1; omega, fun c' cl hc hcl wd top s h4 h5 => ?_⟩
  have la := ha.1
  have e := hc z (by omega) (by omega)
  have qa := ha.2 c' cl (fun i q1 q2 => hc i q1 (by omega)) (by omega) wd top s h4 (by omega)
  unfold d_not
  cases ea : a wd with
  | none => exact ⟨fun v hv => (nomatch hv), fun _ => qa.2 ea⟩
  | some va =>
    obtain ⟨s1, p1, p2, p3⟩ := qa.1 va ea
    rw [p3]
    refine ⟨fun v hv => ?_, fun hv => nomatch hv⟩
    cases hv
    refine ⟨im_up s1 (top + 1 - 1) (1 - s1 (top + 1 - 1)), fun i q1 q2 => ?_, ?_, ?_⟩
    · rw [im_up_ne _ _ (by omega), p1 i q1 q2]
    · rw [show top + 1 - 1 = top by omega, im_up_self, p2]
    · rw [mr_s, e, if_neg (by omega), if_neg (by omega), if_neg (by omega), if_neg (by omega), if_pos h1]
theorem SG_or {od : Bool} {c : Int → Int} {u z t na nb : Int} {a b : dM} (ha : SG od c u z na a) (hb : SG od c (z + 1) t nb b) (h1 : c z % 16 = 12) (h2 : c z / 16 = t) : SG od c u t (max na nb) (d_or a b) := by
  refine ⟨by have := ha.1; have := hb.1; omega, fun c' cl hc hcl wd top s h4 h5 => ?_⟩
  have la := ha.1
  have lb := hb.1
  have e := hc z (by omega) (by omega)
  have qa := ha.2 c' cl (fun i q1 q2 => hc i q1 (by omega)) (by omega) wd top s h4 (by omega)
  unfold d_or
  cases ea : a wd with
  | none => exact ⟨fun v hv => (nomatch hv), fun _ => qa.2 ea⟩
  | some va =>
    obtain ⟨s1, p1, p2, p3⟩ := qa.1 va ea
    rw [p3]
    dsimp only
    have k1 : s1 (top + 1 - 1) = va := by rw [show top + 1 - 1 = top by omega, p2]
    have er : mr_ c' cl (d_wl od) wd z (top + 1) s1 = if va = 0 then mr_ c' cl (d_wl od) wd (z + 1) top s1 else mr_ c' cl (d_wl od) wd t (top + 1) s1 := by
      rw [mr_s, e, if_neg (by omega), if_neg (by omega), if_neg (by omega), if_neg (by omega), if_neg (by omega), if_neg (by omega), k1, h1, h2, show max z (t - 1) + 1 = t by omega, show top + 1 - 1 = top by omega]
      by_cases hv : va = 0
      · rw [if_pos hv, if_neg (fun z => (z.mpr rfl) hv)]
      · rw [if_neg hv, if_pos ⟨fun _ => rfl, fun _ => hv⟩]
    rw [er]
    by_cases hv : va = 0
    · rw [if_pos hv, if_pos hv]
      have qb := hb.2 c' cl (fun i q1 q2 => hc i (by omega) (by omega)) (by omega) wd top s1 h4 (by omega)
      refine ⟨fun v hv => ?_, qb.2⟩
      obtain ⟨s2, r1, r2, r3⟩ := qb.1 v hv
      exact ⟨s2, fun i q1 q2 => (r1 i q1 q2).trans (p1 i q1 q2), r2, r3⟩
    · rw [if_neg hv, if_neg hv]
      refine ⟨fun v hv => ?_, fun hv => nomatch hv⟩
      cases hv
      exact ⟨s1, p1, p2, rfl⟩
theorem SG_and {od : Bool} {c : Int → Int} {u z t na nb : Int} {a b : dM} (ha : SG od c u z na a) (hb : SG od c (z + 1) t nb b) (h1 : c z % 16 = 13) (h2 : c z / 16 = t) : SG od c u t (max na nb) (d_and a b) := by
  refine ⟨by have := ha.1; have := hb.1; omega, fun c' cl hc hcl wd top s h4 h5 => ?_⟩
  have la := ha.1
  have lb := hb.1
  have e := hc z (by omega) (by omega)
  have qa := ha.2 c' cl (fun i q1 q2 => hc i q1 (by omega)) (by omega) wd top s h4 (by omega)
  unfold d_and
  cases ea : a wd with
  | none => exact ⟨fun v hv => (nomatch hv), fun _ => qa.2 ea⟩
  | some va =>
    obtain ⟨s1, p1, p2, p3⟩ := qa.1 va ea
    rw [p3]
    dsimp only
    have k1 : s1 (top + 1 - 1) = va := by rw [show top + 1 - 1 = top by omega, p2]
    have er : mr_ c' cl (d_wl od) wd z (top + 1) s1 = if va = 0 then mr_ c' cl (d_wl od) wd t (top + 1) s1 else mr_ c' cl (d_wl od) wd (z + 1) top s1 := by
      rw [mr_s, e, if_neg (by omega), if_neg (by omega), if_neg (by omega), if_neg (by omega), if_neg (by omega), if_neg (by omega), k1, h1, h2, show max z (t - 1) + 1 = t by omega, show top + 1 - 1 = top by omega]
      by_cases hv : va = 0
      · rw [if_pos hv, if_pos ⟨fun q => absurd hv q, fun q => absurd q (by decide)⟩]
      · rw [if_neg hv, if_neg (fun z => absurd (z.mp hv) (by decide))]
    rw [er]
    by_cases hv : va = 0
    · rw [if_pos hv, if_pos hv]
      refine ⟨fun v hv => ?_, fun hv => nomatch hv⟩
      cases hv
      exact ⟨s1, p1, p2, rfl⟩
    · rw [if_neg hv, if_neg hv]
      have qb := hb.2 c' cl (fun i q1 q2 => hc i (by omega) (by omega)) (by omega) wd top s1 h4 (by omega)
      refine ⟨fun v hv => ?_, qb.2⟩
      obtain ⟨s2, r1, r2, r3⟩ := qb.1 v hv
      exact ⟨s2, fun i q1 q2 => (r1 i q1 q2).trans (p1 i q1 q2), r2, r3⟩
theorem SG_nt {od : Bool} {c : Int → Int} {u z na : Int} {a : dM} (ha : SG od c u z na a) (h1 : c z % 16 = 11) : SG od c u (z + 1) na (d_nt true a) := SG_not ha h1
def d_enc (r : Option Int) : Int × Int := match r with
  | some v => (v, 0)
  | none => (0, 1)
/-- what code comes to that ends in a stop -/
theorem SG_ev {od : Bool} {c : Int → Int} {u t need : Int} {m : dM} {cl wl : Nat} (h : SG od c u t need m) (hu : 0 ≤ u) (hn : need ≤ 64) (hwl : (wl : Int) = d_wl od) (h1 : t = cl ∨ (t < cl ∧ c t % 16 = 0)) (wd : Int → Int) : mc_ev c cl wl wd u = d_enc (m wd) := by
  have q := h.2 c cl (fun _ _ _ => rfl) (by omega) wd 0 (fun _ => 0) (by omega) (by omega)
  have e0 : mc_run c cl wl wd cl u 0 (fun _ => 0) = mr_ c cl (d_wl od) wd u 0 (fun _ => 0) := by
    unfold mr_
    rw [← hwl]
    exact mc_fuel _ _ _ _ _ (by omega) (by omega)
  unfold mc_ev mc_ret mc_all
  rw [if_neg (by omega), if_neg (by omega), e0]
  cases em : m wd with
  | none =>
    have h2 := q.2 em
    unfold mc_val
    rw [h2, if_pos (Or.inl (by decide))]
    rfl
  | some v =>
    obtain ⟨s1, p1, p2, p3⟩ := q.1 v em
    have e1 : mr_ c cl (d_wl od) wd t (0 + 1) s1 = (1, s1, 0) := by
      rw [mr_s]
      by_cases e : (cl : Int) ≤ t
      · rw [if_pos e]; rfl
      · rw [if_neg e, if_pos (by omega)]; rfl
    rw [p3, e1]
    unfold mc_val
    rw [if_neg (by dsimp only; omega)]
    dsimp only
    rw [p2]
    rfl
def e_bi (b : Bool) : Int := match b with
  | true => 1
  | false => 0
/-! tokens go forth -/
theorem d_nots_ge (c : Int → Int) : ∀ (n : Nat) (i : Int) (b : Bool), i ≤ (d_nots c n i b).1
  | 0, i, _ => Int.le_refl i
  | n + 1, i, b => by
    unfold d_nots
    split
    · have := d_nots_ge c n (i + 1) (!b); omega
    · exact Int.le_refl i
theorem dn_ge {od : Bool} {c x : Int → Int} : ∀ (n k : Nat) (o i l : Int) (a : dM) (j l' : Int) (m : dM), k ≤ 10 → dn od c x n k o i l a = some (.inr (j, l', m)) → i ≤ j ∧ ((k = 0 ∨ k = 1 ∨ k = 3 ∨ k = 5 ∨ k = 6 ∨ k = 7 ∨ k = 9) → i < j) := by
  intro n
  induction n with
  | zero => intro k o i l a j l' m hk h; cases h
  | succ n ih =>
    intro k o i l a j l' m hk h
    have hc : k = 0 ∨ k = 1 ∨ k = 2 ∨ k = 3 ∨ k = 4 ∨ k = 5 ∨ k = 6 ∨ k = 7 ∨ k = 8 ∨ k = 9 ∨ k = 10 := by omega
    rcases hc with rfl | rfl | rfl | rfl | rfl | rfl | rfl | rfl | rfl | rfl | rfl
    · rw [dn_0] at h
      split at h
      · split at h
        · cases h
        · obtain ⟨j1, l1, m1, h1, h2⟩ := d_bind_r h
          have := (ih 3 _ _ _ _ _ _ _ (by decide) h1).1
          split at h2
          · cases h2; omega
          · cases h2
      · split at h
        · split at h
          · cases h
          · split at h
            · split at h
              · cases h; omega
              · cases h
            · cases h; omega
        · cases h
    · rw [dn_1] at h
      obtain ⟨j1, l1, m1, h1, h2⟩ := d_bind_r h
      have q1 := (ih 0 _ _ _ _ _ _ _ (by decide) h1).2 (by omega)
      have q2 := (ih 2 _ _ _ _ _ _ _ (by decide) h2).1
      omega
    · rw [dn_2] at h
      split at h
      · obtain ⟨j1, l1, m1, h1, h2⟩ := d_bind_r h
        have q1 := (ih 0 _ _ _ _ _ _ _ (by decide) h1).1
        have q2 := (ih 2 _ _ _ _ _ _ _ (by decide) h2).1
        omega
      · cases h; omega
    · rw [dn_3] at h
      obtain ⟨j1, l1, m1, h1, h2⟩ := d_bind_r h
      have q1 := (ih 1 _ _ _ _ _ _ _ (by decide) h1).2 (by omega)
      have q2 := (ih 4 _ _ _ _ _ _ _ (by decide) h2).1
      omega
    · rw [dn_4] at h
      split at h
      · obtain ⟨j1, l1, m1, h1, h2⟩ := d_bind_r h
        have q1 := (ih 1 _ _ _ _ _ _ _ (by decide) h1).1
        have q2 := (ih 4 _ _ _ _ _ _ _ (by decide) h2).1
        omega
      · cases h; omega
    · rw [dn_5] at h
      obtain ⟨j1, l1, m1, h1, h2⟩ := d_bind_r h
      have q1 := (ih 6 _ _ _ _ _ _ _ (by decide) h1).2 (by omega)
      have q2 := d_nots_ge c 401 i false
      cases h2
      omega
    · rw [dn_6] at h
      split at h
      · split at h
        · cases h
        · obtain ⟨j1, l1, m1, h1, h2⟩ := d_bind_r h
          have := (ih 9 _ _ _ _ _ _ _ (by decide) h1).1
          split at h2
          · cases h2; omega
          · cases h2
      · obtain ⟨j1, l1, m1, h1, h2⟩ := d_bind_r h
        have q1 := (ih 3 _ _ _ _ _ _ _ (by decide) h1).2 (by omega)
        split at h2
        · obtain ⟨j2, l2, m2, h3, h4⟩ := d_bind_r h2
          have q2 := (ih 3 _ _ _ _ _ _ _ (by decide) h3).1
          cases h4
          omega
        · cases h2
    · rw [dn_7] at h
      obtain ⟨j1, l1, m1, h1, h2⟩ := d_bind_r h
      have q1 := (ih 5 _ _ _ _ _ _ _ (by decide) h1).2 (by omega)
      have q2 := (ih 8 _ _ _ _ _ _ _ (by decide) h2).1
      omega
    · rw [dn_8] at h
      split at h
      · obtain ⟨j1, l1, m1, h1, h2⟩ := d_bind_r h
        have q1 := (ih 5 _ _ _ _ _ _ _ (by decide) h1).1
        have q2 := (ih 8 _ _ _ _ _ _ _ (by decide) h2).1
        omega
      · cases h; omega
    · rw [dn_9] at h
      obtain ⟨j1, l1, m1, h1, h2⟩ := d_bind_r h
      have q1 := (ih 7 _ _ _ _ _ _ _ (by decide) h1).2 (by omega)
      have q2 := (ih 10 _ _ _ _ _ _ _ (by decide) h2).1
      omega
    · rw [dn_10] at h
      split at h
      · obtain ⟨j1, l1, m1, h1, h2⟩ := d_bind_r h
        have q1 := (ih 7 _ _ _ _ _ _ _ (by decide) h1).1
        have q2 := (ih 10 _ _ _ _ _ _ _ (by decide) h2).1
        omega
      · cases h; omega
/-- behind "not" nothing positive begins with "not" -/
theorem dn_6_not {od : Bool} {c x : Int → Int} {n : Nat} {o i l : Int} {a : dM} {y : Int × Int × dM} (h : dn od c x n 6 o i l a = some (.inr y)) : ¬ c i = 8 := by
  intro hc
  cases n with
  | zero => cases h
  | succ n =>
    rw [dn_6, if_neg (by omega)] at h
    obtain ⟨j1, l1, m1, h1, -⟩ := d_bind_r h
    cases n with
    | zero => cases h1
    | succ n =>
      rw [dn_3] at h1
      obtain ⟨j2, l2, m2, h2, -⟩ := d_bind_r h1
      cases n with
      | zero => cases h2
      | succ n =>
        rw [dn_1] at h2
        obtain ⟨j3, l3, m3, h3, -⟩ := d_bind_r h2
        cases n with
        | zero => cases h3
        | succ n =>
          have k1 : 9 ≤ d_first od := by cases od <;> decide
          rw [dn_0, if_neg (by omega), if_neg (by omega)] at h3
          cases h3
theorem d_nots_le {c : Int → Int} {N : Int} (hN : ∀ k, N ≤ k → c k = 0) : ∀ (n : Nat) (i : Int) (b : Bool), i ≤ N → (d_nots c n i b).1 ≤ N
  | 0, _, _, h => h
  | n + 1, i, b, h => by
    unfold d_nots
    split
    · rename_i q
      refine d_nots_le hN n (i + 1) (!b) ?_
      by_cases e : N ≤ i
      · have := hN i e; omega
      · omega
    · exact h
/-- nothing is read behind the end -/
theorem dn_le {od : Bool} {c x : Int → Int} {N : Int} (hN : ∀ k, N ≤ k → c k = 0) : ∀ (n k : Nat) (o i l : Int) (a : dM) (j l' : Int) (m : dM), k ≤ 10 → i ≤ N → dn od c x n k o i l a = some (.inr (j, l', m)) → j ≤ N := by
  have hin : ∀ i, ¬ c i = 0 → i + 1 ≤ N := by
    intro i h
    by_cases e : N ≤ i
    · exact absurd (hN i e) h
    · omega
  intro n
  induction n with
  | zero => intro k o i l a j l' m hk hi h; cases h
  | succ n ih =>
    intro k o i l a j l' m hk hi h
    have hc : k = 0 ∨ k = 1 ∨ k = 2 ∨ k = 3 ∨ k = 4 ∨ k = 5 ∨ k = 6 ∨ k = 7 ∨ k = 8 ∨ k = 9 ∨ k = 10 := by omega
    rcases hc with rfl | rfl | rfl | rfl | rfl | rfl | rfl | rfl | rfl | rfl | rfl
    · rw [dn_0] at h
      split at h
      · rename_i hc
        split at h
        · cases h
        · obtain ⟨j1, l1, m1, h1, h2⟩ := d_bind_r h
          split at h2
          · rename_i hc2
            cases h2
            exact hin _ (by omega)
          · cases h2
      · split at h
        · rename_i hp
          have k1 : 9 ≤ d_first od := by cases od <;> decide
          split at h
          · cases h
          · split at h
            · split at h
              · rename_i hq
                cases h
                have := hin _ (show ¬ c (i + 1) = 0 by omega)
                omega
              · cases h
            · cases h
              exact hin _ (by omega)
        · cases h
    · rw [dn_1] at h
      obtain ⟨j1, l1, m1, h1, h2⟩ := d_bind_r h
      exact ih 2 _ _ _ _ _ _ _ (by decide) (ih 0 _ _ _ _ _ _ _ (by decide) hi h1) h2
    · rw [dn_2] at h
      split at h
      · obtain ⟨j1, l1, m1, h1, h2⟩ := d_bind_r h
        exact ih 2 _ _ _ _ _ _ _ (by decide) (ih 0 _ _ _ _ _ _ _ (by decide) (hin _ (by omega)) h1) h2
      · cases h; exact hi
    · rw [dn_3] at h
      obtain ⟨j1, l1, m1, h1, h2⟩ := d_bind_r h
      exact ih 4 _ _ _ _ _ _ _ (by decide) (ih 1 _ _ _ _ _ _ _ (by decide) hi h1) h2
    · rw [dn_4] at h
      split at h
      · obtain ⟨j1, l1, m1, h1, h2⟩ := d_bind_r h
        exact ih 4 _ _ _ _ _ _ _ (by decide) (ih 1 _ _ _ _ _ _ _ (by decide) (hin _ (by omega)) h1) h2
      · cases h; exact hi
    · rw [dn_5] at h
      obtain ⟨j1, l1, m1, h1, h2⟩ := d_bind_r h
      have q2 := ih 6 _ _ _ _ _ _ _ (by decide) (d_nots_le hN 401 i false hi) h1
      cases h2
      exact q2
    · rw [dn_6] at h
      split at h
      · split at h
        · cases h
        · obtain ⟨j1, l1, m1, h1, h2⟩ := d_bind_r h
          split at h2
          · cases h2
            exact hin _ (by omega)
          · cases h2
      · obtain ⟨j1, l1, m1, h1, h2⟩ := d_bind_r h
        split at h2
        · obtain ⟨j2, l2, m2, h3, h4⟩ := d_bind_r h2
          have q2 := ih 3 _ _ _ _ _ _ _ (by decide) (hin _ (by omega)) h3
          cases h4
          exact q2
        · cases h2
    · rw [dn_7] at h
      obtain ⟨j1, l1, m1, h1, h2⟩ := d_bind_r h
      exact ih 8 _ _ _ _ _ _ _ (by decide) (ih 5 _ _ _ _ _ _ _ (by decide) hi h1) h2
    · rw [dn_8] at h
      split at h
      · obtain ⟨j1, l1, m1, h1, h2⟩ := d_bind_r h
        exact ih 8 _ _ _ _ _ _ _ (by decide) (ih 5 _ _ _ _ _ _ _ (by decide) (hin _ (by omega)) h1) h2
      · cases h; exact hi
    · rw [dn_9] at h
      obtain ⟨j1, l1, m1, h1, h2⟩ := d_bind_r h
      exact ih 10 _ _ _ _ _ _ _ (by decide) (ih 7 _ _ _ _ _ _ _ (by decide) hi h1) h2
    · rw [dn_10] at h
      split at h
      · obtain ⟨j1, l1, m1, h1, h2⟩ := d_bind_r h
        exact ih 10 _ _ _ _ _ _ _ (by decide) (ih 7 _ _ _ _ _ _ _ (by decide) (hin _ (by omega)) h1) h2
      · cases h; exact hi
/-- a part that is no bracket -/
theorem dn_leaf_f {c x : Int → Int} {n : Nat} {o i l j l' : Int} {a m : dM} (h : dn false c x (n + 1) 0 o i l a = some (.inr (j, l', m))) (hc : ¬ c i = 191) : j = i + 1 ∧ ((c i = 50 ∧ x i ≤ 1000 ∧ m = d_num (x i)) ∨ ((9 ≤ c i ∧ c i ≤ 16) ∧ m = d_wd (d_wi false (c i)))) := by
  rw [dn_0, if_neg hc] at h
  split at h
  · rename_i hp
    have hp' : (c i = 50 ∧ x i ≤ 1000) ∨ (9 ≤ c i ∧ c i ≤ 16) := hp
    split at h
    · cases h
    · rw [if_neg (fun q => absurd q.1 (by decide))] at h
      by_cases e : c i = 50
      · rw [if_pos e] at h
        cases h
        exact ⟨rfl, Or.inl ⟨e, by omega, rfl⟩⟩
      · rw [if_neg e] at h
        cases h
        exact ⟨rfl, Or.inr ⟨by omega, rfl⟩⟩
  · cases h
theorem dn_leaf_t {c x : Int → Int} {n : Nat} {o i l j l' : Int} {a m : dM} (h : dn true c x (n + 1) 0 o i l a = some (.inr (j, l', m))) (hc : ¬ c i = 191) : (c i = 50 ∧ x i ≤ 1000 ∧ j = i + 1 ∧ m = d_num (x i)) ∨ ((16 ≤ c i ∧ c i ≤ 20) ∧ j = i + 1 ∧ m = d_wd (d_wi true (c i))) ∨ ((c i = 14 ∨ c i = 15) ∧ c (i + 1) = 50 ∧ (0 ≤ x (i + 1) ∧ x (i + 1) ≤ 9) ∧ j = i + 2 ∧ m = d_wd (d_wi true (c i) + x (i + 1))) := by
  rw [dn_0, if_neg hc] at h
  split at h
  · rename_i hp
    have hp' : (c i = 50 ∧ x i ≤ 1000) ∨ (14 ≤ c i ∧ c i ≤ 20) := hp
    split at h
    · cases h
    · by_cases e2 : c i = 14 ∨ c i = 15
      · rw [if_pos ⟨rfl, e2⟩] at h
        split at h
        · rename_i hq
          cases h
          exact Or.inr (Or.inr ⟨e2, hq.1, hq.2, rfl, rfl⟩)
        · cases h
      · rw [if_neg (fun q => e2 q.2)] at h
        by_cases e : c i = 50
        · rw [if_pos e] at h
          cases h
          exact Or.inl ⟨e, by omega, rfl, rfl⟩
        · rw [if_neg e] at h
          cases h
          exact Or.inr (Or.inl ⟨by omega, rfl, rfl⟩)
  · cases h
