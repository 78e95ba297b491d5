/-! a land: its cells, what its methods do -/
abbrev mr (k : Nat) : im_V := .inr (.inr (.inl (some k)))
abbrev mn : im_V := .inr (.inr (.inl none))
abbrev mt (t : Nat) : im_V := .inr (.inr (.inr t))
def pl_U {α : Type} (R : Nat → α) (k : Nat) (f : α) : Nat → α := fun j => if j = k then f else R j
theorem im_up_self {α : Type} (f : Int → α) (k : Int) (x : α) : im_up f k x k = x := if_pos rfl
theorem im_up_ne {α : Type} (f : Int → α) {k j : Int} (x : α) (h : j ≠ k) : im_up f k x j = f j := if_neg h
/-- v: parishes, groups, sea, heard, lawsMade, forced, cameToSea; R: below, depths, counts, walked, from, sizes, left, terms, heardOf, heardOver; g: laws -/
def LC (o : Nat) (v : Nat → Int) (R : Nat → Int → Int) (g : Int → Option Nat) : im_W := [.inl (1, [mr (o + 1), mr (o + 2), mr (o + 3), mr (o + 4), mr (o + 5), mr (o + 6), mr (o + 7), mr (o + 8), mr (o + 9), mr (o + 10), mr (o + 11), .inl (v 0), .inl (v 1), .inl (v 2), .inl (v 3), .inl (v 4), .inl (v 5), .inl (v 6)]), .inr (0, 10, .inl (R 0)), .inr (0, 10, .inl (R 1)), .inr (0, 10, .inl (R 2)), .inr (0, 10, .inl (R 3)), .inr (0, 16, .inl (R 4)), .inr (0, 16, .inl (R 5)), .inr (0, 16, .inl (R 6)), .inr (0, 4, .inl (R 7)), .inr (0, 8, .inl (R 8)), .inr (0, 8, .inl (R 9)), .inr (5, 6, .inr (.inl g))]
/-- what holds of every land -/
def LOK (v : Nat → Int) (R : Nat → Int → Int) : Prop := (0 ≤ v 0 ∧ v 0 ≤ 10) ∧ (0 ≤ v 1 ∧ v 1 ≤ 16) ∧ (0 ≤ v 2 ∧ v 2 ≤ 99999) ∧ (0 ≤ v 3 ∧ v 3 ≤ 8) ∧ (0 ≤ v 4 ∧ v 4 ≤ 6) ∧ (-1 ≤ v 5 ∧ v 5 < v 4) ∧ (∀ p, -1 ≤ R 0 p ∧ R 0 p ≤ 9) ∧ (∀ p, 0 ≤ R 1 p ∧ R 1 p ≤ 9) ∧ (∀ p, 0 ≤ R 2 p ∧ R 2 p ≤ 999) ∧ (∀ p, 0 ≤ R 3 p ∧ R 3 p ≤ 99999) ∧ (∀ g, 0 ≤ R 4 g ∧ R 4 g ≤ 9) ∧ (∀ g, 0 ≤ R 5 g ∧ R 5 g ≤ 98) ∧ (∀ g, 0 ≤ R 6 g ∧ R 6 g ≤ 9) ∧ (0 ≤ R 7 0 ∧ 2 ≤ R 7 1 ∧ R 7 1 ≤ 99 ∧ 0 ≤ R 7 2 ∧ R 7 2 ≤ 10 ∧ 0 ≤ R 7 3 ∧ R 7 3 ≤ 9) ∧ (∀ h, 0 ≤ R 8 h ∧ R 8 h ≤ 9) ∧ (∀ h, 0 ≤ R 9 h ∧ R 9 h ≤ 98) ∧ (∀ p, 0 ≤ p → p < v 0 → R 0 p < p ∧ R 1 p ≤ p) ∧ (∀ g, 0 ≤ g → g < v 1 → R 4 g < v 0 ∧ 1 ≤ R 5 g ∧ 1 ≤ R 6 g) ∧ ∀ h, 0 ≤ h → h < v 3 → R 8 h < v 0
section Lk
variable {v : Nat → Int} {R : Nat → Int → Int}
theorem lk_par (h : LOK v R) : 0 ≤ v 0 ∧ v 0 ≤ 10 := h.1
theorem lk_grp (h : LOK v R) : 0 ≤ v 1 ∧ v 1 ≤ 16 := h.2.1
theorem lk_sea (h : LOK v R) : 0 ≤ v 2 ∧ v 2 ≤ 99999 := h.2.2.1
theorem lk_hrd (h : LOK v R) : 0 ≤ v 3 ∧ v 3 ≤ 8 := h.2.2.2.1
theorem lk_law (h : LOK v R) : 0 ≤ v 4 ∧ v 4 ≤ 6 := h.2.2.2.2.1
theorem lk_for (h : LOK v R) : -1 ≤ v 5 ∧ v 5 < v 4 := h.2.2.2.2.2.1
theorem lk_bel (h : LOK v R) (p : Int) : -1 ≤ R 0 p ∧ R 0 p ≤ 9 := h.2.2.2.2.2.2.1 p
theorem lk_dep (h : LOK v R) (p : Int) : 0 ≤ R 1 p ∧ R 1 p ≤ 9 := h.2.2.2.2.2.2.2.1 p
theorem lk_cnt (h : LOK v R) (p : Int) : 0 ≤ R 2 p ∧ R 2 p ≤ 999 := h.2.2.2.2.2.2.2.2.1 p
theorem lk_wlk (h : LOK v R) (p : Int) : 0 ≤ R 3 p ∧ R 3 p ≤ 99999 := h.2.2.2.2.2.2.2.2.2.1 p
theorem lk_frm (h : LOK v R) (g : Int) : 0 ≤ R 4 g ∧ R 4 g ≤ 9 := h.2.2.2.2.2.2.2.2.2.2.1 g
theorem lk_siz (h : LOK v R) (g : Int) : 0 ≤ R 5 g ∧ R 5 g ≤ 98 := h.2.2.2.2.2.2.2.2.2.2.2.1 g
theorem lk_lef (h : LOK v R) (g : Int) : 0 ≤ R 6 g ∧ R 6 g ≤ 9 := h.2.2.2.2.2.2.2.2.2.2.2.2.1 g
theorem lk_trm (h : LOK v R) : 0 ≤ R 7 0 ∧ 2 ≤ R 7 1 ∧ R 7 1 ≤ 99 ∧ 0 ≤ R 7 2 ∧ R 7 2 ≤ 10 ∧ 0 ≤ R 7 3 ∧ R 7 3 ≤ 9 := h.2.2.2.2.2.2.2.2.2.2.2.2.2.1
theorem lk_hof (h : LOK v R) (p : Int) : 0 ≤ R 8 p ∧ R 8 p ≤ 9 := h.2.2.2.2.2.2.2.2.2.2.2.2.2.2.1 p
theorem lk_hov (h : LOK v R) (p : Int) : 0 ≤ R 9 p ∧ R 9 p ≤ 98 := h.2.2.2.2.2.2.2.2.2.2.2.2.2.2.2.1 p
theorem lk_low (h : LOK v R) {p : Int} (h0 : 0 ≤ p) (h1 : p < v 0) : R 0 p < p ∧ R 1 p ≤ p := h.2.2.2.2.2.2.2.2.2.2.2.2.2.2.2.2.1 p h0 h1
theorem lk_liv (h : LOK v R) {g : Int} (h0 : 0 ≤ g) (h1 : g < v 1) : R 4 g < v 0 ∧ 1 ≤ R 5 g ∧ 1 ≤ R 6 g := h.2.2.2.2.2.2.2.2.2.2.2.2.2.2.2.2.2.1 g h0 h1
theorem lk_hea (h : LOK v R) {p : Int} (h0 : 0 ≤ p) (h1 : p < v 3) : R 8 p < v 0 := h.2.2.2.2.2.2.2.2.2.2.2.2.2.2.2.2.2.2 p h0 h1
end Lk
def pl_sum (f : Int → Int) : Nat → Int
  | 0 => 0
  | k + 1 => pl_sum f k + f k
theorem pl_sum_b {f : Int → Int} (h : ∀ g, 0 ≤ f g ∧ f g ≤ 98) : ∀ k, 0 ≤ pl_sum f k ∧ pl_sum f k ≤ 98 * k
  | 0 => ⟨Int.le_refl _, Int.le_refl _⟩
  | k + 1 => by
    have h1 := pl_sum_b h k
    have h2 := h k
    show 0 ≤ pl_sum f k + f k ∧ pl_sum f k + f k ≤ 98 * ((k + 1 : Nat) : Int)
    omega
theorem im_up_at {α : Type} (f : Int → α) (k j : Int) (x : α) : im_up f k x j = if j = k then x else f j := rfl
def pl_growBy (p by_ : Int) (v : Nat → Int) (R : Nat → Int → Int) : Int × (Nat → Int → Int) := if by_ < -99 ∨ 99 < by_ then (-1, R) else if ¬ (0 ≤ p ∧ p < v 0 ∧ p < 10) then (-2, R) else if R 2 p + by_ < 0 ∨ 999 < R 2 p + by_ then (-3, R) else (R 2 p + by_, pl_U R 2 (im_up (R 2) p (R 2 p + by_)))
def pl_leave (p n : Int) (v : Nat → Int) (R : Nat → Int → Int) : Nat → Int → Int := if 0 ≤ p ∧ p < v 0 ∧ p < 10 then pl_U (pl_U R 2 (im_up (R 2) p (R 2 p - n))) 3 (im_up (R 3) p (min 99999 (R 3 p + n))) else R
def pl_ad1 (u : Int) (R : Nat → Int → Int) : Int := if u = -1 then 0 else R 1 u + 1
def pl_add (u c : Int) (v : Nat → Int) (R : Nat → Int → Int) : Int × (Nat → Int) × (Nat → Int → Int) := if u < -1 ∨ v 0 ≤ u ∨ c < 0 ∨ 999 < c then (-1, v, R) else if 10 ≤ v 0 then (-5, v, R) else (v 0, pl_U v 0 (v 0 + 1), pl_U (pl_U (pl_U (pl_U R 0 (im_up (R 0) (v 0) u)) 1 (im_up (R 1) (v 0) (pl_ad1 u R))) 2 (im_up (R 2) (v 0) c)) 3 (im_up (R 3) (v 0) 0))
def pl_arr (p n : Int) (v : Nat → Int) (R : Nat → Int → Int) : (Nat → Int) × (Nat → Int → Int) := if 0 ≤ p ∧ p < v 0 ∧ p < 10 then (v, pl_U R 2 (im_up (R 2) p (min 999 (R 2 p + n)))) else (pl_U (pl_U v 2 (min 99999 (v 2 + n))) 6 (v 6 + n), R)
def pl_lend (a b n : Int) (v : Nat → Int) (R : Nat → Int → Int) : Int × (Nat → Int → Int) := if n < 1 ∨ 99 < n then (-1, R) else if ¬ (0 ≤ a ∧ a < v 0 ∧ a < 10) ∨ ¬ (0 ≤ b ∧ b < v 0 ∧ b < 10) then (-2, R) else if ¬ (R 0 a = b ∨ R 0 b = a) ∨ R 2 a < n ∨ 999 < R 2 b + n then (-3, R) else (im_up (im_up (R 2) a (R 2 a - n)) b (im_up (R 2) a (R 2 a - n) b + n) a, pl_U R 2 (im_up (im_up (R 2) a (R 2 a - n)) b (im_up (R 2) a (R 2 a - n) b + n)))
