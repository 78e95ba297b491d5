/-! a text, a machine, a court: their cells, what their methods do -/
theorem im_and15 (x : Int) : im_and x 15 = x % 16 := by
  unfold im_and
  show ((BitVec.ofInt 32 x) &&& (BitVec.ofInt 32 15)).toInt = x % 16
  have e : ((BitVec.ofInt 32 x) &&& (BitVec.ofInt 32 15)).toNat = (x % 4294967296).toNat % 16 := by
    rw [BitVec.toNat_and, show (BitVec.ofInt 32 15).toNat = 2 ^ 4 - 1 from rfl, Nat.and_two_pow_sub_one_eq_mod, BitVec.toNat_ofInt]
    rfl
  rw [BitVec.toInt_eq_toNat_cond, e, if_pos (by omega)]
  omega
theorem im_and255 (x : Int) : im_and x 255 = x % 256 := by
  unfold im_and
  show ((BitVec.ofInt 32 x) &&& (BitVec.ofInt 32 255)).toInt = x % 256
  have e : ((BitVec.ofInt 32 x) &&& (BitVec.ofInt 32 255)).toNat = (x % 4294967296).toNat % 256 := by
    rw [BitVec.toNat_and, show (BitVec.ofInt 32 255).toNat = 2 ^ 8 - 1 from rfl, Nat.and_two_pow_sub_one_eq_mod, BitVec.toNat_ofInt]
    rfl
  rw [BitVec.toInt_eq_toNat_cond, e, if_pos (by omega)]
  omega
theorem im_and1 (x : Int) : im_and x 1 = x % 2 := by
  unfold im_and
  show ((BitVec.ofInt 32 x) &&& (BitVec.ofInt 32 1)).toInt = x % 2
  have e : ((BitVec.ofInt 32 x) &&& (BitVec.ofInt 32 1)).toNat = (x % 4294967296).toNat % 2 := by
    rw [BitVec.toNat_and, show (BitVec.ofInt 32 1).toNat = 2 ^ 1 - 1 from rfl, Nat.and_two_pow_sub_one_eq_mod, BitVec.toNat_ofInt]
    rfl
  rw [BitVec.toInt_eq_toNat_cond, e, if_pos (by omega)]
  omega
theorem im_shr4 {x : Int} (h : im_ir x) : im_shr x 4 = x / 16 := by
  unfold im_shr
  rw [← Int32.toInt_toBitVec, Int32.toBitVec_shiftRight, BitVec.toInt_sshiftRight', show ((Int32.ofInt 4 &&& 31).toBitVec.smod 32).toNat = 4 by decide, Int.shiftRight_eq_div_pow, Int32.toInt_toBitVec, im_i h]
  rfl
/-- a text: used, size, oversAsked; its code, its clauses -/
def XC (o : Nat) (u : Int × Int × Int) (cl : Nat) (c : Int → Int) (kl : Nat) (k : Int → Int) : im_W := [.inl (7, [mr (o + 1), mr (o + 2), .inl u.1, .inl u.2.1, .inl u.2.2]), .inr (0, cl, .inl c), .inr (0, kl, .inl k)]
/-- a machine: is it broken; its stack -/
def MC (o : Nat) (b : Int) (s : Int → Int) : im_W := [.inl (2, [mr (o + 1), .inl b]), .inr (0, 64, .inl s)]
/-- a court: tens, over, stay, steps, barred; its machine; its words -/
def CC (o : Nat) (v : Nat → Int) (b : Int) (s wd : Int → Int) : im_W := [.inl (0, [mr (o + 1), mr (o + 3), .inl (v 0), .inl (v 1), .inl (v 2), .inl (v 3), .inl (v 4)]), .inl (2, [mr (o + 2), .inl b]), .inr (0, 64, .inl s), .inr (0, 8, .inl wd)]
def COK (c : Int → Int) : Prop := ∀ i, -2147483648 ≤ c i ∧ c i < 2147483648
def SOK (s : Int → Int) : Prop := ∀ i, -1000001000 ≤ s i ∧ s i ≤ 1000001000
def WOK (s : Int → Int) : Prop := ∀ i, -1000000000 ≤ s i ∧ s i ≤ 1000000000
def mc_far (c : Int) : Int × Int := if 1000000000 < c ∨ c < -1000000000 then (0, 1) else (c, 0)
/-- what, of two numbers: the answer, whether broken -/
def mc_cb (w a b : Int) : Int × Int := if w = 3 then mc_far (a + b) else if w = 4 then mc_far (a - b) else if w = 5 then mc_far (a * b) else if w = 8 then (if a < b then 1 else 0, 0) else if w = 9 then (if b < a then 1 else 0, 0) else if w = 10 then (if a = b then 1 else 0, 0) else if b = 0 then (0, 1) else if w = 6 then mc_far (a.tdiv b) else mc_far (a.tmod b)
theorem mc_far_b (c : Int) : -1000000000 ≤ (mc_far c).1 ∧ (mc_far c).1 ≤ 1000000000 := by
  unfold mc_far
  split
  · exact ⟨by decide, by decide⟩
  · dsimp only
    omega
theorem mc_cb_b (w a b : Int) : -1000000000 ≤ (mc_cb w a b).1 ∧ (mc_cb w a b).1 ≤ 1000000000 := by
  have h := mc_far_b
  unfold mc_cb
  split
  · exact h _
  split
  · exact h _
  split
  · exact h _
  split
  · dsimp only; split <;> decide
  split
  · dsimp only; split <;> decide
  split
  · dsimp only; split <;> decide
  split
  · exact ⟨by decide, by decide⟩
  split
  · exact h _
  · exact h _
def mc_lit (w x : Int) (wl : Int) (wd : Int → Int) : Int := if w = 1 then x else if 0 ≤ x ∧ x < wl then wd x else 0
/-- a run of code: how many stand on the stack, the stack, whether broken -/
def mc_run (c : Int → Int) (cl wl : Int) (wd : Int → Int) : Nat → Int → Int → (Int → Int) → Int × (Int → Int) × Int
  | 0, _, top, s => (top, s, 0)
  | n + 1, at_, top, s => if cl ≤ at_ then (top, s, 0) else if c at_ % 16 = 0 then (top, s, 0) else if c at_ % 16 = 1 ∨ c at_ % 16 = 2 then (if 64 ≤ top then (top, s, 1) else mc_run c cl wl wd n (at_ + 1) (top + 1) (im_up s top (mc_lit (c at_ % 16) (c at_ / 16) wl wd))) else if top < 1 ∨ (c at_ % 16 < 11 ∧ top < 2) then (top, s, 1) else if c at_ % 16 = 11 then mc_run c cl wl wd n (at_ + 1) top (im_up s (top - 1) (1 - s (top - 1))) else if c at_ % 16 < 11 then (if (mc_cb (c at_ % 16) (s (top - 2)) (s (top - 1))).2 = 0 then mc_run c cl wl wd n (at_ + 1) (top - 1) (im_up s (top - 2) (mc_cb (c at_ % 16) (s (top - 2)) (s (top - 1))).1) else (top - 1, im_up s (top - 2) (mc_cb (c at_ % 16) (s (top - 2)) (s (top - 1))).1, 1)) else if (¬ s (top - 1) = 0) ↔ c at_ % 16 = 12 then mc_run c cl wl wd n (max at_ (c at_ / 16 - 1) + 1) top s else mc_run c cl wl wd n (at_ + 1) (top - 1) s
/-- what a run leaves behind -/
def mc_val (y : Int × (Int → Int) × Int) : Int := if ¬ y.2.2 = 0 ∨ y.1 < 1 then 0 else y.2.1 0
def mc_all (c : Int → Int) (cl wl : Nat) (wd : Int → Int) (st : Int) (s : Int → Int) : Int × (Int → Int) × Int := if st < 0 then (0, s, 0) else mc_run c cl wl wd cl st 0 s
/-- a part of a text -/
def tx_part (kl : Int) (k : Int → Int) (c f : Int) : Int := if 0 ≤ c * 5 + f ∧ c * 5 + f < kl then k (c * 5 + f) else -1
theorem im_cmp_ir (x y : Int) : im_ir (im_cmp x y) := by unfold im_cmp; split; decide; split <;> decide
theorem im_cmp_pos {x y : Int} : 0 < im_cmp x y ↔ y < x := by unfold im_cmp; split; omega; split <;> omega
theorem im_cmp_nn {x y : Int} : 0 ≤ im_cmp x y ↔ y ≤ x := by unfold im_cmp; split; omega; split <;> omega
theorem im_cmp_np {x y : Int} : im_cmp x y ≤ 0 ↔ x ≤ y := by unfold im_cmp; split; omega; split <;> omega
theorem im_cmp_neg {x y : Int} : im_cmp x y < 0 ↔ x < y := by unfold im_cmp; split; omega; split <;> omega
theorem im_cmp_0 {x y : Int} : im_cmp x y = 0 ↔ x = y := by unfold im_cmp; split; omega; split <;> omega
theorem im_mulb {a b : Int} (ha : -1000001000 ≤ a ∧ a ≤ 1000001000) (hb : -1000001000 ≤ b ∧ b ≤ 1000001000) : -1000002000001000000 ≤ a * b ∧ a * b ≤ 1000002000001000000 := by
  have h1 := Int.mul_nonneg (show 0 ≤ 1000001000 - a by omega) (show 0 ≤ 1000001000 + b by omega)
  have h2 := Int.mul_nonneg (show 0 ≤ 1000001000 + a by omega) (show 0 ≤ 1000001000 - b by omega)
  have h3 := Int.mul_nonneg (show 0 ≤ 1000001000 - a by omega) (show 0 ≤ 1000001000 - b by omega)
  have h4 := Int.mul_nonneg (show 0 ≤ 1000001000 + a by omega) (show 0 ≤ 1000001000 + b by omega)
  rw [Int.sub_mul, Int.mul_add, Int.mul_add] at h1
  rw [Int.add_mul, Int.mul_sub, Int.mul_sub] at h2
  rw [Int.sub_mul, Int.mul_sub, Int.mul_sub] at h3
  rw [Int.add_mul, Int.mul_add, Int.mul_add] at h4
  omega
theorem im_tdivb {a b : Int} (ha : -1000001000 ≤ a ∧ a ≤ 1000001000) : -1000001000 ≤ a.tdiv b ∧ a.tdiv b ≤ 1000001000 := by
  have := Int.natAbs_tdiv_le_natAbs a b
  omega
theorem im_tmodb {a b : Int} (ha : -1000001000 ≤ a ∧ a ≤ 1000001000) : -1000001000 ≤ a.tmod b ∧ a.tmod b ≤ 1000001000 := by
  have h := Int.natAbs_tmod a b
  have h2 := Nat.mod_le a.natAbs b.natAbs
  omega
theorem mc_run_s {c wd : Int → Int} {cl wl a top : Int} {s : Int → Int} {n : Nat} : mc_run c cl wl wd (n + 1) a top s = if cl ≤ a then (top, s, 0) else if c a % 16 = 0 then (top, s, 0) else if c a % 16 = 1 ∨ c a % 16 = 2 then (if 64 ≤ top then (top, s, 1) else mc_run c cl wl wd n (a + 1) (top + 1) (im_up s top (mc_lit (c a % 16) (c a / 16) wl wd))) else if top < 1 ∨ (c a % 16 < 11 ∧ top < 2) then (top, s, 1) else if c a % 16 = 11 then mc_run c cl wl wd n (a + 1) top (im_up s (top - 1) (1 - s (top - 1))) else if c a % 16 < 11 then (if (mc_cb (c a % 16) (s (top - 2)) (s (top - 1))).2 = 0 then mc_run c cl wl wd n (a + 1) (top - 1) (im_up s (top - 2) (mc_cb (c a % 16) (s (top - 2)) (s (top - 1))).1) else (top - 1, im_up s (top - 2) (mc_cb (c a % 16) (s (top - 2)) (s (top - 1))).1, 1)) else if (¬ s (top - 1) = 0) ↔ c a % 16 = 12 then mc_run c cl wl wd n (max a (c a / 16 - 1) + 1) top s else mc_run c cl wl wd n (a + 1) (top - 1) s := rfl
theorem mc_run_end {c wd : Int → Int} {cl wl a top : Int} {s : Int → Int} (h : cl ≤ a) : ∀ {n : Nat}, mc_run c cl wl wd n a top s = (top, s, 0)
  | 0 => rfl
  | n + 1 => by rw [mc_run_s, if_pos h]
theorem mc_cb2 (w a b : Int) : (mc_cb w a b).2 = 0 ∨ (mc_cb w a b).2 = 1 := by
  have h : ∀ c, (mc_far c).2 = 0 ∨ (mc_far c).2 = 1 := by
    intro c
    unfold mc_far
    split
    · exact Or.inr rfl
    · exact Or.inl rfl
  unfold mc_cb
  split
  · exact h _
  split
  · exact h _
  split
  · exact h _
  split
  · exact Or.inl rfl
  split
  · exact Or.inl rfl
  split
  · exact Or.inl rfl
  split
  · exact Or.inr rfl
  split
  · exact h _
  · exact h _
theorem SOK_up {s : Int → Int} (h : SOK s) {i x : Int} (hx : -1000001000 ≤ x ∧ x ≤ 1000001000) : SOK (im_up s i x) := by
  intro j
  unfold im_up
  split
  · exact hx
  · exact h j
