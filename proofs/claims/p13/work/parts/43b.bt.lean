/-! bits -/
theorem im_or_nat {a b : Nat} (ha : a < 2147483648) (hb : b < 2147483648) : im_or a b = ((a ||| b : Nat) : Int) := by
  unfold im_or
  show ((BitVec.ofInt 32 a) ||| (BitVec.ofInt 32 b)).toInt = _
  have ea : (BitVec.ofInt 32 (a : Int)).toNat = a := by rw [BitVec.toNat_ofInt]; omega
  have eb : (BitVec.ofInt 32 (b : Int)).toNat = b := by rw [BitVec.toNat_ofInt]; omega
  have e : ((BitVec.ofInt 32 (a : Int)) ||| (BitVec.ofInt 32 (b : Int))).toNat = a ||| b := by rw [BitVec.toNat_or, ea, eb]
  have hlt : a ||| b < 2 ^ 31 := Nat.or_lt_two_pow ha hb
  rw [BitVec.toInt_eq_toNat_cond, e, if_pos (by omega)]
theorem im_shr_p {x : Int} (h : im_ir x) : ∀ p : Nat, p < 10 → im_shr x p = x / 2 ^ p := by
  intro p hp
  have e : ((Int32.ofInt (p : Int) &&& 31).toBitVec.smod 32).toNat = p := by
    match p, hp with
    | 0, _ => decide
    | 1, _ => decide
    | 2, _ => decide
    | 3, _ => decide
    | 4, _ => decide
    | 5, _ => decide
    | 6, _ => decide
    | 7, _ => decide
    | 8, _ => decide
    | 9, _ => decide
    | z + 10, hz => omega
  unfold im_shr
  rw [← Int32.toInt_toBitVec, Int32.toBitVec_shiftRight, BitVec.toInt_sshiftRight', e, Int.shiftRight_eq_div_pow, Int32.toInt_toBitVec, im_i h]
  rfl
theorem im_shl1 : ∀ p : Nat, p < 10 → im_shl 1 p = ((2 ^ p : Nat) : Int) := by
  intro p hp
  match p, hp with
  | 0, _ => decide
  | 1, _ => decide
  | 2, _ => decide
  | 3, _ => decide
  | 4, _ => decide
  | 5, _ => decide
  | 6, _ => decide
  | 7, _ => decide
  | 8, _ => decide
  | 9, _ => decide
  | z + 10, hz => omega
/-- a bit is set -/
def BT (u p : Int) : Prop := ¬ im_and (im_shr u p) 1 = 0
theorem BT_nat {u p : Nat} (hu : u ≤ 1023) (hp : p < 10) : BT u p ↔ u.testBit p = true := by
  unfold BT
  rw [im_shr_p (by constructor <;> omega) p hp, im_and1, Nat.testBit_eq_decide_div_mod_eq]
  rw [decide_eq_true_eq]
  have e : ((u : Int) / 2 ^ p) % 2 = ((u / 2 ^ p % 2 : Nat) : Int) := by simp
  rw [e]
  omega
theorem BT_or {u p : Int} (hu : 0 ≤ u ∧ u ≤ 1023) (hp : 0 ≤ p ∧ p < 10) : (0 ≤ im_or u (im_shl 1 p) ∧ im_or u (im_shl 1 p) ≤ 1023) ∧ BT (im_or u (im_shl 1 p)) p ∧ ∀ x, 0 ≤ x → x < 10 → BT u x → BT (im_or u (im_shl 1 p)) x := by
  obtain ⟨a, rfl⟩ : ∃ a : Nat, u = a := ⟨u.toNat, by omega⟩
  obtain ⟨b, rfl⟩ : ∃ b : Nat, p = b := ⟨p.toNat, by omega⟩
  have hb : b < 10 := by omega
  have h2 : 2 ^ b < 2 ^ 10 := Nat.pow_lt_pow_right (by decide) hb
  have h3 : a ||| 2 ^ b < 2 ^ 10 := Nat.or_lt_two_pow (by omega) h2
  rw [im_shl1 b hb, im_or_nat (by omega) (by omega)]
  refine ⟨by omega, ?_, fun x q1 q2 q3 => ?_⟩
  · rw [BT_nat (by omega) hb, Nat.testBit_or, Nat.testBit_two_pow_self, Bool.or_true]
  · obtain ⟨y, rfl⟩ : ∃ y : Nat, x = y := ⟨x.toNat, by omega⟩
    rw [BT_nat (by omega) (by omega)] at q3 ⊢
    rw [Nat.testBit_or, q3, Bool.true_or]
theorem BT_or_iff {u p : Int} (hu : 0 ≤ u ∧ u ≤ 1023) (hp : 0 ≤ p ∧ p < 10) : ∀ x, 0 ≤ x → x < 10 → BT (im_or u (im_shl 1 p)) x → BT u x ∨ x = p := by
  obtain ⟨a, rfl⟩ : ∃ a : Nat, u = a := ⟨u.toNat, by omega⟩
  obtain ⟨b, rfl⟩ : ∃ b : Nat, p = b := ⟨p.toNat, by omega⟩
  have hb : b < 10 := by omega
  have h2 : 2 ^ b < 2 ^ 10 := Nat.pow_lt_pow_right (by decide) hb
  have h3 : a ||| 2 ^ b < 2 ^ 10 := Nat.or_lt_two_pow (by omega) h2
  rw [im_shl1 b hb, im_or_nat (by omega) (by omega)]
  intro x q1 q2 q3
  obtain ⟨y, rfl⟩ : ∃ y : Nat, x = y := ⟨x.toNat, by omega⟩
  rw [BT_nat (by omega) (by omega), Nat.testBit_or, Bool.or_eq_true] at q3
  rcases q3 with q3 | q3
  · exact Or.inl ((BT_nat (by omega) (by omega)).mpr q3)
  · rw [Nat.testBit_two_pow] at q3
    have := of_decide_eq_true q3
    exact Or.inr (by omega)
theorem im_code {x w : Int} (hx : 0 ≤ x ∧ x ≤ 5000) (hw : 0 ≤ w ∧ w ≤ 15) : im_or (im_shl x 4) w = 16 * x + w := by
  obtain ⟨a, rfl⟩ : ∃ a : Nat, x = a := ⟨x.toNat, by omega⟩
  obtain ⟨b, rfl⟩ : ∃ b : Nat, w = b := ⟨w.toNat, by omega⟩
  have e : im_shl (a : Int) 4 = ((a * 16 : Nat) : Int) := by
    unfold im_shl
    have e4 : ((Int32.ofInt 4 &&& 31).toBitVec.smod 32).toNat = 4 := by decide
    have ea : (BitVec.ofInt 32 (a : Int)).toNat = a := by rw [BitVec.toNat_ofInt]; omega
    rw [← Int32.toInt_toBitVec, Int32.toBitVec_shiftLeft, BitVec.shiftLeft_eq', e4]
    rw [BitVec.toInt_eq_toNat_cond, BitVec.toNat_shiftLeft, Int32.toBitVec_ofInt, ea, Nat.shiftLeft_eq, show 2 ^ 4 = 16 from rfl, show 2 ^ 32 = 4294967296 from rfl, Nat.mod_eq_of_lt (by omega), if_pos (by omega)]
  rw [e, im_or_nat (by omega) (by omega)]
  have e2 : a * 16 ||| b = a * 16 + b := by
    have t := Nat.two_pow_add_eq_or_of_lt (i := 4) (b := b) (by omega) a
    rw [show a * 16 = 2 ^ 4 * a by omega]
    exact t.symm
  rw [e2]
  omega
