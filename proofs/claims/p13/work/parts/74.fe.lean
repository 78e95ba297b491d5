/-! the fewest, of a land alone -/
theorem im_clear {s u : Nat} (hs : s ≤ 1023) (hu : u ≤ 1023) (h : im_and s (im_xor u (-1)) = 0) {x : Nat} (hx : x < 10) (hb : BT s x) : BT u x := by
  unfold im_and im_xor at h
  rw [Int32.ofInt_toInt] at h
  have h2 : (BitVec.ofInt 32 (s : Int) &&& (BitVec.ofInt 32 (u : Int) ^^^ BitVec.ofInt 32 (-1))).toInt = (0#32).toInt := h
  have h3 := BitVec.eq_of_toInt_eq h2
  have h4 : (BitVec.ofInt 32 (s : Int) &&& (BitVec.ofInt 32 (u : Int) ^^^ BitVec.ofInt 32 (-1))).getLsbD x = (0#32).getLsbD x := by rw [h3]
  have em : BitVec.ofInt 32 (-1) = BitVec.allOnes 32 := by decide
  have es : (BitVec.ofInt 32 (s : Int)).toNat = s := by rw [BitVec.toNat_ofInt]; omega
  have eu : (BitVec.ofInt 32 (u : Int)).toNat = u := by rw [BitVec.toNat_ofInt]; omega
  rw [BitVec.getLsbD_and, em, BitVec.xor_allOnes, BitVec.getLsbD_not, BitVec.getLsbD_zero, ← BitVec.testBit_toNat, ← BitVec.testBit_toNat, es, eu, decide_eq_true (show x < 32 by omega), Bool.true_and] at h4
  rw [BT_nat hs hx] at hb
  rw [BT_nat hu hx]
  rw [hb, Bool.true_and] at h4
  cases e : u.testBit x with
  | true => rfl
  | false =>
    rw [e] at h4
    exact absurd h4 (by decide)
def wb_k (lw : Option im_T) (p c : Int) (R : Nat → Int → Int) : Int := as_wk lw p 0 (pl_U R 2 (fun _ => c))
theorem wb_k_b (lw : Option im_T) (p c : Int) (R : Nat → Int → Int) : 0 ≤ wb_k lw p c R ∧ wb_k lw p c R ≤ 98 := by
  have h := as_wk_b lw p 0 (pl_U R 2 (fun _ => c))
  have h2 := as_over_b lw p 0 (pl_U R 2 (fun _ => c))
  unfold wb_k
  omega
/-- a sheet that is as the land, its counts aside -/
def SHT (v : Nat → Int) (R : Nat → Int → Int) (sv : Nat → Int) (sR : Nat → Int → Int) : Prop := sv 0 = v 0 ∧ LOK sv sR ∧ (∀ p, 0 ≤ p → p < 10 → sR 0 p = R 0 p ∧ sR 1 p = R 1 p ∧ sR 3 p = R 3 p) ∧ sR 7 0 = R 7 0 ∧ sR 7 1 = R 7 1 ∧ sR 7 3 = R 7 3
theorem wb_k_q {lw : Option im_T} {v sv : Nat → Int} {R sR : Nat → Int → Int} (h : SHT v R sv sR) (C : Int → Int) {p : Int} (hp : 0 ≤ p ∧ p < 10) : as_wk lw p 0 (pl_U sR 2 C) = wb_k lw p (C p) R := by
  obtain ⟨h0, h1, h2, h3, h4, h5⟩ := h
  obtain ⟨a, b, c⟩ := h2 p hp.1 hp.2
  exact as_wk_q ⟨a, b, rfl, c, h3, h4, h5⟩
theorem wb_k_s {lw : Option im_T} {v sv : Nat → Int} {R sR : Nat → Int → Int} (h : SHT v R sv sR) {p : Int} (hp : 0 ≤ p ∧ p < 10) : as_wk lw p 0 sR = wb_k lw p (sR 2 p) R := by
  obtain ⟨h0, h1, h2, h3, h4, h5⟩ := h
  obtain ⟨a, b, c⟩ := h2 p hp.1 hp.2
  exact as_wk_q ⟨a, b, rfl, c, h3, h4, h5⟩
abbrev wb_Q : Type := (Int → Int) × Int
def wb_1 (lw : Option im_T) (v : Nat → Int) (R : Nat → Int → Int) (set p : Int) (q : wb_Q) : wb_Q := ((if im_and (im_shr set p) 1 = 0 then q.1 else if 0 ≤ R 0 p ∧ R 0 p < v 0 ∧ R 0 p < 10 then im_up q.1 (R 0 p) (min 999 (q.1 (R 0 p) + wb_k lw p (q.1 p) R)) else q.1), q.2 + wb_k lw p (q.1 p) R)
def wb (lw : Option im_T) (v : Nat → Int) (R : Nat → Int → Int) (set : Int) : Nat → wb_Q
  | 0 => (R 2, 0)
  | m + 1 => wb_1 lw v R set (v 0 - 1 - (m : Int)) (wb lw v R set m)
theorem wb_b (lw : Option im_T) {v : Nat → Int} {R : Nat → Int → Int} (h : LOK v R) (set : Int) : ∀ m : Nat, (∀ i, 0 ≤ (wb lw v R set m).1 i ∧ (wb lw v R set m).1 i ≤ 999) ∧ 0 ≤ (wb lw v R set m).2 ∧ (wb lw v R set m).2 ≤ 98 * (m : Int)
  | 0 => ⟨lk_cnt h, Int.le_refl _, Int.le_refl _⟩
  | m + 1 => by
    obtain ⟨i1, i2, i3⟩ := wb_b lw h set m
    have hk := wb_k_b lw (v 0 - 1 - (m : Int)) ((wb lw v R set m).1 (v 0 - 1 - (m : Int))) R
    refine ⟨?_, ?_, ?_⟩
    · show ∀ i, 0 ≤ (wb_1 lw v R set (v 0 - 1 - (m : Int)) (wb lw v R set m)).1 i ∧ (wb_1 lw v R set (v 0 - 1 - (m : Int)) (wb lw v R set m)).1 i ≤ 999
      unfold wb_1
      dsimp only
      split
      · exact i1
      split
      · have hb := i1 (R 0 (v 0 - 1 - (m : Int)))
        exact im_up_b i1 (by omega)
      · exact i1
    · show 0 ≤ (wb lw v R set m).2 + wb_k lw _ _ R
      omega
    · show (wb lw v R set m).2 + wb_k lw _ _ R ≤ 98 * ((m + 1 : Nat) : Int)
      omega
/-- the parishes that have one below, as bits -/
def in_b (R : Nat → Int → Int) : Nat → Int
  | 0 => 0
  | k + 1 => im_or (in_b R k) (if R 0 (k : Int) = -1 then 0 else im_shl 1 (k : Int))
theorem im_or_0 {u : Int} (hu : 0 ≤ u ∧ u ≤ 1023) : im_or u 0 = u := by
  obtain ⟨a, rfl⟩ : ∃ a : Nat, u = a := ⟨u.toNat, by omega⟩
  have t := im_or_nat (a := a) (b := 0) (by omega) (by decide)
  rw [Nat.or_zero] at t
  exact t
theorem BT_0 (x : Int) (h : 0 ≤ x ∧ x < 10) : ¬ BT 0 x := by
  obtain ⟨n, rfl⟩ : ∃ n : Nat, x = n := ⟨x.toNat, by omega⟩
  have t := BT_nat (u := 0) (p := n) (by decide) (by omega)
  intro z
  have := t.mp z
  rw [Nat.zero_testBit] at this
  exact absurd this (by decide)
theorem in_b_b (R : Nat → Int → Int) : ∀ k : Nat, k ≤ 10 → (0 ≤ in_b R k ∧ in_b R k ≤ 1023) ∧ ∀ x, 0 ≤ x → x < 10 → BT (in_b R k) x → x < k ∧ ¬ R 0 x = -1
  | 0, _ => ⟨(show 0 ≤ (0 : Int) ∧ (0 : Int) ≤ 1023 by decide), fun x h1 h2 h3 => absurd h3 (BT_0 x ⟨h1, h2⟩)⟩
  | k + 1, hk => by
    obtain ⟨i1, i2⟩ := in_b_b R k (by omega)
    have e : in_b R (k + 1) = im_or (in_b R k) (if R 0 (k : Int) = -1 then 0 else im_shl 1 (k : Int)) := rfl
    by_cases hc : R 0 (k : Int) = -1
    · rw [if_pos hc, im_or_0 i1] at e
      rw [e]
      exact ⟨i1, fun x h1 h2 h3 => by have := i2 x h1 h2 h3; exact ⟨by omega, this.2⟩⟩
    · rw [if_neg hc] at e
      rw [e]
      refine ⟨(BT_or i1 (p := (k : Int)) (by omega)).1, fun x h1 h2 h3 => ?_⟩
      rcases BT_or_iff i1 (p := (k : Int)) (by omega) x h1 h2 h3 with t | t
      · have := i2 x h1 h2 t
        exact ⟨by omega, this.2⟩
      · subst t
        exact ⟨by omega, hc⟩
def fe (lw : Option im_T) (v : Nat → Int) (R : Nat → Int → Int) (u : Int) : Nat → Int × Int
  | 0 => ((wb lw v R 0 (v 0).toNat).2, 0)
  | m + 1 => if im_and ((m : Int) + 1) (im_xor u (-1)) = 0 ∧ (wb lw v R ((m : Int) + 1) (v 0).toNat).2 < (fe lw v R u m).1 then ((wb lw v R ((m : Int) + 1) (v 0).toNat).2, (m : Int) + 1) else fe lw v R u m
theorem fe_b (lw : Option im_T) {v : Nat → Int} {R : Nat → Int → Int} (h : LOK v R) (u : Int) : ∀ m : Nat, (0 ≤ (fe lw v R u m).1 ∧ (fe lw v R u m).1 ≤ 980) ∧ 0 ≤ (fe lw v R u m).2 ∧ (fe lw v R u m).2 ≤ m
  | 0 => by
    have hp := lk_par h
    have t := (wb_b lw h 0 (v 0).toNat).2
    refine ⟨⟨t.1, ?_⟩, Int.le_refl _, Int.le_refl _⟩
    show (wb lw v R 0 (v 0).toNat).2 ≤ 980
    omega
  | m + 1 => by
    have hp := lk_par h
    have ih := fe_b lw h u m
    have t := (wb_b lw h ((m : Int) + 1) (v 0).toNat).2
    unfold fe
    split
    · dsimp only; omega
    · omega
def fe_ans (lw : Option im_T) (v : Nat → Int) (R : Nat → Int → Int) : Int × Int := fe lw v R (in_b R (v 0).toNat) (in_b R (v 0).toNat).toNat
