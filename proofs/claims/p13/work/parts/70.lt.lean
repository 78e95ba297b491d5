/-! the least lending, of a land alone -/
def lt_bd (by_ p : Int) (v : Nat → Int) (R : Nat → Int → Int) (q : lt_Q) : Bool := !decide (0 ≤ R 0 p ∧ R 0 p < v 0 ∧ R 0 p < 10) && !decide (q.1 p % by_ = 0)
def lt_r (by_ : Int) (v : Nat → Int) (R : Nat → Int → Int) : Nat → lt_Q
  | 0 => (R 2, fun _ => 0, 0)
  | m + 1 => lt_1 by_ (v 0 - 1 - (m : Int)) v R (lt_r by_ v R m)
def lt_ok (by_ : Int) (v : Nat → Int) (R : Nat → Int → Int) : Nat → Bool
  | 0 => true
  | m + 1 => lt_ok by_ v R m && !lt_bd by_ (v 0 - 1 - (m : Int)) v R (lt_r by_ v R m)
def lt_top : Nat → Int
  | 0 => 999
  | m + 1 => 2 * lt_top m
theorem lt_top_b (m : Nat) (h : m ≤ 9) : lt_top m ≤ 600000 := by
  have e : m = 0 ∨ m = 1 ∨ m = 2 ∨ m = 3 ∨ m = 4 ∨ m = 5 ∨ m = 6 ∨ m = 7 ∨ m = 8 ∨ m = 9 := by omega
  rcases e with rfl | rfl | rfl | rfl | rfl | rfl | rfl | rfl | rfl | rfl <;> decide
theorem lt_top_0 : ∀ m : Nat, 0 ≤ lt_top m
  | 0 => by decide
  | m + 1 => by
    have := lt_top_0 m
    show 0 ≤ 2 * lt_top m
    omega
theorem lt_1_hit {by_ p : Int} {v : Nat → Int} {R : Nat → Int → Int} {q : lt_Q} (h : 0 ≤ R 0 p ∧ R 0 p < v 0 ∧ R 0 p < 10) : (lt_1 by_ p v R q).1 = im_up q.1 (R 0 p) (q.1 (R 0 p) + q.1 p) := if_pos h
theorem lt_1_not {by_ p : Int} {v : Nat → Int} {R : Nat → Int → Int} {q : lt_Q} (h : ¬ (0 ≤ R 0 p ∧ R 0 p < v 0 ∧ R 0 p < 10)) : (lt_1 by_ p v R q).1 = q.1 := if_neg h
/-- what each has with those above stays within bounds -/
theorem lt_r_b {by_ : Int} {v : Nat → Int} {R : Nat → Int → Int} (h : LOK v R) : ∀ m : Nat, (m : Int) ≤ v 0 → ∀ i, 0 ≤ (lt_r by_ v R m).1 i ∧ (lt_r by_ v R m).1 i ≤ lt_top m ∧ (lt_r by_ v R m).1 i ≤ 600000
  | 0, _, i => by
    have := lk_cnt h i
    show 0 ≤ R 2 i ∧ R 2 i ≤ 999 ∧ R 2 i ≤ 600000
    omega
  | m + 1, hm, i => by
    have ih := lt_r_b (by_ := by_) h m (by omega)
    have hpar := lk_par h
    have t0 := lt_top_0 m
    show 0 ≤ (lt_1 by_ _ v R (lt_r by_ v R m)).1 i ∧ (lt_1 by_ _ v R (lt_r by_ v R m)).1 i ≤ 2 * lt_top m ∧ (lt_1 by_ _ v R (lt_r by_ v R m)).1 i ≤ 600000
    by_cases hc : 0 ≤ R 0 (v 0 - 1 - (m : Int)) ∧ R 0 (v 0 - 1 - (m : Int)) < v 0 ∧ R 0 (v 0 - 1 - (m : Int)) < 10
    · rw [lt_1_hit hc]
      have hl := lk_low h (p := v 0 - 1 - (m : Int)) (by omega) (by omega)
      have tb := lt_top_b (m + 1) (by omega)
      have tb' : 2 * lt_top m ≤ 600000 := tb
      have i1 := ih i
      have i2 := ih (R 0 (v 0 - 1 - (m : Int)))
      have i3 := ih (v 0 - 1 - (m : Int))
      unfold im_up
      split <;> omega
    · rw [lt_1_not hc]
      have i1 := ih i
      omega
theorem lt_dn_b {by_ r : Int} (hb : 2 ≤ by_ ∧ by_ ≤ 99) (hr : 0 ≤ r ∧ r < by_) : -99 ≤ lt_dn by_ r ∧ lt_dn by_ r ≤ 99 := by
  unfold lt_dn
  split <;> omega
theorem lt_s_b {by_ : Int} {v : Nat → Int} {R : Nat → Int → Int} (h : LOK v R) (hb : 2 ≤ by_ ∧ by_ ≤ 99) : ∀ m : Nat, (m : Int) ≤ v 0 → 0 ≤ (lt_r by_ v R m).2.2 ∧ (lt_r by_ v R m).2.2 ≤ 99 * (m : Int)
  | 0, _ => ⟨Int.le_refl _, Int.le_refl _⟩
  | m + 1, hm => by
    have ih := lt_s_b h hb m (by omega)
    have hr : 0 ≤ (lt_r by_ v R m).1 (v 0 - 1 - (m : Int)) % by_ ∧ (lt_r by_ v R m).1 (v 0 - 1 - (m : Int)) % by_ < by_ := ⟨Int.emod_nonneg _ (by omega), Int.emod_lt_of_pos _ (by omega)⟩
    have hd := lt_dn_b hb hr
    show 0 ≤ (lt_r by_ v R m).2.2 + max (lt_dn by_ _) (-lt_dn by_ _) ∧ (lt_r by_ v R m).2.2 + max (lt_dn by_ _) (-lt_dn by_ _) ≤ 99 * ((m + 1 : Nat) : Int)
    omega
/-- what was told of one stays -/
theorem lt_r_keep {by_ : Int} {v : Nat → Int} {R : Nat → Int → Int} (h : LOK v R) (m : Nat) : ∀ n : Nat, ((m + n : Nat) : Int) ≤ v 0 → (∀ p, v 0 - 1 - (m : Int) ≤ p → (lt_r by_ v R (m + n)).1 p = (lt_r by_ v R m).1 p) ∧ ∀ p, v 0 - (m : Int) ≤ p → (lt_r by_ v R (m + n)).2.1 p = (lt_r by_ v R m).2.1 p
  | 0, _ => ⟨fun _ _ => rfl, fun _ _ => rfl⟩
  | n + 1, hn => by
    obtain ⟨i1, i2⟩ := lt_r_keep (by_ := by_) h m n (by omega)
    have hl := lk_low h (p := v 0 - 1 - ((m + n : Nat) : Int)) (by omega) (by omega)
    refine ⟨fun p hp => ?_, fun p hp => ?_⟩
    · rw [← i1 p hp]
      show (lt_1 by_ (v 0 - 1 - ((m + n : Nat) : Int)) v R (lt_r by_ v R (m + n))).1 p = _
      by_cases hc : 0 ≤ R 0 (v 0 - 1 - ((m + n : Nat) : Int)) ∧ R 0 (v 0 - 1 - ((m + n : Nat) : Int)) < v 0 ∧ R 0 (v 0 - 1 - ((m + n : Nat) : Int)) < 10
      · rw [lt_1_hit hc, im_up_ne _ _ (by omega)]
      · rw [lt_1_not hc]
    · rw [← i2 p hp]
      show im_up (lt_r by_ v R (m + n)).2.1 (v 0 - 1 - ((m + n : Nat) : Int)) _ p = (lt_r by_ v R (m + n)).2.1 p
      exact im_up_ne _ _ (by omega)
/-! sums upward, downward -/
def su (f : Int → Int) (a : Int) : Nat → Int
  | 0 => 0
  | k + 1 => su f a k + f (a + (k : Int))
def sd (f : Int → Int) (n : Int) : Nat → Int
  | 0 => 0
  | k + 1 => sd f n k + f (n - 1 - (k : Int))
theorem su_cons (f : Int → Int) : ∀ (k : Nat) (a : Int), su f a (k + 1) = f a + su f (a + 1) k
  | 0, a => by
    show 0 + f (a + ((0 : Nat) : Int)) = f a + 0
    rw [show a + ((0 : Nat) : Int) = a by omega]
    omega
  | k + 1, a => by
    have ih := su_cons f k a
    show su f a (k + 1) + f (a + ((k + 1 : Nat) : Int)) = f a + (su f (a + 1) k + f (a + 1 + (k : Int)))
    rw [ih, show a + ((k + 1 : Nat) : Int) = a + 1 + (k : Int) by omega]
    omega
theorem sd_su (f : Int → Int) (n : Int) : ∀ m : Nat, sd f n m = su f (n - (m : Int)) m
  | 0 => rfl
  | m + 1 => by
    have ih := sd_su f n m
    rw [su_cons]
    show sd f n m + f (n - 1 - (m : Int)) = f (n - ((m + 1 : Nat) : Int)) + su f (n - ((m + 1 : Nat) : Int) + 1) m
    rw [ih, show n - ((m + 1 : Nat) : Int) = n - 1 - (m : Int) by omega, show n - 1 - (m : Int) + 1 = n - (m : Int) by omega]
    omega
theorem su_app (f : Int → Int) (a : Int) (j : Nat) : ∀ k : Nat, su f a (j + k) = su f a j + su f (a + (j : Int)) k
  | 0 => by
    show su f a j = su f a j + 0
    omega
  | k + 1 => by
    have ih := su_app f a j k
    show su f a (j + k) + f (a + ((j + k : Nat) : Int)) = su f a j + (su f (a + (j : Int)) k + f (a + (j : Int) + (k : Int)))
    rw [ih, show a + ((j + k : Nat) : Int) = a + (j : Int) + (k : Int) by omega]
    omega
theorem su_none {f : Int → Int} {a : Int} : ∀ k : Nat, (∀ i, a ≤ i → i < a + (k : Int) → f i = 0) → su f a k = 0
  | 0, _ => rfl
  | k + 1, h => by
    have ih := su_none (f := f) (a := a) k (fun i q1 q2 => h i q1 (by omega))
    show su f a k + f (a + (k : Int)) = 0
    rw [ih, h _ (by omega) (by omega)]
    rfl
theorem su_same {f g : Int → Int} {a : Int} : ∀ k : Nat, (∀ i, a ≤ i → i < a + (k : Int) → f i = g i) → su f a k = su g a k
  | 0, _ => rfl
  | k + 1, h => by
    have ih := su_same (f := f) (g := g) (a := a) k (fun i q1 q2 => h i q1 (by omega))
    show su f a k + f (a + (k : Int)) = su g a k + g (a + (k : Int))
    rw [ih, h _ (by omega) (by omega)]
/-- all that it and those above it have -/
def lt_A (v : Nat → Int) (R : Nat → Int → Int) : Int → Int := (lt_r (R 7 1) v R (v 0).toNat).1
def lt_f (v : Nat → Int) (R : Nat → Int → Int) (x : Int) : Int → Int := fun q => if R 0 q = x then lt_A v R q else 0
theorem lt_fin {v : Nat → Int} {R : Nat → Int → Int} (h : LOK v R) {m : Nat} (hm : (m : Int) < v 0) {p : Int} (hp : v 0 - 1 - (m : Int) ≤ p) : (lt_r (R 7 1) v R m).1 p = lt_A v R p := by
  have hpar := lk_par h
  have t := (lt_r_keep (by_ := R 7 1) h m ((v 0).toNat - m) (by omega)).1 p hp
  rw [show m + ((v 0).toNat - m) = (v 0).toNat by omega] at t
  exact t.symm
theorem lt_A_m {v : Nat → Int} {R : Nat → Int → Int} (h : LOK v R) : ∀ m : Nat, (m : Int) ≤ v 0 → ∀ x, 0 ≤ x → x < v 0 → (lt_r (R 7 1) v R m).1 x = R 2 x + sd (lt_f v R x) (v 0) m
  | 0, _, x, _, _ => by
    show R 2 x = R 2 x + 0
    omega
  | m + 1, hm, x, h0, h1 => by
    have ih := lt_A_m h m (by omega) x h0 h1
    have hpar := lk_par h
    have hl := lk_low h (p := v 0 - 1 - (m : Int)) (by omega) (by omega)
    have hf := lt_fin h (m := m) (by omega) (p := v 0 - 1 - (m : Int)) (Int.le_refl _)
    show (lt_1 (R 7 1) (v 0 - 1 - (m : Int)) v R (lt_r (R 7 1) v R m)).1 x = R 2 x + (sd (lt_f v R x) (v 0) m + lt_f v R x (v 0 - 1 - (m : Int)))
    unfold lt_f at ih ⊢
    by_cases e : R 0 (v 0 - 1 - (m : Int)) = x
    · rw [if_pos e, lt_1_hit (by omega), e, im_up_self, hf, ih]
      omega
    · rw [if_neg e]
      by_cases hc : 0 ≤ R 0 (v 0 - 1 - (m : Int)) ∧ R 0 (v 0 - 1 - (m : Int)) < v 0 ∧ R 0 (v 0 - 1 - (m : Int)) < 10
      · rw [lt_1_hit hc, im_up_ne _ _ (by omega), ih]
        omega
      · rw [lt_1_not hc, ih]
        omega
/-- as the reference reckons it -/
theorem lt_A_up {v : Nat → Int} {R : Nat → Int → Int} (h : LOK v R) {x : Int} (h0 : 0 ≤ x) (h1 : x < v 0) : lt_A v R x = R 2 x + su (lt_f v R x) (x + 1) (v 0 - 1 - x).toNat := by
  have hpar := lk_par h
  have t := lt_A_m h (v 0).toNat (by omega) x h0 h1
  show (lt_r (R 7 1) v R (v 0).toNat).1 x = _
  rw [t, sd_su, show v 0 - ((v 0).toNat : Int) = 0 by omega, show (v 0).toNat = (x + 1).toNat + (v 0 - 1 - x).toNat by omega, su_app, su_none (f := lt_f v R x) (a := 0) (x + 1).toNat (fun i q1 q2 => by
    have hl := lk_low h (p := i) q1 (by omega)
    unfold lt_f
    exact if_neg (by omega)), show (0 : Int) + ((x + 1).toNat : Int) = x + 1 by omega]
  omega
def lt_g (v : Nat → Int) (R : Nat → Int → Int) : Int → Int := fun p => lt_dn (R 7 1) (lt_A v R p % R 7 1)
def lt_h (v : Nat → Int) (R : Nat → Int → Int) : Int → Int := fun p => max (lt_g v R p) (-lt_g v R p)
theorem lt_sum {v : Nat → Int} {R : Nat → Int → Int} (h : LOK v R) : ∀ m : Nat, (m : Int) ≤ v 0 → (lt_r (R 7 1) v R m).2.2 = sd (lt_h v R) (v 0) m
  | 0, _ => rfl
  | m + 1, hm => by
    have ih := lt_sum h m (by omega)
    have hf := lt_fin h (m := m) (by omega) (p := v 0 - 1 - (m : Int)) (Int.le_refl _)
    show (lt_r (R 7 1) v R m).2.2 + max (lt_dn (R 7 1) ((lt_r (R 7 1) v R m).1 (v 0 - 1 - (m : Int)) % R 7 1)) (-lt_dn (R 7 1) ((lt_r (R 7 1) v R m).1 (v 0 - 1 - (m : Int)) % R 7 1)) = sd (lt_h v R) (v 0) m + lt_h v R (v 0 - 1 - (m : Int))
    rw [ih, hf]
    rfl
theorem lt_dnm {v : Nat → Int} {R : Nat → Int → Int} (h : LOK v R) : ∀ m : Nat, (m : Int) ≤ v 0 → ∀ p, v 0 - (m : Int) ≤ p → p < v 0 → (lt_r (R 7 1) v R m).2.1 p = lt_g v R p
  | 0, _, p, h1, h2 => absurd h1 (by omega)
  | m + 1, hm, p, h1, h2 => by
    have ih := lt_dnm h m (by omega) p
    have hf := lt_fin h (m := m) (by omega) (p := v 0 - 1 - (m : Int)) (Int.le_refl _)
    show im_up (lt_r (R 7 1) v R m).2.1 (v 0 - 1 - (m : Int)) (lt_dn (R 7 1) ((lt_r (R 7 1) v R m).1 (v 0 - 1 - (m : Int)) % R 7 1)) p = _
    by_cases e : p = v 0 - 1 - (m : Int)
    · rw [e, im_up_self, hf]
      rfl
    · rw [im_up_ne _ _ e]
      exact ih (by omega) h2
/-- nobody would be over that lies at the sea -/
def lt_no (v : Nat → Int) (R : Nat → Int → Int) (p : Int) : Bool := !(decide (R 0 p = -1) && !decide (lt_A v R p % R 7 1 = 0))
theorem lt_bd_no {v : Nat → Int} {R : Nat → Int → Int} (h : LOK v R) {m : Nat} (hm : (m : Int) < v 0) : (!lt_bd (R 7 1) (v 0 - 1 - (m : Int)) v R (lt_r (R 7 1) v R m)) = lt_no v R (v 0 - 1 - (m : Int)) := by
  have hpar := lk_par h
  have hf := lt_fin h (m := m) hm (p := v 0 - 1 - (m : Int)) (Int.le_refl _)
  have hl := lk_low h (p := v 0 - 1 - (m : Int)) (by omega) (by omega)
  have hb := lk_bel h (v 0 - 1 - (m : Int))
  unfold lt_bd lt_no
  rw [hf]
  by_cases e : R 0 (v 0 - 1 - (m : Int)) = -1
  · rw [decide_eq_true e, decide_eq_false (by omega)]
    rfl
  · rw [decide_eq_false e, decide_eq_true (by omega)]
    rfl
def lt_yes (v : Nat → Int) (R : Nat → Int → Int) : Nat → Bool
  | 0 => true
  | k + 1 => lt_yes v R k && lt_no v R (k : Int)
theorem lt_yes_iff {v : Nat → Int} {R : Nat → Int → Int} : ∀ k : Nat, lt_yes v R k = true ↔ ∀ p : Int, 0 ≤ p → p < k → lt_no v R p = true
  | 0 => ⟨fun _ p h1 h2 => absurd h1 (by omega), fun _ => rfl⟩
  | k + 1 => by
    have ih := lt_yes_iff (v := v) (R := R) k
    show (lt_yes v R k && lt_no v R (k : Int)) = true ↔ _
    rw [Bool.and_eq_true, ih]
    refine ⟨fun h p h1 h2 => ?_, fun h => ⟨fun p h1 h2 => h p h1 (by omega), h _ (by omega) (by omega)⟩⟩
    by_cases e : p = (k : Int)
    · rw [e]; exact h.2
    · exact h.1 p h1 (by omega)
theorem lt_ok_iff {v : Nat → Int} {R : Nat → Int → Int} (h : LOK v R) : ∀ m : Nat, (m : Int) ≤ v 0 → (lt_ok (R 7 1) v R m = true ↔ ∀ p : Int, v 0 - (m : Int) ≤ p → p < v 0 → lt_no v R p = true)
  | 0, _ => ⟨fun _ p h1 h2 => absurd h1 (by omega), fun _ => rfl⟩
  | m + 1, hm => by
    have ih := lt_ok_iff h m (by omega)
    show (lt_ok (R 7 1) v R m && !lt_bd (R 7 1) (v 0 - 1 - (m : Int)) v R (lt_r (R 7 1) v R m)) = true ↔ _
    rw [lt_bd_no h (by omega), Bool.and_eq_true, ih]
    refine ⟨fun z p h1 h2 => ?_, fun z => ⟨fun p h1 h2 => z p (by omega) h2, z _ (by omega) (by omega)⟩⟩
    by_cases e : p = v 0 - 1 - (m : Int)
    · rw [e]; exact z.2
    · exact z.1 p (by omega) h2
theorem lt_ok_no {by_ : Int} {v : Nat → Int} {R : Nat → Int → Int} {m : Nat} (h : lt_ok by_ v R m = false) : ∀ n : Nat, lt_ok by_ v R (m + n) = false
  | 0 => h
  | n + 1 => by
    have ih := lt_ok_no h n
    show (lt_ok by_ v R (m + n) && _) = false
    rw [ih]
    rfl
theorem lt_same {v : Nat → Int} {R : Nat → Int → Int} (h : LOK v R) : lt_ok (R 7 1) v R (v 0).toNat = lt_yes v R (v 0).toNat := by
  have hpar := lk_par h
  have a := lt_ok_iff h (v 0).toNat (by omega)
  have b := lt_yes_iff (v := v) (R := R) (v 0).toNat
  have c : lt_ok (R 7 1) v R (v 0).toNat = true ↔ lt_yes v R (v 0).toNat = true := by
    rw [a, b]
    exact ⟨fun z p h1 h2 => z p (by omega) (by omega), fun z p h1 h2 => z p (by omega) (by omega)⟩
  cases e1 : lt_ok (R 7 1) v R (v 0).toNat with
  | true => exact (c.mp e1).symm
  | false =>
    cases e2 : lt_yes v R (v 0).toNat with
    | true => exact absurd (c.mpr e2) (by rw [e1]; decide)
    | false => rfl
/-- what lent() answers -/
def lt_ans (v : Nat → Int) (R : Nat → Int → Int) (what : Int) : Int := if what < 0 ∨ v 0 < what ∨ lt_yes v R (v 0).toNat = false then -1000 else if what = 0 then su (lt_h v R) 0 (v 0).toNat else lt_g v R (what - 1)
