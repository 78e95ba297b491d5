/-! where to hear next: counts of alike ones -/
def lo_ov (lw : Option im_T) (v : Nat → Int) (R : Nat → Int → Int) (p q : Int) : Int := (on_all lw 0 p (-1) v R).2.2.1 q
/-- how many hidden ones have so many over in q -/
def lo_sh (lw : Option im_T) (v : Nat → Int) (R : Nat → Int → Int) (q o : Int) : Nat → Int
  | 0 => 0
  | m + 1 => lo_sh lw v R q o m + (if fh_is lw v R (m : Int) = true ∧ lo_ov lw v R (m : Int) q = o then 1 else 0)
theorem lo_sh_b (lw : Option im_T) (v : Nat → Int) (R : Nat → Int → Int) (q o : Int) : ∀ m : Nat, 0 ≤ lo_sh lw v R q o m ∧ lo_sh lw v R q o m ≤ m
  | 0 => ⟨Int.le_refl _, Int.le_refl _⟩
  | m + 1 => by
    have h := lo_sh_b lw v R q o m
    unfold lo_sh
    split <;> omega
def lo_mx (g : Int → Int) : Nat → Int
  | 0 => 0
  | k + 1 => max (lo_mx g k) (g (k : Int))
theorem lo_mx_ge (g : Int → Int) : ∀ (n k : Nat), k < n → g (k : Int) ≤ lo_mx g n
  | 0, k, h => absurd h (Nat.not_lt_zero k)
  | n + 1, k, h => by
    show g (k : Int) ≤ max (lo_mx g n) (g (n : Int))
    by_cases e : k = n
    · subst e; omega
    · have := lo_mx_ge g n k (by omega); omega
theorem lo_mx_0 (g : Int → Int) : ∀ n : Nat, 0 ≤ lo_mx g n
  | 0 => Int.le_refl _
  | n + 1 => by
    have := lo_mx_0 g n
    show 0 ≤ max (lo_mx g n) (g (n : Int))
    omega
theorem lo_mx_le (g : Int → Int) {b : Int} (hb : 0 ≤ b) : ∀ n : Nat, (∀ k : Nat, k < n → g (k : Int) ≤ b) → lo_mx g n ≤ b
  | 0, _ => hb
  | n + 1, h => by
    have h1 := lo_mx_le g hb n (fun k hk => h k (by omega))
    have h2 := h n (by omega)
    show max (lo_mx g n) (g (n : Int)) ≤ b
    omega
/-- how many rows of a grid have o at q -/
def lo_cn (G : Int → Int) (q o : Int) : Nat → Int
  | 0 => 0
  | k + 1 => lo_cn G q o k + (if G ((k : Int) * 10 + q) = o then 1 else 0)
theorem lo_cn_in (G : Int → Int) (q i : Int) : ∀ k : Nat, ma_in G q i k = lo_cn G q (G (i * 10 + q)) k
  | 0 => rfl
  | k + 1 => by
    have ih := lo_cn_in G q i k
    unfold ma_in lo_cn
    rw [ih]
    by_cases e : G (i * 10 + q) = G ((k : Int) * 10 + q)
    · rw [if_pos e, if_pos e.symm]
    · rw [if_neg e, if_neg (fun z => e z.symm)]
      omega
theorem lo_cn_some (G : Int → Int) (q o : Int) : ∀ k : Nat, 0 ≤ lo_cn G q o k ∧ (0 < lo_cn G q o k → ∃ j : Nat, j < k ∧ G ((j : Int) * 10 + q) = o)
  | 0 => ⟨Int.le_refl _, fun h => absurd h (by show ¬ (0 : Int) < 0; decide)⟩
  | k + 1 => by
    obtain ⟨i1, i2⟩ := lo_cn_some G q o k
    unfold lo_cn
    by_cases e : G ((k : Int) * 10 + q) = o
    · rw [if_pos e]
      exact ⟨by omega, fun _ => ⟨k, by omega, e⟩⟩
    · rw [if_neg e]
      refine ⟨by omega, fun h => ?_⟩
      obtain ⟨j, h1, h2⟩ := i2 (by omega)
      exact ⟨j, by omega, h2⟩
theorem lo_ma_ge (G : Int → Int) (q : Int) (n : Nat) : ∀ (m i : Nat), i < m → ma_in G q (i : Int) n ≤ ma_all G q n m
  | 0, i, h => absurd h (Nat.not_lt_zero i)
  | m + 1, i, h => by
    show ma_in G q (i : Int) n ≤ max (ma_all G q n m) (ma_in G q (m : Int) n)
    by_cases e : i = m
    · subst e; omega
    · have := lo_ma_ge G q n m i (by omega); omega
theorem lo_ma_le (G : Int → Int) (q : Int) (n : Nat) {b : Int} (hb : 0 ≤ b) : ∀ m : Nat, (∀ i : Nat, i < m → ma_in G q (i : Int) n ≤ b) → ma_all G q n m ≤ b
  | 0, _ => hb
  | m + 1, h => by
    have h1 := lo_ma_le G q n hb m (fun k hk => h k (by omega))
    have h2 := h m (by omega)
    show max (ma_all G q n m) (ma_in G q (m : Int) n) ≤ b
    omega
/-- the most alike, counted by rows or by numbers -/
theorem lo_ma_mx {G : Int → Int} {q : Int} {n : Nat} (hG : ∀ j : Nat, j < n → 0 ≤ G ((j : Int) * 10 + q) ∧ G ((j : Int) * 10 + q) ≤ 98) : ma_all G q n n = lo_mx (fun o => lo_cn G q o n) 99 := by
  have hb := ma_all_b G q n n
  have h1 : ma_all G q n n ≤ lo_mx (fun o => lo_cn G q o n) 99 := by
    refine lo_ma_le G q n (lo_mx_0 _ 99) n (fun i hi => ?_)
    have hg := hG i hi
    rw [lo_cn_in]
    have t := lo_mx_ge (fun o => lo_cn G q o n) 99 (G ((i : Int) * 10 + q)).toNat (by omega)
    rw [show (((G ((i : Int) * 10 + q)).toNat : Nat) : Int) = G ((i : Int) * 10 + q) by omega] at t
    exact t
  have h2 : lo_mx (fun o => lo_cn G q o n) 99 ≤ ma_all G q n n := by
    refine lo_mx_le _ hb.1 99 (fun k hk => ?_)
    obtain ⟨c1, c2⟩ := lo_cn_some G q (k : Int) n
    show lo_cn G q (k : Int) n ≤ _
    by_cases e : 0 < lo_cn G q (k : Int) n
    · obtain ⟨j, j1, j2⟩ := c2 e
      have t := lo_ma_ge G q n n j j1
      rw [lo_cn_in, j2] at t
      exact t
    · omega
  omega
theorem ao_ov_b (lw : Option im_T) (ten n : Int) (q : ao_Q) : ∀ m : Nat, ∀ x, n - (m : Int) ≤ x → x < n → 0 ≤ (ao lw ten n m q).2.2.1 x ∧ (ao lw ten n m q).2.2.1 x ≤ 98
  | 0, x, h1, h2 => absurd h1 (by omega)
  | m + 1, x, h1, h2 => by
    have ih := ao_ov_b lw ten n q m x
    have ho := as_over_b lw (n - 1 - (m : Int)) ten (ao lw ten n m q).2.1
    show 0 ≤ im_up (ao lw ten n m q).2.2.1 (n - 1 - (m : Int)) (as_over lw (n - 1 - (m : Int)) ten (ao lw ten n m q).2.1) x ∧ im_up (ao lw ten n m q).2.2.1 (n - 1 - (m : Int)) (as_over lw (n - 1 - (m : Int)) ten (ao lw ten n m q).2.1) x ≤ 98
    by_cases e : x = n - 1 - (m : Int)
    · rw [e, im_up_self]; omega
    · rw [im_up_ne _ _ e]; exact ih (by omega) h2
theorem lo_ov_b (lw : Option im_T) {v : Nat → Int} {R : Nat → Int → Int} (h : LOK v R) (p : Int) {q : Int} (h0 : 0 ≤ q) (h1 : q < v 0) : 0 ≤ lo_ov lw v R p q ∧ lo_ov lw v R p q ≤ 98 := by
  have hp := lk_par h
  exact ao_ov_b lw 0 (v 0) _ (v 0).toNat q (by omega) h1
/-- the reference's counts are the class's -/
theorem lo_sh_cn {lw : Option im_T} {v : Nat → Int} {R : Nat → Int → Int} {N : Nat} {G : Int → Int} {q : Int} (hG : ∀ a : Int, 0 ≤ a → a < ((fh lw v R N).1 : Int) → G (a * 10 + q) = lo_ov lw v R ((fh lw v R N).2 a) q) (o : Int) : ∀ m : Nat, m ≤ N → lo_sh lw v R q o m = lo_cn G q o (fh lw v R m).1
  | 0, _ => rfl
  | m + 1, hm => by
    have ih := lo_sh_cn hG o m (by omega)
    have es : fh lw v R (m + 1) = if fh_is lw v R (m : Int) = true then ((fh lw v R m).1 + 1, im_up (fh lw v R m).2 ((fh lw v R m).1 : Int) (m : Int)) else fh lw v R m := rfl
    unfold lo_sh
    by_cases c : fh_is lw v R (m : Int) = true
    · rw [if_pos c] at es
      have hup := fh_up lw v R (m + 1) (N - (m + 1))
      rw [show m + 1 + (N - (m + 1)) = N by omega, es] at hup
      have hu1 : (fh lw v R m).1 + 1 ≤ (fh lw v R N).1 := hup.1
      have hu2 := hup.2 ((fh lw v R m).1 : Int) (by omega) (by show ((fh lw v R m).1 : Int) < (((fh lw v R m).1 + 1 : Nat) : Int); omega)
      have hu3 : (fh lw v R N).2 ((fh lw v R m).1 : Int) = (m : Int) := by rw [hu2]; exact im_up_self _ _ _
      have hg := hG ((fh lw v R m).1 : Int) (by omega) (by omega)
      rw [hu3] at hg
      rw [es, ih]
      show _ = lo_cn G q o (fh lw v R m).1 + (if G (((fh lw v R m).1 : Int) * 10 + q) = o then 1 else 0)
      rw [hg]
      by_cases e : lo_ov lw v R (m : Int) q = o
      · rw [if_pos ⟨c, e⟩, if_pos e]
      · rw [if_neg (fun z => e z.2), if_neg e]
    · rw [if_neg c] at es
      rw [es, ih, if_neg (fun z => c z.1)]
      omega
/-- the reference's look -/
def lo_lk (lw : Option im_T) (v : Nat → Int) (R : Nat → Int → Int) : Nat → Int × Int
  | 0 => (-1, 1000000)
  | k + 1 => if lo_mx (fun o => lo_sh lw v R (k : Int) o (v 0).toNat) 99 < (lo_lk lw v R k).2 then ((k : Int), lo_mx (fun o => lo_sh lw v R (k : Int) o (v 0).toNat) 99) else lo_lk lw v R k
def lo_ans (lw : Option im_T) (v : Nat → Int) (R : Nat → Int → Int) (what : Int) : Int := if what < 0 ∨ 1 < what ∨ (fh lw v R (v 0).toNat).1 = 0 then -1 else if what = 0 then (lo_lk lw v R (v 0).toNat).1 else (lo_lk lw v R (v 0).toNat).2
theorem lo_mx_b (lw : Option im_T) (v : Nat → Int) (R : Nat → Int → Int) (q : Int) (n : Nat) (k : Nat) : 0 ≤ lo_mx (fun o => lo_sh lw v R q o n) k ∧ lo_mx (fun o => lo_sh lw v R q o n) k ≤ n := ⟨lo_mx_0 _ k, lo_mx_le _ (by omega) k (fun j _ => (lo_sh_b lw v R q (j : Int) n).2)⟩
theorem lo_lk_b (lw : Option im_T) {v : Nat → Int} {R : Nat → Int → Int} (h : LOK v R) : ∀ k : Nat, (-1 ≤ (lo_lk lw v R k).1 ∧ (lo_lk lw v R k).1 < k) ∧ (0 ≤ (lo_lk lw v R k).2 ∧ (lo_lk lw v R k).2 ≤ 1000000) ∧ (0 < k → 0 ≤ (lo_lk lw v R k).1 ∧ (lo_lk lw v R k).2 ≤ 10)
  | 0 => ⟨(show -1 ≤ (-1 : Int) ∧ (-1 : Int) < ((0 : Nat) : Int) by decide), (show 0 ≤ (1000000 : Int) ∧ (1000000 : Int) ≤ 1000000 by decide), fun z => absurd z (Nat.lt_irrefl 0)⟩
  | k + 1 => by
    obtain ⟨i1, i2, i3⟩ := lo_lk_b lw h k
    have hp := lk_par h
    have hm := lo_mx_b lw v R (k : Int) (v 0).toNat 99
    unfold lo_lk
    split
    · rename_i hc
      refine ⟨by dsimp only; omega, by dsimp only; omega, fun _ => by dsimp only; omega⟩
    · rename_i hc
      refine ⟨by omega, by omega, fun _ => ?_⟩
      by_cases e : 0 < k
      · exact i3 e
      · exfalso
        have e0 : k = 0 := by omega
        subst e0
        have t : (lo_lk lw v R 0).2 = 1000000 := rfl
        omega
/-- class and reference look alike -/
theorem lo_fl {lw : Option im_T} {v : Nat → Int} {R : Nat → Int → Int} (h : LOK v R) {G : Int → Int} (hG : ∀ a i : Int, 0 ≤ a → a < ((fh lw v R (v 0).toNat).1 : Int) → 0 ≤ i → i < v 0 → G (a * 10 + i) = lo_ov lw v R ((fh lw v R (v 0).toNat).2 a) i) : ∀ k : Nat, (k : Int) ≤ v 0 → (0 < k → lo_lk lw v R k = fl G (fh lw v R (v 0).toNat).1 k) ∧ (fl G (fh lw v R (v 0).toNat).1 k).1 = (lo_lk lw v R k).1
  | 0, _ => ⟨fun z => absurd z (Nat.lt_irrefl 0), rfl⟩
  | k + 1, hk => by
    obtain ⟨i1, i2⟩ := lo_fl h hG k (by omega)
    obtain ⟨b1, b2, b3⟩ := lo_lk_b lw h k
    have hp := lk_par h
    have hm := lo_mx_b lw v R (k : Int) (v 0).toNat 99
    have e1 : ma_all G (k : Int) (fh lw v R (v 0).toNat).1 (fh lw v R (v 0).toNat).1 = lo_mx (fun o => lo_sh lw v R (k : Int) o (v 0).toNat) 99 := by
      rw [lo_ma_mx (fun j hj => by rw [hG (j : Int) (k : Int) (by omega) (by omega) (by omega) (by omega)]; exact lo_ov_b lw h _ (by omega) (by omega))]
      have ef : (fun o => lo_cn G (k : Int) o (fh lw v R (v 0).toNat).1) = fun o => lo_sh lw v R (k : Int) o (v 0).toNat := by
        funext o
        exact (lo_sh_cn (fun a a1 a2 => hG a (k : Int) a1 a2 (by omega) (by omega)) o (v 0).toNat (Nat.le_refl _)).symm
      rw [ef]
    have key : lo_lk lw v R (k + 1) = fl G (fh lw v R (v 0).toNat).1 (k + 1) := by
      have a1 : lo_lk lw v R (k + 1) = if lo_mx (fun o => lo_sh lw v R (k : Int) o (v 0).toNat) 99 < (lo_lk lw v R k).2 then ((k : Int), lo_mx (fun o => lo_sh lw v R (k : Int) o (v 0).toNat) 99) else lo_lk lw v R k := rfl
      have a2 : fl G (fh lw v R (v 0).toNat).1 (k + 1) = if (fl G (fh lw v R (v 0).toNat).1 k).1 = -1 ∨ ma_all G (k : Int) (fh lw v R (v 0).toNat).1 (fh lw v R (v 0).toNat).1 < (fl G (fh lw v R (v 0).toNat).1 k).2 then ((k : Int), ma_all G (k : Int) (fh lw v R (v 0).toNat).1 (fh lw v R (v 0).toNat).1) else fl G (fh lw v R (v 0).toNat).1 k := rfl
      rw [a1, a2, e1]
      by_cases e : 0 < k
      · have b4 := b3 e
        rw [← i1 e]
        by_cases c : lo_mx (fun o => lo_sh lw v R (k : Int) o (v 0).toNat) 99 < (lo_lk lw v R k).2
        · rw [if_pos c, if_pos (Or.inr c)]
        · rw [if_neg c, if_neg (by omega)]
      · have e0 : k = 0 := by omega
        subst e0
        have t : (lo_lk lw v R 0).2 = 1000000 := rfl
        have t2 : (lo_lk lw v R 0).1 = -1 := rfl
        rw [if_pos (by omega), if_pos (Or.inl (by omega))]
    exact ⟨fun _ => key, by rw [key]⟩
