/-! a text is trimmed: three new cells -/
abbrev tr_u (u : Int32) : Int32 := if (0 : Int32) < u then u else 0
abbrev tr_s (s : Int32) : Int32 := tr_u s * 5
theorem tr_ub {u : Int32} (h0 : 0 ≤ u.toInt) (h1 : u.toInt ≤ 436) : ¬ tr_u u < 0 ∧ (tr_u u).toNatClampNeg ≤ 436 ∧ (tr_u u).toInt = u.toInt := by
  have hz : (0 : Int32).toInt = 0 := rfl
  have e : (tr_u u).toInt = u.toInt := by
    unfold tr_u
    by_cases z : (0 : Int32) < u
    · rw [if_pos z]
    · rw [if_neg z]
      rw [Int32.lt_iff_toInt_lt, hz] at z
      omega
  have e2 : (tr_u u).toNatClampNeg = (tr_u u).toInt.toNat := rfl
  refine ⟨?_, by omega, e⟩
  rw [Int32.lt_iff_toInt_lt, hz]
  omega
theorem tr_sb {s : Int32} (h0 : 0 ≤ s.toInt) (h1 : s.toInt ≤ 12) : ¬ tr_s s < 0 ∧ (tr_s s).toNatClampNeg ≤ 60 := by
  obtain ⟨a1, a2, a3⟩ := tr_ub h0 (by omega)
  have hz : (0 : Int32).toInt = 0 := rfl
  have e : (tr_s s).toInt = s.toInt * 5 := by
    unfold tr_s
    rw [Int32.toInt_mul, a3, show (5 : Int32).toInt = 5 from rfl, ck_bmod (by omega) (by omega)]
  have e2 : (tr_s s).toNatClampNeg = (tr_s s).toInt.toNat := rfl
  refine ⟨?_, by omega⟩
  rw [Int32.lt_iff_toInt_lt, hz]
  omega
theorem tr_init {ro : ab_R} {d : Nat} (x0 x1 x2 u s : Int32) (hu : ¬ tr_u u < 0 ∧ (tr_u u).toNatClampNeg ≤ 436) (hs : ¬ tr_s s < 0 ∧ (tr_s s).toNatClampNeg ≤ 60) : ab_ct ro (d + 1) 73 [.ref 0, .int u, .int s] [.inr (7, [.null, .null, .int x0, .int x1, .int x2])] (fun o => o = (none, [.inr (7, [.ref 1, .ref 2, .int x0, .int x1, .int x2]), .inl (0, (tr_u u).toNatClampNeg, .inl (fun _ => 0)), .inl (0, (tr_s s).toNatClampNeg, .inl (fun _ => 0))], 2, 0 + (tr_u u).toNatClampNeg + (tr_s s).toNatClampNeg)) := by
  refine ab_ct_of (by decide) rfl ?_
  change ab_wp ro _ 7 true none ab_k_X7_init _ (0, [some (.ref 0), some (.int u), some (.int s)], [], [.inr (7, [.null, .null, .int x0, .int x1, .int x2])], 0, 0)
  refine ax_go 16 (y := (28, [some (.ref 0), some (.int u), some (.int s)], [], [.inr (7, [.ref 1, .ref 2, .int x0, .int x1, .int x2]), .inl (0, (tr_u u).toNatClampNeg, .inl (fun _ => 0)), .inl (0, (tr_s s).toNatClampNeg, .inl (fun _ => 0))], 2, 0 + (tr_u u).toNatClampNeg + (tr_s s).toNatClampNeg)) rfl ?_ ?_
  · exact ⟨hu.1, Nat.le_trans hu.2 (by decide), hs.1, Nat.le_trans hs.2 (by decide), trivial⟩
  exact ax_ret rfl rfl trivial rfl
theorem tr_len {n : Nat} (h : n ≤ 436) : ¬ Int32.ofNat n < 0 ∧ (Int32.ofNat n).toNatClampNeg = n := by
  have e : (Int32.ofNat n).toInt = (n : Int) := Int32.toInt_ofNat_of_lt (by omega)
  have e2 : (Int32.ofNat n).toNatClampNeg = (Int32.ofNat n).toInt.toNat := rfl
  refine ⟨?_, by omega⟩
  rw [Int32.lt_iff_toInt_lt, show (0 : Int32).toInt = 0 from rfl]
  omega
theorem tr_trim {ro : ab_R} {d : Nat} (u s ov : Int32) (f g : Nat → Int32) (hu : ¬ tr_u u < 0 ∧ (tr_u u).toNatClampNeg ≤ 436) (hs : ¬ tr_s s < 0 ∧ (tr_s s).toNatClampNeg ≤ 60) : ab_ct ro (d + 2) 78 [.ref 0] [.inr (7, [.ref 1, .ref 2, .int u, .int s, .int ov]), .inl (0, 436, .inl f), .inl (0, 60, .inl g)] (fun o => ∃ f1 f2 : Nat → Int32, o = (some (.ref 3), [.inr (7, [.ref 1, .ref 2, .int u, .int s, .int ov]), .inl (0, 436, .inl f), .inl (0, 60, .inl g)] ++ [.inr (7, [.ref 4, .ref 5, .int u, .int s, .int ov]), .inl (0, (tr_u u).toNatClampNeg, .inl f1), .inl (0, (tr_s s).toNatClampNeg, .inl f2)], 3, 5 + (0 + (tr_u u).toNatClampNeg + (tr_s s).toNatClampNeg))) := by
  refine ab_ct_of (by decide) rfl ?_
  change ab_wp ro _ 7 false _ ab_k_X7_trimmed _ (0, [some (.ref 0), none], [], [.inr (7, [.ref 1, .ref 2, .int u, .int s, .int ov]), .inl (0, 436, .inl f), .inl (0, 60, .inl g)], 0, 0)
  refine ax_go 6 (y := (12, [some (.ref 0), none], [.int s, .int u, .ref 3, .ref 3], [.inr (7, [.ref 1, .ref 2, .int u, .int s, .int ov]), .inl (0, 436, .inl f), .inl (0, 60, .inl g), .inr (7, [.null, .null, .int 0, .int 0, .int 0])], 1, 5)) rfl trivial ?_
  refine ax_call [3] rfl rfl (tr_init (d := d) 0 0 0 u s hu hs) rfl rfl (by decide) (Nat.le_of_ble_eq_true rfl) (fun v w1 mc ms hq => ?_)
  cases hq
  refine ⟨by decide, ?_⟩
  change ab_wp ro _ 7 false _ ab_k_X7_trimmed _ (15, [some (.ref 0), none], [.ref 3], [.inr (7, [.ref 1, .ref 2, .int u, .int s, .int ov]), .inl (0, 436, .inl f), .inl (0, 60, .inl g), .inr (7, [.ref 4, .ref 5, .int 0, .int 0, .int 0]), .inl (0, (tr_u u).toNatClampNeg, .inl (fun _ => 0)), .inl (0, (tr_s s).toNatClampNeg, .inl (fun _ => 0))], 3, 5 + (0 + (tr_u u).toNatClampNeg + (tr_s s).toNatClampNeg))
  obtain ⟨l1, l2⟩ := tr_len hu.2
  obtain ⟨l3, l4⟩ := tr_len (Nat.le_trans hs.2 (by decide))
  refine ax_go 11 (y := (34, [some (.ref 0), some (.ref 3)], [], [.inr (7, [.ref 1, .ref 2, .int u, .int s, .int ov]), .inl (0, 436, .inl f), .inl (0, 60, .inl g), .inr (7, [.ref 4, .ref 5, .int 0, .int 0, .int 0]), .inl (0, (tr_u u).toNatClampNeg, .inl (va_cpy f (fun _ => 0) 0 0 (Int32.ofNat (tr_u u).toNatClampNeg).toNatClampNeg)), .inl (0, (tr_s s).toNatClampNeg, .inl (fun _ => 0))], 3, 5 + (0 + (tr_u u).toNatClampNeg + (tr_s s).toNatClampNeg))) rfl ?_ ?_
  · exact ⟨by decide, by decide, l1, by rw [l2]; exact Nat.le_trans (Nat.le_of_eq (Nat.zero_add _)) hu.2, by rw [l2]; exact Nat.le_of_eq (Nat.zero_add _), trivial⟩
  refine ax_go 10 (y := (52, [some (.ref 0), some (.ref 3)], [], [.inr (7, [.ref 1, .ref 2, .int u, .int s, .int ov]), .inl (0, 436, .inl f), .inl (0, 60, .inl g), .inr (7, [.ref 4, .ref 5, .int 0, .int 0, .int 0]), .inl (0, (tr_u u).toNatClampNeg, .inl (va_cpy f (fun _ => 0) 0 0 (Int32.ofNat (tr_u u).toNatClampNeg).toNatClampNeg)), .inl (0, (tr_s s).toNatClampNeg, .inl (va_cpy g (fun _ => 0) 0 0 (Int32.ofNat (tr_s s).toNatClampNeg).toNatClampNeg))], 3, 5 + (0 + (tr_u u).toNatClampNeg + (tr_s s).toNatClampNeg))) rfl ?_ ?_
  · exact ⟨by decide, by decide, l3, by rw [l4]; exact Nat.le_trans (Nat.le_of_eq (Nat.zero_add _)) hs.2, by rw [l4]; exact Nat.le_of_eq (Nat.zero_add _), trivial⟩
  refine ax_go 13 (y := (77, [some (.ref 0), some (.ref 3)], [.ref 3], [.inr (7, [.ref 1, .ref 2, .int u, .int s, .int ov]), .inl (0, 436, .inl f), .inl (0, 60, .inl g), .inr (7, [.ref 4, .ref 5, .int u, .int s, .int ov]), .inl (0, (tr_u u).toNatClampNeg, .inl (va_cpy f (fun _ => 0) 0 0 (Int32.ofNat (tr_u u).toNatClampNeg).toNatClampNeg)), .inl (0, (tr_s s).toNatClampNeg, .inl (va_cpy g (fun _ => 0) 0 0 (Int32.ofNat (tr_s s).toNatClampNeg).toNatClampNeg))], 3, 5 + (0 + (tr_u u).toNatClampNeg + (tr_s s).toNatClampNeg))) rfl trivial ?_
  exact ax_ret rfl rfl trivial ⟨_, _, rfl⟩
