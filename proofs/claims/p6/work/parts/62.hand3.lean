/-! contracts by hand: isParish of the reference, emit of the reader -/
section Hand3
variable {ro : ab_R} {fz : List (Nat × Nat)} {G : Nat → Nat} {F : ab_W → Prop}
theorem ck_b01 {v : Option Value} (h : ck_res G (some (0, 0, 1)) v) : ∃ y : Int32, v = some (.int y) ∧ (y = 0 ∨ y = 1) := by
  cases v with
  | none => exact h.elim
  | some x =>
    obtain ⟨y, rfl, h1, h2⟩ := ty_int h rfl
    refine ⟨y, rfl, ?_⟩
    have h1 : (0 : Int) ≤ y.toInt := h1
    have h2 : y.toInt ≤ 1 := h2
    rw [← Int32.toInt_inj, ← Int32.toInt_inj, show (0 : Int32).toInt = 0 from by decide, show (1 : Int32).toInt = 1 from by decide]
    omega
theorem h_X9_isParish (d : Nat) : ck_ct ro sp_ G F fz (ab_Ev ro ab_codes (d + 20)) 133 [(2, 30, 0), (0, (-2147483648), 2147483647)] (some (0, 0, 1)) 2 10000000001009 := by
  refine ck_hand (d := d + 19) (by decide) (fun as w hw hf has => ?_)
  match as, has with
  | [v0, v1], ⟨h0, h1, _⟩ =>
    obtain ⟨o, c, rfl, g1, g2, g3⟩ := ck_cell h0 hw rfl rfl
    obtain ⟨ci, fs, rfl, g4, g5, g6⟩ := ty_obj g3 rfl
    have g4 : ci = 9 := g4
    subst g4
    obtain ⟨p, rfl, _⟩ := ty_int h1 rfl
    obtain ⟨n2, c1, c2⟩ := g6 2 _ rfl
    obtain ⟨q, d0, rfl, c3, c4, c5⟩ := ck_cell c2 hw rfl rfl
    obtain ⟨f, rfl, hf2⟩ := ty_irow c5 rfl
    have c4 : w[q]? = some (.inl (0, 5721, .inl f)) := c4
    have hm : (0 : Int) ≤ (f 110).toInt ∧ (f 110).toInt ≤ 10 := hf2 (110, 111, 1, 0, 0, 10) (by decide) 110 (by decide) (by decide) (by decide)
    have hm2 : (f 110 - 1).toInt = (f 110).toInt - 1 := by
      rw [Int32.toInt_sub, show (1 : Int32).toInt = 1 from by decide, ck_bmod (by omega) (by omega)]
    refine ⟨rfl, ?_⟩
    change ab_wp ro _ 9 false (some .boolean) ab_k_X9_isParish _ (0, [some (.ref o), some (.int p)], [], w, 0, 0)
    refine ax_go 3 rfl trivial ?_
    refine ay_gf rfl rfl g2 c1 ?_
    refine ax_go 1 rfl trivial ?_
    refine ay_il rfl c4 (vi (by decide)) ?_
    change ab_wp ro _ 9 false (some .boolean) ab_k_X9_isParish _ (9, [some (.ref o), some (.int p)], [.int (f 110), .int 0, .int p], w, 0, 0)
    refine ax_go 2 rfl trivial ?_
    change ab_wp ro _ 9 false (some .boolean) ab_k_X9_isParish _ (11, [some (.ref o), some (.int p)], [.int (f 110 - 1), .int 0, .int p], w, 0, 0)
    refine ax_cl rfl rfl (h_X9_lies1 (fz := fz) (d + 18) (l1 := 0) (l2 := 0) (h1 := -1) (h2 := 9) (wf := 10000000001009) (by decide) (by decide) [.int p, .int 0, .int (f 110 - 1)] w hw hf ⟨h1, ⟨rfl, by decide, by decide⟩, ⟨rfl, by show (-1 : Int) ≤ (f 110 - 1).toInt; omega, by show (f 110 - 1).toInt ≤ 9; omega⟩, trivial⟩) (fun v w1 mc ms hq => ?_)
    obtain ⟨rfl, rfl, q1, q2, q3, q4, q5⟩ := hq
    obtain ⟨y, rfl, hy⟩ := ck_b01 q4
    refine ax_ret rfl rfl ⟨hy, trivial⟩ ⟨some (.int y), w1, rfl, q1, q2, q3, q4, fun z hz hn => ?_⟩
    obtain ⟨u, u1, u2⟩ := q5 z hz hn
    cases u1
    exact ⟨p, rfl, u2⟩
theorem h_X5_emit (h1z : ck_ok fz 25 999 = true) (h2z : ck_ok fz 9 2 = true) (d : Nat) : ck_ct ro sp_ G (F_ G) fz (ab_Ev ro ab_codes (d + 20)) 66 [(2, 8, 0), (0, (-2147483648), 2147483647), (0, (-2147483648), 2147483647)] (some (0, 0, 436)) 0 0 := by
  refine ck_hand (d := d + 19) (by decide) (fun as w hw hf has => ?_)
  match as, has with
  | [v0, v1, v2], ⟨h0, h1, h2, _⟩ =>
    obtain ⟨o, c, rfl, g1, g2, g3⟩ := ck_cell h0 hw rfl rfl
    obtain ⟨ci, fs, rfl, g4, g5, g6⟩ := ty_obj g3 rfl
    have g4 : ci = 5 := g4
    subst g4
    have g1 : G o = 8 := g1
    obtain ⟨a, rfl, _⟩ := ty_int h1 rfl
    obtain ⟨b, rfl, _⟩ := ty_int h2 rfl
    obtain ⟨n1, c1, c2⟩ := g6 1 _ rfl
    obtain ⟨q, d0, rfl, c3, c4, c5⟩ := ck_cell c2 hw rfl rfl
    obtain ⟨ci, ts, rfl, k4, k5, k6⟩ := ty_obj c5 rfl
    have k4 : ci = 7 := k4
    subst k4
    have c3 : G q = 9 := c3
    have k5 : ts.length = 5 := k5
    obtain ⟨n2, e1, e2⟩ := k6 2 _ rfl
    obtain ⟨u, rfl, u1, u2⟩ := ty_int e2 rfl
    have u1 : (0 : Int) ≤ u.toInt := u1
    have u2 : u.toInt ≤ 436 := u2
    obtain ⟨n0, i1, i2⟩ := k6 0 _ rfl
    obtain ⟨r, d1, rfl, i3, i4, i5⟩ := ck_cell i2 hw rfl rfl
    obtain ⟨f, rfl, _⟩ := ty_irow i5 rfl
    have i3 : G r = 25 := i3
    have i4 : w[r]? = some (.inl (0, 436, .inl f)) := i4
    refine ⟨rfl, ?_⟩
    change ab_wp ro _ 5 false (some .int) ab_k_X5_emit _ (0, [some (.ref o), some (.int a), some (.int b), none], [], w, 0, 0)
    refine ax_go 1 rfl trivial ?_
    refine ay_gf rfl rfl g2 c1 ?_
    refine ay_gf rfl rfl c4 e1 ?_
    refine ax_go 3 rfl trivial ?_
    refine ay_gf rfl rfl g2 c1 ?_
    refine ay_gf rfl rfl c4 i1 ?_
    refine ay_len rfl i4 rfl ?_
    refine ax_br rfl rfl (fun _ => ?_) (fun k => ?_)
    · refine ax_go 1 rfl trivial ?_
      exact ax_ret rfl rfl trivial ⟨some (.int u), w, rfl, hw, hf, ty_same_rf w, ⟨rfl, u1, u2⟩, trivial⟩
    · have k : ¬ (Int32.ofNat 436 ≤ u) := k
      rw [Int32.le_iff_toInt_le, show (Int32.ofNat 436).toInt = 436 from by decide] at k
      refine ax_go 1 rfl trivial ?_
      refine ay_gf rfl rfl g2 c1 ?_
      refine ay_gf rfl rfl c4 i1 ?_
      refine ax_go 6 rfl trivial ?_
      have hin : vp_in u 436 := by
        intro y
        have e : u.toNatClampNeg = u.toInt.toNat := rfl
        rcases y with y | y
        · rw [Int32.lt_iff_toInt_lt, show (0 : Int32).toInt = 0 from by decide] at y
          omega
        · omega
      refine ay_is rfl i4 hin ?_
      generalize hw1 : w.set r (.inl (0, 436, .inl (upd f u.toNatClampNeg _))) = w1
      have t1 : ty_w sp_ G w1 := by
        rw [← hw1]
        refine ty_w_set hw ?_
        rw [i3]
        exact Or.inl ⟨rfl, rfl, rfl, fun q hq => by cases hq⟩
      have s0 : ty_same G pr_ w w1 := by
        rw [← hw1]
        exact ck_same_row i4 (s := 25) (by decide) (by rw [i3]; rfl)
      have s1 : ty_same G fz w w1 := by
        rw [← hw1]
        exact ck_same_row i4 h1z (by rw [i3]; rfl)
      have o1 : w1[o]? = some (.inr (5, fs)) := by
        rw [← hw1, List.getElem?_set, if_neg (fun z => by rw [z, g1] at i3; cases i3)]
        exact g2
      have q1 : w1[q]? = some (.inr (7, ts)) := by
        rw [← hw1, List.getElem?_set, if_neg (fun z => by rw [z, c3] at i3; cases i3)]
        exact c4
      refine ax_go 1 rfl trivial ?_
      refine ay_gf rfl rfl o1 c1 ?_
      refine ax_go 1 rfl trivial ?_
      refine ay_gf rfl rfl q1 e1 ?_
      refine ax_go 2 rfl trivial ?_
      have ev : (u + 1).toInt = u.toInt + 1 := by
        rw [Int32.toInt_add, show (1 : Int32).toInt = 1 from by decide, ck_bmod (by omega) (by omega)]
      refine ay_pf (v := .int (u + 1)) rfl rfl (by decide) q1 (by omega) rfl trivial ?_
      have t2 := ty_put (k := 2) (v := .int (u + 1)) t1 q1 (by rw [c3]; rfl) rfl ⟨rfl, by show (0 : Int) ≤ (u + 1).toInt; omega, by show (u + 1).toInt ≤ 436; omega⟩
      refine ax_go 1 rfl trivial ?_
      exact ax_ret rfl rfl trivial ⟨some (.int u), _, rfl, t2, F_same (ck_same_put q1 (s := 9) (by decide) (by rw [c3]; rfl)) (F_same s0 hf), ty_same_tr s1 (ck_same_put q1 h2z (by rw [c3]; rfl)), ⟨rfl, u1, u2⟩, trivial⟩
end Hand3
