/-! contracts by hand: openClause of a text -/
section Hand4
variable {ro : ab_R} {fz : List (Nat × Nat)} {G : Nat → Nat} {F : ab_W → Prop}
/-- a row without bounds is written: what is known of the world stays -/
theorem ck_rowst {w0 w : ab_W} {o r ci n s : Nat} {fs : List Value} {f f' : Nat → Int32} (hw : ty_w sp_ G w) (hF : F_ G w) (hs : ty_same G fz w0 w) (ho : w[o]? = some (.inr (ci, fs))) (hr : w[r]? = some (.inl (0, n, .inl f))) (hG : G r = s) (hsp : sp_ s = (1, 0, n, [])) (hpr : ck_ok pr_ (s : Int) 999 = true) (hz : ck_ok fz (s : Int) 999 = true) :
    ty_w sp_ G (w.set r (.inl (0, n, .inl f'))) ∧ F_ G (w.set r (.inl (0, n, .inl f'))) ∧ ty_same G fz w0 (w.set r (.inl (0, n, .inl f'))) ∧ (w.set r (.inl (0, n, .inl f')))[o]? = some (.inr (ci, fs)) ∧ (w.set r (.inl (0, n, .inl f')))[r]? = some (.inl (0, n, .inl f')) := by
  have hs' : ((G r : Nat) : Int) = (s : Int) := by rw [hG]
  refine ⟨ty_w_set hw ?_, F_same (ck_same_row hr hpr hs') hF, ty_same_tr hs (ck_same_row hr hz hs'), ?_, ?_⟩
  · rw [hG, hsp]
    exact Or.inl ⟨rfl, rfl, rfl, fun q hq => by cases hq⟩
  · rw [List.getElem?_set, if_neg (fun z => by rw [z, ho] at hr; cases hr)]
    exact ho
  · rw [List.getElem?_set, if_pos rfl, if_pos (List.getElem?_eq_some_iff.mp hr).1]
theorem ck_plus {z : Int32} {c : Int32} {n : Nat} (h0 : 0 ≤ z.toInt) (h1 : 0 ≤ c.toInt) (h2 : z.toInt + c.toInt < n) (hn : n < 1000000) : vp_in (z + c) n := by
  have e : (z + c).toInt = z.toInt + c.toInt := by rw [Int32.toInt_add, ck_bmod (by omega) (by omega)]
  intro y
  have e2 : (z + c).toNatClampNeg = (z + c).toInt.toNat := rfl
  rcases y with y | y
  · rw [Int32.lt_iff_toInt_lt, show (0 : Int32).toInt = 0 from by decide] at y
    omega
  · omega
theorem h_X7_openClause (h1z : ck_ok fz 26 999 = true) (h2z : ck_ok fz 9 3 = true) (d : Nat) : ck_ct ro sp_ G (F_ G) fz (ab_Ev ro ab_codes (d + 20)) 75 [(2, 9, 0)] none 0 0 := by
  refine ck_hand (d := d + 19) (by decide) (fun as w hw hf has => ?_)
  match as, has with
  | [v0], ⟨h0, _⟩ =>
    obtain ⟨o, c, rfl, g1, g2, g3⟩ := ck_cell h0 hw rfl rfl
    obtain ⟨ci, ts, rfl, k4, k5, k6⟩ := ty_obj g3 rfl
    have k4 : ci = 7 := k4
    subst k4
    have g1 : G o = 9 := g1
    have k5 : ts.length = 5 := k5
    obtain ⟨n3, e1, e2⟩ := k6 3 _ rfl
    obtain ⟨u, rfl, u1, u2⟩ := ty_int e2 rfl
    have u1 : (0 : Int) ≤ u.toInt := u1
    have u2 : u.toInt ≤ 12 := u2
    obtain ⟨n1, i1, i2⟩ := k6 1 _ rfl
    obtain ⟨r, d1, rfl, i3, i4, i5⟩ := ck_cell i2 hw rfl rfl
    obtain ⟨f, rfl, _⟩ := ty_irow i5 rfl
    have i3 : G r = 26 := i3
    have i4 : w[r]? = some (.inl (0, 60, .inl f)) := i4
    refine ⟨rfl, ?_⟩
    change ab_wp ro _ 7 false none ab_k_X7_openClause _ (0, [some (.ref o), none], [], w, 0, 0)
    refine ax_go 1 rfl trivial ?_
    refine ay_gf rfl rfl g2 e1 ?_
    refine ax_go 4 rfl trivial ?_
    change ab_wp ro _ 7 false none ab_k_X7_openClause _ (8, [some (.ref o), some (.int (u * 5))], [.int (u * 5)], w, 0, 0)
    have ez : (u * 5).toInt = u.toInt * 5 := by
      rw [Int32.toInt_mul, show (5 : Int32).toInt = 5 from by decide, ck_bmod (by omega) (by omega)]
    generalize u * 5 = z at ez
    have no : ab_wp ro (ab_Ev ro ab_codes (d + 19)) 7 false none ab_k_X7_openClause (fun o_1 => ∃ v w1, o_1 = (v, w1, 0, 0) ∧ ty_w sp_ G w1 ∧ F_ G w1 ∧ ty_same G fz w w1 ∧ ck_res G none v ∧ ck_wit 0 0 [.ref o] v) (77, [some (.ref o), some (.int z)], [], w, 0, 0) := ax_ret rfl rfl trivial ⟨none, w, rfl, hw, hf, ty_same_rf w, trivial, trivial⟩
    refine ax_br rfl rfl (fun _ => no) (fun _ => ?_)
    refine ax_go 4 rfl trivial ?_
    refine ay_gf rfl rfl g2 i1 ?_
    refine ay_len rfl i4 rfl ?_
    refine ax_br rfl rfl (fun _ => no) (fun k => ?_)
    have k : ¬ (Int32.ofNat 60 < z + 5) := k
    rw [Int32.lt_iff_toInt_lt, show (Int32.ofNat 60).toInt = 60 from by decide, Int32.toInt_add, show (5 : Int32).toInt = 5 from by decide, ck_bmod (by omega) (by omega)] at k
    have s26 : sp_ 26 = (1, 0, 60, []) := rfl
    have p26 : ck_ok pr_ 26 999 = true := by decide
    refine ax_go 1 rfl trivial ?_
    refine ay_gf rfl rfl g2 i1 ?_
    refine ax_go 4 rfl trivial ?_
    refine ay_is rfl i4 (ck_plus (c := 0) (by omega) (by decide) (by rw [show (0 : Int32).toInt = 0 from by decide]; omega) (by decide)) ?_
    obtain ⟨t1, t2, t3, t4, t5⟩ := ck_rowst (f' := upd f (z + 0).toNatClampNeg (-1)) hw hf (ty_same_rf w) g2 i4 i3 s26 p26 h1z
    change ab_wp ro _ 7 false none ab_k_X7_openClause _ (31, [some (.ref o), some (.int z)], [], w.set r (.inl (0, 60, .inl (upd f (z + 0).toNatClampNeg (-1)))), 0, 0)
    generalize w.set r (.inl (0, 60, .inl (upd f (z + 0).toNatClampNeg (-1)))) = w1 at t1 t2 t3 t4 t5 ⊢
    generalize upd f (z + 0).toNatClampNeg (-1) = f1 at t5
    refine ax_go 1 rfl trivial ?_
    refine ay_gf rfl rfl t4 i1 ?_
    refine ax_go 4 rfl trivial ?_
    refine ay_is rfl t5 (ck_plus (c := 1) (by omega) (by decide) (by rw [show (1 : Int32).toInt = 1 from by decide]; omega) (by decide)) ?_
    obtain ⟨t1, t2, t3, t4, t5⟩ := ck_rowst (f' := upd f1 (z + 1).toNatClampNeg 1) t1 t2 t3 t4 t5 i3 s26 p26 h1z
    change ab_wp ro _ 7 false none ab_k_X7_openClause _ (40, [some (.ref o), some (.int z)], [], w1.set r (.inl (0, 60, .inl (upd f1 (z + 1).toNatClampNeg 1))), 0, 0)
    generalize w1.set r (.inl (0, 60, .inl (upd f1 (z + 1).toNatClampNeg 1))) = w2 at t1 t2 t3 t4 t5 ⊢
    generalize upd f1 (z + 1).toNatClampNeg 1 = f2 at t5
    refine ax_go 1 rfl trivial ?_
    refine ay_gf rfl rfl t4 i1 ?_
    refine ax_go 4 rfl trivial ?_
    refine ay_is rfl t5 (ck_plus (c := 2) (by omega) (by decide) (by rw [show (2 : Int32).toInt = 2 from by decide]; omega) (by decide)) ?_
    obtain ⟨t1, t2, t3, t4, t5⟩ := ck_rowst (f' := upd f2 (z + 2).toNatClampNeg (-1)) t1 t2 t3 t4 t5 i3 s26 p26 h1z
    change ab_wp ro _ 7 false none ab_k_X7_openClause _ (49, [some (.ref o), some (.int z)], [], w2.set r (.inl (0, 60, .inl (upd f2 (z + 2).toNatClampNeg (-1)))), 0, 0)
    generalize w2.set r (.inl (0, 60, .inl (upd f2 (z + 2).toNatClampNeg (-1)))) = w3 at t1 t2 t3 t4 t5 ⊢
    generalize upd f2 (z + 2).toNatClampNeg (-1) = f3 at t5
    refine ax_go 1 rfl trivial ?_
    refine ay_gf rfl rfl t4 i1 ?_
    refine ax_go 4 rfl trivial ?_
    refine ay_is rfl t5 (ck_plus (c := 3) (by omega) (by decide) (by rw [show (3 : Int32).toInt = 3 from by decide]; omega) (by decide)) ?_
    obtain ⟨t1, t2, t3, t4, t5⟩ := ck_rowst (f' := upd f3 (z + 3).toNatClampNeg (-1)) t1 t2 t3 t4 t5 i3 s26 p26 h1z
    change ab_wp ro _ 7 false none ab_k_X7_openClause _ (58, [some (.ref o), some (.int z)], [], w3.set r (.inl (0, 60, .inl (upd f3 (z + 3).toNatClampNeg (-1)))), 0, 0)
    generalize w3.set r (.inl (0, 60, .inl (upd f3 (z + 3).toNatClampNeg (-1)))) = w4 at t1 t2 t3 t4 t5 ⊢
    generalize upd f3 (z + 3).toNatClampNeg (-1) = f4 at t5
    refine ax_go 1 rfl trivial ?_
    refine ay_gf rfl rfl t4 i1 ?_
    refine ax_go 4 rfl trivial ?_
    refine ay_is rfl t5 (ck_plus (c := 4) (by omega) (by decide) (by rw [show (4 : Int32).toInt = 4 from by decide]; omega) (by decide)) ?_
    obtain ⟨t1, t2, t3, t4, t5⟩ := ck_rowst (f' := upd f4 (z + 4).toNatClampNeg (-1)) t1 t2 t3 t4 t5 i3 s26 p26 h1z
    change ab_wp ro _ 7 false none ab_k_X7_openClause _ (67, [some (.ref o), some (.int z)], [], w4.set r (.inl (0, 60, .inl (upd f4 (z + 4).toNatClampNeg (-1)))), 0, 0)
    generalize w4.set r (.inl (0, 60, .inl (upd f4 (z + 4).toNatClampNeg (-1)))) = w5 at t1 t2 t3 t4 t5 ⊢
    refine ax_go 2 rfl trivial ?_
    refine ay_gf rfl rfl t4 e1 ?_
    refine ax_go 2 rfl trivial ?_
    have ev : (u + 1).toInt = u.toInt + 1 := by
      rw [Int32.toInt_add, show (1 : Int32).toInt = 1 from by decide, ck_bmod (by omega) (by omega)]
    refine ay_pf (v := .int (u + 1)) rfl rfl (by decide) t4 (by omega) rfl trivial ?_
    have t6 := ty_put (k := 3) (v := .int (u + 1)) t1 t4 (by rw [g1]; rfl) rfl ⟨rfl, by show (0 : Int) ≤ (u + 1).toInt; omega, by show (u + 1).toInt ≤ 12; omega⟩
    exact ax_ret rfl rfl trivial ⟨none, _, rfl, t6, F_same (ck_same_put t4 (s := 9) (by decide) (by rw [g1]; rfl)) t2, ty_same_tr t3 (ck_same_put t4 h2z (by rw [g1]; rfl)), trivial, trivial⟩
end Hand4
