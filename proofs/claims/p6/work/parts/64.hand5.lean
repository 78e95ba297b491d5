/-! contracts by hand: hear of the class -/
section Hand5
variable {ro : ab_R} {fz : List (Nat × Nat)} {G : Nat → Nat}
theorem h_X1_has1 {F : ab_W → Prop} (d : Nat) (h : ∀ d, ck_ct ro sp_ G F fz (ab_Ev ro ab_codes (d + 20)) 5 [(2, 2, 0), (0, (-2147483648), 2147483647)] (some (0, 0, 1)) 2 10000000001009) : ck_ct ro sp_ G F fz (ab_Ev ro ab_codes (d + 20)) 5 [(2, 2, 0), (0, (-2147483648), 2147483647)] (some (0, 0, 1)) 2 10000000001009 := h d
theorem h_X8_hear (hfz : ∀ q ∈ fz, q ∈ fb_X8_settle_0) (h1z : ck_ok fz 14 999 = true) (h2z : ck_ok fz 2 14 = true) (d : Nat) : ck_ct ro sp_ G (F_ G) fz (ab_Ev ro ab_codes (d + 21)) 103 [(2, 1, 0), (0, (-2147483648), 2147483647), (0, (-2147483648), 2147483647)] (some (0, (-2147483648), 2147483647)) 0 0 := by
  refine ck_hand (d := d + 20) (by decide) (fun as w hw hf has => ?_)
  match as, has with
  | [v0, v1, v2], ⟨h0, h1, h2, _⟩ =>
    obtain ⟨o, c, rfl, g1, g2, g3⟩ := ck_cell h0 hw rfl rfl
    obtain ⟨ci, fs, rfl, g4, g5, g6⟩ := ty_obj g3 rfl
    have g4 : ci = 8 := g4
    subst g4
    have g1 : G o = 1 := g1
    obtain ⟨p, rfl, _⟩ := ty_int h1 rfl
    obtain ⟨b, rfl, _⟩ := ty_int h2 rfl
    obtain ⟨n1, c1, c2⟩ := g6 1 _ rfl
    obtain ⟨q, d0, rfl, c3, c4, c5⟩ := ck_cell c2 hw rfl rfl
    have hos : ∀ w' : ab_W, ty_w sp_ G w' → ty_v G (2, 1, 0) (.ref o) := fun w' _ => h0
    refine ⟨rfl, ?_⟩
    -- a refusal or an answer goes through settle
    have fin : ∀ (pc t : Nat) (x : Int32) (w' : ab_W), ab_k_X8_hear pc = some (.invokevirtual 80, t) → ab_k_X8_hear (pc + 3) = some (.ireturn, 0) → ty_w sp_ G w' → F_ G w' → ty_same G fz w w' → ab_wp ro (ab_Ev ro ab_codes (d + 20)) 8 false (some .int) ab_k_X8_hear (fun o_1 => ∃ v w1, o_1 = (v, w1, 0, 0) ∧ ty_w sp_ G w1 ∧ F_ G w1 ∧ ty_same G fz w w1 ∧ ck_res G (some (0, (-2147483648), 2147483647)) v ∧ ck_wit 0 0 [.ref o, .int p, .int b] v) (pc, [some (.ref o), some (.int p), some (.int b)], [.int x, .ref o], w', 0, 0) := by
      intro pc t x w' hc hr i1 i2 i3
      obtain ⟨c', j1, j2⟩ := ty_w_at i1 (show G o ≠ 0 by rw [g1]; decide)
      rw [g1] at j2
      obtain ⟨cj, fs', rfl, j3, _⟩ := ty_obj j2 rfl
      have j3 : cj = 8 := j3
      subst j3
      have hca : ab_ca 8 (.invokevirtual 80) [.int x, .ref o] w' = some (115, [.ref o, .int x], []) := by
        have e1 : ab_lk (ab_mT 8) 80 = some (115, 1, 0) := by decide
        simp only [ab_ca, e1, List.drop, List.take, j1]
        rfl
      refine ax_cl hc hca (cc_X8_settle_0 (fun w w' h hF => F_same h hF) hfz (d + 19) [.ref o, .int x] w' i1 i2 ⟨h0, ck_top_ok x, trivial⟩) (fun v w1 mc ms hq => ?_)
      obtain ⟨rfl, rfl, q1, q2, q3, q4, q5⟩ := hq
      cases v with
      | none => exact q4.elim
      | some y =>
        obtain ⟨z, rfl, _⟩ := ty_int q4 rfl
        exact ax_ret hr rfl trivial ⟨some (.int z), w1, rfl, q1, q2, ty_same_tr i3 q3, q4, trivial⟩
    change ab_wp ro _ 8 false (some .int) ab_k_X8_hear _ (0, [some (.ref o), some (.int p), some (.int b)], [], w, 0, 0)
    have bad : ab_wp ro (ab_Ev ro ab_codes (d + 20)) 8 false (some .int) ab_k_X8_hear (fun o_1 => ∃ v w1, o_1 = (v, w1, 0, 0) ∧ ty_w sp_ G w1 ∧ F_ G w1 ∧ ty_same G fz w w1 ∧ ck_res G (some (0, (-2147483648), 2147483647)) v ∧ ck_wit 0 0 [.ref o, .int p, .int b] v) (10, [some (.ref o), some (.int p), some (.int b)], [], w, 0, 0) := by
      refine ax_go 2 rfl trivial ?_
      exact fin 12 0 _ w rfl rfl hw hf (ty_same_rf w)
    refine ax_go 1 rfl trivial ?_
    refine ax_br rfl rfl (fun _ => bad) (fun _ => ?_)
    refine ax_go 2 rfl trivial ?_
    refine ax_br rfl rfl (fun _ => ?_) (fun _ => bad)
    refine ax_go 1 rfl trivial ?_
    refine ay_gf rfl rfl g2 c1 ?_
    refine ax_go 1 rfl trivial ?_
    obtain ⟨cl, ls, rfl, l3, _⟩ := ty_obj c5 rfl
    have l3 : cl = 1 := l3
    subst l3
    have hca : ab_ca 8 (.invokevirtual 84) [.int p, .ref q] w = some (5, [.ref q, .int p], []) := by
      have e1 : ab_lk (ab_mT 8) 84 = some (5, 1, 0) := by decide
      simp only [ab_ca, e1, List.drop, List.take, c4]
      rfl
    refine ax_cl rfl hca (h_X1_has (fz := fz) d [.ref q, .int p] w hw hf ⟨c2, h1, trivial⟩) (fun v w1 mc ms hq => ?_)
    obtain ⟨rfl, rfl, q1, q2, q3, q4, q5⟩ := hq
    obtain ⟨y, rfl, hy⟩ := ck_b01 q4
    refine ax_br rfl rfl (fun _ => ?_) (fun _ => ?_)
    · -- heard there is room for?
      obtain ⟨c', j1, j2⟩ := ty_w_at q1 (show G o ≠ 0 by rw [g1]; decide)
      rw [g1] at j2
      obtain ⟨cj, fs', rfl, j3, _, j6⟩ := ty_obj j2 rfl
      have j3 : cj = 8 := j3
      subst j3
      obtain ⟨n1', a1, a2⟩ := j6 1 _ rfl
      obtain ⟨l, d1, rfl, a3, a4, a5⟩ := ck_cell a2 q1 rfl rfl
      obtain ⟨cl, ls', rfl, b3, b5, b6⟩ := ty_obj a5 rfl
      have b3 : cl = 1 := b3
      subst b3
      have a3 : G l = 2 := a3
      have b5 : ls'.length = 18 := b5
      obtain ⟨n14, e1, e2⟩ := b6 14 _ rfl
      obtain ⟨u, rfl, u1, u2⟩ := ty_int e2 rfl
      have u1 : (0 : Int) ≤ u.toInt := u1
      obtain ⟨n8, r1, r2⟩ := b6 8 _ rfl
      obtain ⟨r8, d8, rfl, r3, r4, r5⟩ := ck_cell r2 q1 rfl rfl
      obtain ⟨f8, rfl, _⟩ := ty_irow r5 rfl
      have r3 : G r8 = 14 := r3
      have r4 : w1[r8]? = some (.inl (0, 8, .inl f8)) := r4
      refine ax_go 1 rfl trivial ?_
      refine ay_gf rfl rfl j1 a1 ?_
      refine ay_gf rfl rfl a4 e1 ?_
      refine ax_go 1 rfl trivial ?_
      refine ax_br rfl rfl (fun k => ?_) (fun _ => ?_)
      · have k : u < 8 := k
        rw [Int32.lt_iff_toInt_lt, show (8 : Int32).toInt = 8 from by decide] at k
        have hin : vp_in u 8 := by
          intro y
          have e : u.toNatClampNeg = u.toInt.toNat := rfl
          rcases y with y | y
          · rw [Int32.lt_iff_toInt_lt, show (0 : Int32).toInt = 0 from by decide] at y
            omega
          · omega
        have s14 : sp_ 14 = (1, 0, 8, []) := rfl
        have p14 : ck_ok pr_ 14 999 = true := by decide
        refine ax_go 1 rfl trivial ?_
        refine ay_gf rfl rfl j1 a1 ?_
        refine ay_gf rfl rfl a4 r1 ?_
        refine ax_go 1 rfl trivial ?_
        refine ay_gf rfl rfl j1 a1 ?_
        refine ay_gf rfl rfl a4 e1 ?_
        refine ax_go 1 rfl trivial ?_
        refine ay_is rfl r4 hin ?_
        obtain ⟨t1, t2, t3, t4, _⟩ := ck_rowst (f' := upd f8 u.toNatClampNeg p) q1 q2 q3 a4 r4 r3 s14 p14 h1z
        have j1' : (w1.set r8 (.inl (0, 8, .inl (upd f8 u.toNatClampNeg p))))[o]? = some (.inr (8, fs')) := by
          rw [List.getElem?_set, if_neg (fun z => by rw [z, g1] at r3; cases r3)]
          exact j1
        generalize w1.set r8 (.inl (0, 8, .inl (upd f8 u.toNatClampNeg p))) = w2 at t1 t2 t3 t4 j1' ⊢
        obtain ⟨n9, m1, m2⟩ := b6 9 _ rfl
        obtain ⟨r9, d9, rfl, m3, m4, m5⟩ := ck_cell m2 t1 rfl rfl
        obtain ⟨f9, rfl, _⟩ := ty_irow m5 rfl
        have m3 : G r9 = 14 := m3
        have m4 : w2[r9]? = some (.inl (0, 8, .inl f9)) := m4
        refine ax_go 1 rfl trivial ?_
        refine ay_gf rfl rfl j1' a1 ?_
        refine ay_gf rfl rfl t4 m1 ?_
        refine ax_go 1 rfl trivial ?_
        refine ay_gf rfl rfl j1' a1 ?_
        refine ay_gf rfl rfl t4 e1 ?_
        refine ax_go 1 rfl trivial ?_
        refine ay_is rfl m4 hin ?_
        obtain ⟨t1, t2, t3, t4, _⟩ := ck_rowst (f' := upd f9 u.toNatClampNeg b) t1 t2 t3 t4 m4 m3 s14 p14 h1z
        have j1'' : (w2.set r9 (.inl (0, 8, .inl (upd f9 u.toNatClampNeg b))))[o]? = some (.inr (8, fs')) := by
          rw [List.getElem?_set, if_neg (fun z => by rw [z, g1] at m3; cases m3)]
          exact j1'
        generalize w2.set r9 (.inl (0, 8, .inl (upd f9 u.toNatClampNeg b))) = w3 at t1 t2 t3 t4 j1'' ⊢
        refine ax_go 1 rfl trivial ?_
        refine ay_gf rfl rfl j1'' a1 ?_
        refine ax_go 1 rfl trivial ?_
        refine ay_gf rfl rfl t4 e1 ?_
        refine ax_go 2 rfl trivial ?_
        have ev : (u + 1).toInt = u.toInt + 1 := by
          rw [Int32.toInt_add, show (1 : Int32).toInt = 1 from by decide, ck_bmod (by omega) (by omega)]
        refine ay_pf (v := .int (u + 1)) rfl rfl (by decide) t4 (by omega) rfl trivial ?_
        have t6 := ty_put (k := 14) (v := .int (u + 1)) t1 t4 (by rw [a3]; rfl) rfl ⟨rfl, by show (0 : Int) ≤ (u + 1).toInt; omega, by show (u + 1).toInt ≤ 8; omega⟩
        have t7 : F_ G (w3.set l (.inr (1, ls'.set 14 (.int (u + 1))))) := F_same (ck_same_put t4 (s := 2) (by decide) (by rw [a3]; rfl)) t2
        have t8 : ty_same G fz w (w3.set l (.inr (1, ls'.set 14 (.int (u + 1))))) := ty_same_tr t3 (ck_same_put t4 h2z (by rw [a3]; rfl))
        have o3 : (w3.set l (.inr (1, ls'.set 14 (.int (u + 1)))))[o]? = some (.inr (8, fs')) := by
          rw [List.getElem?_set, if_neg (fun z => by rw [z, g1] at a3; cases a3)]
          exact j1''
        have l3 : (w3.set l (.inr (1, ls'.set 14 (.int (u + 1)))))[l]? = some (.inr (1, ls'.set 14 (.int (u + 1)))) := by
          rw [List.getElem?_set, if_pos rfl, if_pos (List.getElem?_eq_some_iff.mp t4).1]
        have e3 : (ls'.set 14 (.int (u + 1)))[14]? = some (.int (u + 1)) := by
          rw [List.getElem?_set, if_pos rfl, if_pos (by omega)]
        refine ax_go 2 rfl trivial ?_
        refine ay_gf rfl rfl o3 a1 ?_
        refine ay_gf rfl rfl l3 e3 ?_
        exact fin 106 0 _ _ rfl rfl t6 t7 t8
      · refine ax_go 2 rfl trivial ?_
        exact fin 49 0 _ w1 rfl rfl q1 q2 q3
    · refine ax_go 2 rfl trivial ?_
      exact fin 30 0 _ w1 rfl rfl q1 q2 q3
end Hand5
