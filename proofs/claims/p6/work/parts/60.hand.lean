/-! contracts by hand: rules for a world that is told by its types -/
section Ay
variable {ro : ab_R} {C : Nat → List Value → ab_W → ab_O → Prop} {own : Nat} {ini : Bool} {ret : Option FieldType} {code : ab_C} {Q : ab_O → Prop}
theorem ay_gf {pc a b t ix ci k o : Nat} {L : ab_L} {r fs : List Value} {w : ab_W} {v : Value} (hc : code pc = some (.getfield ix, t)) (hl : ab_lk (ab_fT own) ix = some (ci, k)) (hw : w[o]? = some (.inr (ci, fs))) (hv : fs[k]? = some v) (kk : ab_wp ro C own ini ret code Q (pc + 3, L, v :: r, w, a, b)) : ab_wp ro C own ini ret code Q (pc, L, .ref o :: r, w, a, b) :=
  ax_sw (x := (L, v :: r, w, a, b)) (pc + 3) hc (show ab_nx ro own ini (.getfield ix) t pc L (.ref o :: r) w a b = some ([], pc + 3, L, v :: r, w, a, b) by simp only [ab_nx, hl, hw, Nat.beq_refl, cond_true, hv]) rfl trivial kk
theorem ay_il {pc a b t o n : Nat} {L : ab_L} {r : List Value} {w : ab_W} {i : Int32} {f : Nat → Int32} (hc : code pc = some (.iaload, t)) (hw : w[o]? = some (.inl (0, n, .inl f))) (hi : vp_in i n) (kk : ab_wp ro C own ini ret code Q (pc + 1, L, .int (f i.toNatClampNeg) :: r, w, a, b)) : ab_wp ro C own ini ret code Q (pc, L, .int i :: .ref o :: r, w, a, b) :=
  ax_sw (x := (L, .int (f i.toNatClampNeg) :: r, w, a, b)) (pc + 1) hc (show ab_nx ro own ini .iaload t pc L (.int i :: .ref o :: r) w a b = some ([vp_in i n], pc + 1, L, .int (f i.toNatClampNeg) :: r, w, a, b) by simp only [ab_nx, hw]) rfl ⟨hi, trivial⟩ kk
theorem ay_len {pc a b t o k n : Nat} {L : ab_L} {r : List Value} {w : ab_W} {x : _} (hc : code pc = some (.arraylength, t)) (hw : w[o]? = some (.inl (k, n, x))) (hk : Nat.blt k 6 = true) (kk : ab_wp ro C own ini ret code Q (pc + 1, L, .int (Int32.ofNat n) :: r, w, a, b)) : ab_wp ro C own ini ret code Q (pc, L, .ref o :: r, w, a, b) :=
  ax_sw (x := (L, .int (Int32.ofNat n) :: r, w, a, b)) (pc + 1) hc (show ab_nx ro own ini .arraylength t pc L (.ref o :: r) w a b = some ([], pc + 1, L, .int (Int32.ofNat n) :: r, w, a, b) by simp only [ab_nx, hw, hk, cond_true]) rfl trivial kk
end Ay
section Hand
variable {ro : ab_R} {sp : Nat → ty_S} {fz : List (Nat × Nat)} {G : Nat → Nat} {F : ab_W → Prop}
/-- a method that is walked by hand in a typed world -/
theorem ck_hand {d j : Nat} {ga : List ty_A} {rt : Option ty_A} {wa wf : Nat} (hj : j < 240) (h : ∀ (as : List Value) (w : ab_W), ty_w sp G w → F w → ck_tys G ga as → (ab_en (ab_nL j) as).length = ab_nL j ∧ ab_wp ro (ab_Ev ro ab_codes d) (ab_ow j) (ab_ini j) (ab_ret j) (ab_codes j) (fun o => ∃ v w1, o = (v, w1, 0, 0) ∧ ty_w sp G w1 ∧ F w1 ∧ ty_same G fz w w1 ∧ ck_res G rt v ∧ ck_wit wa wf as v) (0, ab_en (ab_nL j) as, [], w, 0, 0)) : ck_ct ro sp G F fz (ab_Ev ro ab_codes (d + 1)) j ga rt wa wf := by
  intro as w hw hf has
  obtain ⟨hlen, o, k, hX, v, w1, rfl, q1, q2, q3, q4, q5⟩ := h as w hw hf has
  refine ab_cl_id hw (ck_tys_mem has) ⟨hj, hlen, k, hX⟩ q1 q3.1 (fun x hx => ?_) ⟨rfl, rfl, q1, q2, q3, q4, q5⟩
  subst hx
  cases rt with
  | none => exact q4.elim
  | some t => exact ⟨t, q4⟩
theorem h_X1_has (d : Nat) : ck_ct ro sp_ G F fz (ab_Ev ro ab_codes (d + 20)) 5 [(2, 2, 0), (0, (-2147483648), 2147483647)] (some (0, 0, 1)) 2 10000000001009 := by
  refine ck_hand (d := d + 19) (by decide) (fun as w hw hf has => ?_)
  match as, has with
  | [v0, v1], ⟨h0, h1, _⟩ =>
    obtain ⟨o, c, rfl, g1, g2, g3⟩ := ck_cell h0 hw rfl rfl
    obtain ⟨ci, fs, rfl, g4, g5, g6⟩ := ty_obj g3 rfl
    have g4 : ci = 1 := g4
    subst g4
    obtain ⟨p, rfl, _⟩ := ty_int h1 rfl
    obtain ⟨n, hn1, hn2⟩ := g6 11 _ rfl
    obtain ⟨x, rfl, hx1, hx2⟩ := ty_int hn2 rfl
    have hx1 : (0 : Int) ≤ x.toInt := hx1
    have hx2 : x.toInt ≤ 10 := hx2
    refine ⟨rfl, ?_⟩
    have fin : ∀ (y : Int32), (y = 0 ∨ y = 1) → (y = 1 → 0 ≤ p.toInt ∧ p.toInt ≤ 9) → ∃ v w1, ((some (.int y), w, 0, 0) : ab_O) = (v, w1, 0, 0) ∧ ty_w sp_ G w1 ∧ F w1 ∧ ty_same G fz w w1 ∧ ck_res G (some (0, 0, 1)) v ∧ ck_wit 2 10000000001009 [.ref o, .int p] v := by
      intro y hy hp
      refine ⟨_, w, rfl, hw, hf, ty_same_rf w, ?_, fun z hz hn => ?_⟩
      · rcases hy with rfl | rfl
        · exact ⟨rfl, by decide, by decide⟩
        · exact ⟨rfl, by decide, by decide⟩
      · cases hz
        rcases hy with rfl | rfl
        · exact absurd (by decide) hn
        · exact ⟨p, rfl, (hp rfl).1, (hp rfl).2⟩
    change ab_wp ro _ 1 false (some .boolean) ab_k_X1_has _ (0, [some (.ref o), some (.int p)], [], w, 0, 0)
    have no : ab_wp ro (ab_Ev ro ab_codes (d + 19)) 1 false (some .boolean) ab_k_X1_has (fun o_1 => ∃ v w1, o_1 = (v, w1, 0, 0) ∧ ty_w sp_ G w1 ∧ F w1 ∧ ty_same G fz w w1 ∧ ck_res G (some (0, 0, 1)) v ∧ ck_wit 2 10000000001009 [.ref o, .int p] v) (22, [some (.ref o), some (.int p)], [], w, 0, 0) := by
      refine ax_go 1 rfl trivial ?_
      exact ax_ret rfl rfl ⟨Or.inl rfl, trivial⟩ (fin 0 (Or.inl rfl) (fun z => absurd z (by decide)))
    refine ax_go 1 rfl trivial ?_
    refine ax_br rfl rfl (fun _ => no) (fun k1 => ?_)
    have k1 : ¬ (p < 0) := k1
    rw [Int32.lt_iff_toInt_lt, show (0 : Int32).toInt = 0 from by decide] at k1
    refine ax_go 2 rfl trivial ?_
    refine ay_gf rfl rfl g2 hn1 ?_
    refine ax_br rfl rfl (fun _ => no) (fun k2 => ?_)
    refine ax_go 2 rfl trivial ?_
    refine ax_br rfl rfl (fun _ => no) (fun k3 => ?_)
    have k3 : ¬ ((10 : Int32) ≤ p) := k3
    rw [Int32.le_iff_toInt_le, show (10 : Int32).toInt = 10 from by decide] at k3
    refine ax_go 2 rfl trivial ?_
    exact ax_ret rfl rfl ⟨Or.inr rfl, trivial⟩ (fin 1 (Or.inr rfl) (fun _ => by omega))
/-- what no type says of the class's world -/
def F_ (G : Nat → Nat) (w : ab_W) : Prop := (∀ (k ci : Nat) (fs : List Value) (x y : Int32), G k = 8 → w[k]? = some (.inr (ci, fs)) → fs[5]? = some (.int x) → fs[3]? = some (.int y) → x.toInt = 3 → y.toInt ≤ 399) ∧ (∀ (k : Nat) (f : Nat → Int32), G k = 19 → w[k]? = some (.inl (0, 1224, .inl f)) → ∀ s, s < 17 → (∀ i, 20 ≤ i → i < 36 → 0 ≤ (f (72 * s + i)).toInt ∧ (f (72 * s + i)).toInt ≤ 9) ∧ 0 ≤ (f (72 * s + 68)).toInt ∧ (f (72 * s + 68)).toInt ≤ 16)
theorem F_same {w w' : ab_W} (h : ty_same G pr_ w w') (hF : F_ G w) : F_ G w' := by
  refine ⟨fun k ci fs x y hk hc hx hy e => ?_, fun k f hk hc => ?_⟩
  · have m5 : (G k, 5) ∈ pr_ := by rw [hk]; decide
    have m3 : (G k, 3) ∈ pr_ := by rw [hk]; decide
    have e5 := (h.2 k 5 m5).2
    have e3 := (h.2 k 3 m3).2
    rw [hc] at e5 e3
    have e5 : fs[5]? = (w[k]?).bind (ty_fd 5) := e5
    have e3 : fs[3]? = (w[k]?).bind (ty_fd 3) := e3
    rw [hx] at e5
    rw [hy] at e3
    cases hw : w[k]? with
    | none => rw [hw] at e5; cases e5
    | some c =>
      rw [hw] at e5 e3
      rcases c with c | ⟨ci', fs'⟩
      · cases e5
      · exact hF.1 k ci' fs' x y hk hw e5.symm e3.symm e
  · have m : (G k, 999) ∈ pr_ := by rw [hk]; decide
    have e := (h.2 k 999 m).1 rfl
    exact hF.2 k f hk (by rw [← e]; exact hc)
theorem h_X5_isSign (d : Nat) : ck_ct ro sp_ G (F_ G) fz (ab_Ev ro ab_codes (d + 20)) 64 [(2, 8, 0), (0, (-2147483648), 2147483647)] (some (0, 0, 1)) 0 0 := by
  refine ck_hand (d := d + 19) (by decide) (fun as w hw hf has => ?_)
  match as, has with
  | [v0, v1], ⟨h0, h1, _⟩ =>
    obtain ⟨o, c, rfl, g1, g2, g3⟩ := ck_cell h0 hw rfl rfl
    obtain ⟨ci, fs, rfl, g4, g5, g6⟩ := ty_obj g3 rfl
    have g4 : ci = 5 := g4
    subst g4
    have g1 : G o = 8 := g1
    obtain ⟨p, rfl, _⟩ := ty_int h1 rfl
    obtain ⟨n5, a1, a2⟩ := g6 5 _ rfl
    obtain ⟨x5, rfl, _⟩ := ty_int a2 rfl
    obtain ⟨n3, b1, b2⟩ := g6 3 _ rfl
    obtain ⟨x3, rfl, b3, b4⟩ := ty_int b2 rfl
    have b3 : (0 : Int) ≤ x3.toInt := b3
    obtain ⟨n0, c1, c2⟩ := g6 0 _ rfl
    obtain ⟨q, d0, rfl, c3, c4, c5⟩ := ck_cell c2 hw rfl rfl
    obtain ⟨f, rfl, _⟩ := ty_irow c5 rfl
    have c4 : w[q]? = some (.inl (0, 400, .inl f)) := c4
    refine ⟨rfl, ?_⟩
    have fin : ∀ (y : Int32), (y = 0 ∨ y = 1) → ∃ v w1, ((some (.int y), w, 0, 0) : ab_O) = (v, w1, 0, 0) ∧ ty_w sp_ G w1 ∧ F_ G w1 ∧ ty_same G fz w w1 ∧ ck_res G (some (0, 0, 1)) v ∧ ck_wit 0 0 [.ref o, .int p] v := by
      intro y hy
      refine ⟨_, w, rfl, hw, hf, ty_same_rf w, ?_, trivial⟩
      rcases hy with rfl | rfl
      · exact ⟨rfl, by decide, by decide⟩
      · exact ⟨rfl, by decide, by decide⟩
    change ab_wp ro _ 5 false (some .boolean) ab_k_X5_isSign _ (0, [some (.ref o), some (.int p)], [], w, 0, 0)
    have no : ab_wp ro (ab_Ev ro ab_codes (d + 19)) 5 false (some .boolean) ab_k_X5_isSign (fun o_1 => ∃ v w1, o_1 = (v, w1, 0, 0) ∧ ty_w sp_ G w1 ∧ F_ G w1 ∧ ty_same G fz w w1 ∧ ck_res G (some (0, 0, 1)) v ∧ ck_wit 0 0 [.ref o, .int p] v) (25, [some (.ref o), some (.int p)], [], w, 0, 0) := by
      refine ax_go 1 rfl trivial ?_
      exact ax_ret rfl rfl ⟨Or.inl rfl, trivial⟩ (fin 0 (Or.inl rfl))
    refine ax_go 1 rfl trivial ?_
    refine ay_gf rfl rfl g2 a1 ?_
    refine ax_go 1 rfl trivial ?_
    refine ax_br rfl rfl (fun _ => no) (fun k1 => ?_)
    have k1 : ¬ (¬ x5 = 3) := k1
    have k2 : x5 = 3 := Classical.byContradiction k1
    have k3 : x3.toInt ≤ 399 := hf.1 o 5 fs x5 x3 g1 g2 a1 b1 (by rw [k2]; decide)
    refine ax_go 1 rfl trivial ?_
    refine ay_gf rfl rfl g2 c1 ?_
    refine ax_go 1 rfl trivial ?_
    refine ay_gf rfl rfl g2 b1 ?_
    have hin : vp_in x3 400 := by
      intro z
      have e : x3.toNatClampNeg = x3.toInt.toNat := rfl
      rcases z with z | z
      · rw [Int32.lt_iff_toInt_lt, show (0 : Int32).toInt = 0 from by decide] at z
        omega
      · omega
    refine ay_il rfl c4 hin ?_
    refine ax_go 1 rfl trivial ?_
    refine ax_br rfl rfl (fun _ => no) (fun _ => ?_)
    refine ax_go 2 rfl trivial ?_
    exact ax_ret rfl rfl ⟨Or.inr rfl, trivial⟩ (fin 1 (Or.inr rfl))
/-- a row of ints of any length -/
theorem ty_arow {S : ty_S} {c : va_E} (h : ty_c G S c) (e : S.1 = 4) : ∃ (n : Nat) (f : Nat → Int32), c = .inl (S.2.1, n, .inl f) ∧ n ≤ S.2.2.1 := by
  match c, h with
  | .inr (ci, fs), h => have := h.1; omega
  | .inl (t, n, .inl f), h =>
    rcases h with h | ⟨_, h1, h2⟩
    · have := h.1; omega
    · exact ⟨n, f, by rw [h1], h2⟩
  | .inl (t, n, .inr (.inl f)), h => have := h.1; omega
  | .inl (t, n, .inr (.inr (.inl f))), h => exact h.elim
  | .inl (t, n, .inr (.inr (.inr (.inl f)))), h => exact h.elim
  | .inl (t, n, .inr (.inr (.inr (.inr f)))), h => have := h.1; omega
theorem h_X7_partL (d : Nat) : ck_ct ro sp_ G F fz (ab_Ev ro ab_codes (d + 20)) 77 [(2, 10, 0), (0, (-2147483648), 2147483647), (0, (-2147483648), 2147483647)] (some (0, (-2147483648), 2147483647)) 0 0 := by
  refine ck_hand (d := d + 19) (by decide) (fun as w hw hf has => ?_)
  match as, has with
  | [v0, v1, v2], ⟨h0, h1, h2, _⟩ =>
    obtain ⟨o, c, rfl, g1, g2, g3⟩ := ck_cell h0 hw rfl rfl
    obtain ⟨ci, fs, rfl, g4, g5, g6⟩ := ty_obj g3 rfl
    have g4 : ci = 7 := g4
    subst g4
    obtain ⟨p, rfl, _⟩ := ty_int h1 rfl
    obtain ⟨u, rfl, _⟩ := ty_int h2 rfl
    obtain ⟨n1, c1, c2⟩ := g6 1 _ rfl
    obtain ⟨q, d0, rfl, c3, c4, c5⟩ := ck_cell c2 hw rfl rfl
    obtain ⟨n, f, rfl, c6⟩ := ty_arow c5 rfl
    have c6 : n ≤ 60 := c6
    have c4 : w[q]? = some (.inl (0, n, .inl f)) := c4
    refine ⟨rfl, ?_⟩
    have fin : ∀ (y : Int32), ∃ v w1, ((some (.int y), w, 0, 0) : ab_O) = (v, w1, 0, 0) ∧ ty_w sp_ G w1 ∧ F w1 ∧ ty_same G fz w w1 ∧ ck_res G (some (0, (-2147483648), 2147483647)) v ∧ ck_wit 0 0 [.ref o, .int p, .int u] v := fun y => ⟨_, w, rfl, hw, hf, ty_same_rf w, ck_top_ok (G := G) y, trivial⟩
    change ab_wp ro _ 7 false (some .int) ab_k_X7_part _ (0, [some (.ref o), some (.int p), some (.int u), none], [], w, 0, 0)
    refine ax_go 7 rfl trivial ?_
    change ab_wp ro _ 7 false (some .int) ab_k_X7_part _ (7, [some (.ref o), some (.int p), some (.int u), some (.int (p * 5 + u))], [.int (p * 5 + u)], w, 0, 0)
    generalize p * 5 + u = z
    have no : ab_wp ro (ab_Ev ro ab_codes (d + 19)) 7 false (some .int) ab_k_X7_part (fun o_1 => ∃ v w1, o_1 = (v, w1, 0, 0) ∧ ty_w sp_ G w1 ∧ F w1 ∧ ty_same G fz w w1 ∧ ck_res G (some (0, (-2147483648), 2147483647)) v ∧ ck_wit 0 0 [.ref o, .int p, .int u] v) (28, [some (.ref o), some (.int p), some (.int u), some (.int z)], [], w, 0, 0) := by
      refine ax_go 1 rfl trivial ?_
      exact ax_ret rfl rfl trivial (fin _)
    refine ax_br rfl rfl (fun _ => no) (fun k1 => ?_)
    have k1 : ¬ (z < 0) := k1
    rw [Int32.lt_iff_toInt_lt, show (0 : Int32).toInt = 0 from by decide] at k1
    refine ax_go 2 rfl trivial ?_
    refine ay_gf rfl rfl g2 c1 ?_
    refine ay_len rfl c4 rfl ?_
    refine ax_br rfl rfl (fun _ => no) (fun k2 => ?_)
    have k2 : ¬ (Int32.ofNat n ≤ z) := k2
    have en : (Int32.ofNat n).toInt = (n : Int) := Int32.toInt_ofNat_of_lt (by omega)
    rw [Int32.le_iff_toInt_le, en] at k2
    refine ax_go 1 rfl trivial ?_
    refine ay_gf rfl rfl g2 c1 ?_
    refine ax_go 1 rfl trivial ?_
    have hin : vp_in z n := by
      intro y
      have e : z.toNatClampNeg = z.toInt.toNat := rfl
      rcases y with y | y
      · rw [Int32.lt_iff_toInt_lt, show (0 : Int32).toInt = 0 from by decide] at y
        omega
      · omega
    refine ay_il rfl c4 hin ?_
    refine ax_go 1 rfl trivial ?_
    exact ax_ret rfl rfl trivial (fin _)
end Hand
