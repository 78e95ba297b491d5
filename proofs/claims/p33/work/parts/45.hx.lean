/-! rules for walks in a typed world, by hand and by program -/
section Ay
variable {ro : ab_R} {C : Nat → List Value → ab_W → ab_O → Prop} {own : Nat} {ini : Bool} {ret : Option FieldType} {code : ab_C} {Q : ab_O → Prop}
theorem ay_gf {pc a b t ix ci k o : Nat} {L : ab_L} {r fs : List Value} {w : ab_W} {v : Value} (hc : code pc = some (.getfield ix, t)) (hl : ab_lk (ab_fT own) ix = some (ci, k)) (hw : w[o]? = some (.inr (ci, fs))) (hv : fs[k]? = some v) (kk : ab_wp ro C own ini ret code Q (pc + 3, L, v :: r, w, a, b)) : ab_wp ro C own ini ret code Q (pc, L, .ref o :: r, w, a, b) :=
  ax_sw (x := (L, v :: r, w, a, b)) (pc + 3) hc (show ab_nx ro own ini (.getfield ix) t pc L (.ref o :: r) w a b = some ([], pc + 3, L, v :: r, w, a, b) by simp only [ab_nx, hl, hw, Nat.beq_refl, cond_true, hv]) rfl trivial kk
theorem ay_il {pc a b t o n : Nat} {L : ab_L} {r : List Value} {w : ab_W} {i : Int32} {f : Nat → Int32} (hc : code pc = some (.iaload, t)) (hw : w[o]? = some (.inl (0, n, .inl f))) (hi : vp_in i n) (kk : ab_wp ro C own ini ret code Q (pc + 1, L, .int (f i.toNatClampNeg) :: r, w, a, b)) : ab_wp ro C own ini ret code Q (pc, L, .int i :: .ref o :: r, w, a, b) :=
  ax_sw (x := (L, .int (f i.toNatClampNeg) :: r, w, a, b)) (pc + 1) hc (show ab_nx ro own ini .iaload t pc L (.int i :: .ref o :: r) w a b = some ([vp_in i n], pc + 1, L, .int (f i.toNatClampNeg) :: r, w, a, b) by simp only [ab_nx, hw]) rfl ⟨hi, trivial⟩ kk
theorem ay_len {pc a b t o k n : Nat} {L : ab_L} {r : List Value} {w : ab_W} {x : _} (hc : code pc = some (.arraylength, t)) (hw : w[o]? = some (.inl (k, n, x))) (hk : Nat.blt k 6 = true) (kk : ab_wp ro C own ini ret code Q (pc + 1, L, .int (Int32.ofNat n) :: r, w, a, b)) : ab_wp ro C own ini ret code Q (pc, L, .ref o :: r, w, a, b) :=
  ax_sw (x := (L, .int (Int32.ofNat n) :: r, w, a, b)) (pc + 1) hc (show ab_nx ro own ini .arraylength t pc L (.ref o :: r) w a b = some ([], pc + 1, L, .int (Int32.ofNat n) :: r, w, a, b) by simp only [ab_nx, hw, hk, cond_true]) rfl trivial kk
end Ay
section Ay2
variable {ro : ab_R} {C : Nat → List Value → ab_W → ab_O → Prop} {own : Nat} {ret : Option FieldType} {code : ab_C} {Q : ab_O → Prop}
theorem ay_pf {pc a b t ix ci k o : Nat} {L : ab_L} {r fs : List Value} {w : ab_W} {v : Value} {ps : List Prop} (hc : code pc = some (.putfield ix, t)) (hl : ab_lk (ab_fT own) ix = some (ci, k)) (hfin : ab_fin ci k = false) (hw : w[o]? = some (.inr (ci, fs))) (hk : k < fs.length) (hfit : ab_fit (ab_ty ci k) v = some ps) (hp : ab_all ps) (kk : ab_wp ro C own false ret code Q (pc + 3, L, r, w.set o (.inr (ci, fs.set k v)), a, b)) : ab_wp ro C own false ret code Q (pc, L, v :: .ref o :: r, w, a, b) := by
  have hlt : Nat.blt k fs.length = true := Nat.ble_eq_true_of_le hk
  exact ax_sw (x := (L, r, w.set o (.inr (ci, fs.set k v)), a, b)) (pc + 3) hc (show ab_nx ro own false (.putfield ix) t pc L (v :: .ref o :: r) w a b = some (ps, pc + 3, L, r, w.set o (.inr (ci, fs.set k v)), a, b) by simp only [ab_nx, hl, hw, Nat.beq_refl, hfin, Bool.not_false, Bool.true_or, hlt, Bool.and_self, cond_true, hfit]) rfl hp kk
theorem ay_is {pc a b t o n : Nat} {L : ab_L} {r : List Value} {w : ab_W} {i z : Int32} {f : Nat → Int32} {ini : Bool} (hc : code pc = some (.iastore, t)) (hw : w[o]? = some (.inl (0, n, .inl f))) (hi : vp_in i n) (kk : ab_wp ro C own ini ret code Q (pc + 1, L, r, w.set o (.inl (0, n, .inl (upd f i.toNatClampNeg z))), a, b)) : ab_wp ro C own ini ret code Q (pc, L, .int z :: .int i :: .ref o :: r, w, a, b) :=
  ax_sw (x := (L, r, w.set o (.inl (0, n, .inl (upd f i.toNatClampNeg z))), a, b)) (pc + 1) hc (show ab_nx ro own ini .iastore t pc L (.int z :: .int i :: .ref o :: r) w a b = some ([vp_in i n], pc + 1, L, r, w.set o (.inl (0, n, .inl (upd f i.toNatClampNeg z))), a, b) by simp only [ab_nx, hw]) rfl ⟨hi, trivial⟩ kk
end Ay2
section Hand0
variable {ro : ab_R} {sp : Nat → ty_S} {fz : List (Nat × Nat)} {G : Nat → Nat} {F : ab_W → Prop}
theorem ck_hand {d j : Nat} {ga : List ty_A} {rt : Option ty_A} {wa wf : Nat} (hj : j < 240) (h : ∀ (as : List Value) (w : ab_W), ty_w sp G w → F w → ck_tys G ga as → (ab_en (ab_nL j) as).length = ab_nL j ∧ ab_wp ro (ab_Ev ro ab_codes d) (ab_ow j) (ab_ini j) (ab_ret j) (ab_codes j) (fun o => ∃ v w1, o = (v, w1, 0, 0) ∧ ty_w sp G w1 ∧ F w1 ∧ ty_same G fz w w1 ∧ ck_res G rt v ∧ ck_wit wa wf as v) (0, ab_en (ab_nL j) as, [], w, 0, 0)) : ck_ct ro sp G F fz (ab_Ev ro ab_codes (d + 1)) j ga rt wa wf := by
  intro as w hw hf has
  obtain ⟨hlen, o, k, hX, v, w1, rfl, q1, q2, q3, q4, q5⟩ := h as w hw hf has
  refine ab_cl_id hw (ck_tys_mem has) ⟨hj, hlen, k, hX⟩ q1 q3.1 (fun x hx => ?_) ⟨rfl, rfl, q1, q2, q3, q4, q5⟩
  subst hx
  cases rt with
  | none => exact q4.elim
  | some t => exact ⟨t, q4⟩
theorem ty_arow {S : ty_S} {c : va_E} (h : ty_c G S c) (e : S.1 = 4) : ∃ (n : Nat) (f : Nat → Int32), c = .inl (S.2.1, n, .inl f) ∧ n ≤ S.2.2.1 := by
  match c, h with
  | .inr (ci, fs), h => have := h.1; omega
  | .inl (t, n, .inl f), h =>
    rcases h with h | ⟨_, h1, h2⟩
    · have := h.1; omega
    · exact ⟨n, f, by rw [h1], h2⟩
  | .inl (t, n, .inr (.inl f)), h => have := h.1; omega
  | .inl (t, n, .inr (.inr (.inl f))), h => exact h.elim
  | .inl (t, n, .inr (.inr (.inr (.inl f)))), h => exact h.elim
  | .inl (t, n, .inr (.inr (.inr (.inr f)))), h => have := h.1; omega
theorem ty_put {w : ab_W} {o ci k nn : Nat} {fs : List Value} {fl : List ty_F} {q : ty_F} {v : Value} (hw : ty_w sp G w) (h : w[o]? = some (.inr (ci, fs))) (hs : sp (G o) = (0, ci, nn, fl)) (hq : fl[k]? = some q) (hv : ty_v G (ty_fa q) v) : ty_w sp G (w.set o (.inr (ci, fs.set k v))) := by
  have hc := hw.1 o _ h
  rw [hs] at hc
  obtain ⟨_, _, h3, h4⟩ := hc
  refine ty_w_set hw ?_
  rw [hs]
  refine ⟨rfl, rfl, by rw [List.length_set]; exact h3, fun j q' hj => ?_⟩
  by_cases e : k = j
  · subst e
    have hj : fl[k]? = some q' := hj
    rw [hq] at hj
    cases hj
    have hlt : k < fs.length := by
      have := (List.getElem?_eq_some_iff.mp hq).1
      have h3 : fs.length = fl.length := h3
      omega
    exact ⟨v, by rw [List.getElem?_set, if_pos rfl, if_pos hlt], hv⟩
  · obtain ⟨v', k1, k2⟩ := h4 j q' hj
    exact ⟨v', by rw [List.getElem?_set, if_neg e]; exact k1, k2⟩
end Hand0
section Hx
variable {ro : ab_R} {C : Nat → List Value → ab_W → ab_O → Prop} {own : Nat} {ret : Option FieldType} {code : ab_C} {Q : ab_O → Prop} {pc l t : Nat} {L : ab_L} {r : List Value} {w : ab_W}
theorem hx_nx {i : Instr} {ps : List Prop} {st : List Value} {x : ab_L × List Value × ab_W × Nat × Nat} (hc : code pc = some (i, t)) (h : ab_nx ro own false i t pc L st w 0 0 = some (ps, l, x)) (hp : ab_all ps) (k : ab_wp ro C own false ret code Q (l, x)) : ab_wp ro C own false ret code Q (pc, L, st, w, 0, 0) := ax_sw l hc h rfl hp k
/-- a constant -/
theorem hx_k {i : Instr} {z0 : Int32} {m : Int} (hc : code pc = some (i, t)) (hn : ab_nx ro own false i t pc L r w 0 0 = some ([], l, L, .int z0 :: r, w, 0, 0)) (hz : z0.toInt = m) (k : ∀ z : Int32, z.toInt = m → ab_wp ro C own false ret code Q (l, L, .int z :: r, w, 0, 0)) : ab_wp ro C own false ret code Q (pc, L, r, w, 0, 0) := ax_sw l hc hn rfl trivial (k z0 hz)
theorem hx_lk {i : Instr} {z0 : Int64} {m : Int} (hc : code pc = some (i, t)) (hn : ab_nx ro own false i t pc L r w 0 0 = some ([], l, L, .long z0 :: r, w, 0, 0)) (hz : z0.toInt = m) (k : ∀ z : Int64, z.toInt = m → ab_wp ro C own false ret code Q (l, L, .long z :: r, w, 0, 0)) : ab_wp ro C own false ret code Q (pc, L, r, w, 0, 0) := ax_sw l hc hn rfl trivial (k z0 hz)
theorem hx_fz {z : Int} (h1 : -2147483648 ≤ z) (h2 : z ≤ 2147483647) : z.bmod (2 ^ 32) = z := ck_bmod h1 h2

theorem hx_add {x y : Int32} (hc : code pc = some (.iadd, t)) (hl : l = pc + 1) (k : ∀ z : Int32, (-2147483648 ≤ x.toInt + y.toInt → x.toInt + y.toInt ≤ 2147483647 → z.toInt = x.toInt + y.toInt) → ab_wp ro C own false ret code Q (l, L, .int z :: r, w, 0, 0)) : ab_wp ro C own false ret code Q (pc, L, .int y :: .int x :: r, w, 0, 0) := by
  subst hl
  exact ax_sw (x := (L, .int (x + y) :: r, w, 0, 0)) (pc + 1) hc rfl rfl trivial (k _ (fun h1 h2 => by rw [Int32.toInt_add, hx_fz h1 h2]))
theorem hx_sub {x y : Int32} (hc : code pc = some (.isub, t)) (hl : l = pc + 1) (k : ∀ z : Int32, (-2147483648 ≤ x.toInt - y.toInt → x.toInt - y.toInt ≤ 2147483647 → z.toInt = x.toInt - y.toInt) → ab_wp ro C own false ret code Q (l, L, .int z :: r, w, 0, 0)) : ab_wp ro C own false ret code Q (pc, L, .int y :: .int x :: r, w, 0, 0) := by
  subst hl
  exact ax_sw (x := (L, .int (x - y) :: r, w, 0, 0)) (pc + 1) hc rfl rfl trivial (k _ (fun h1 h2 => by rw [Int32.toInt_sub, hx_fz h1 h2]))
theorem hx_mul {x y : Int32} (hc : code pc = some (.imul, t)) (hl : l = pc + 1) (k : ∀ z : Int32, (-2147483648 ≤ x.toInt * y.toInt → x.toInt * y.toInt ≤ 2147483647 → z.toInt = x.toInt * y.toInt) → ab_wp ro C own false ret code Q (l, L, .int z :: r, w, 0, 0)) : ab_wp ro C own false ret code Q (pc, L, .int y :: .int x :: r, w, 0, 0) := by
  subst hl
  exact ax_sw (x := (L, .int (x * y) :: r, w, 0, 0)) (pc + 1) hc rfl rfl trivial (k _ (fun h1 h2 => by rw [Int32.toInt_mul, hx_fz h1 h2]))
theorem hx_iinc {x : Int32} {kk : Nat} {n : Int} (hc : code pc = some (.iinc kk n, t)) (hl : l = pc + 3) (hx : ab_ld L kk = some (.int x)) (hk : kk < L.length) (h1 : -2147483648 ≤ x.toInt + n) (h2 : x.toInt + n ≤ 2147483647) (hn : (Int32.ofInt n).toInt = n) (k : ∀ z : Int32, z.toInt = x.toInt + n → ab_wp ro C own false ret code Q (l, ab_st1 L kk (.int z), r, w, 0, 0)) : ab_wp ro C own false ret code Q (pc, L, r, w, 0, 0) := by
  subst hl
  refine ax_sw (ps := []) (x := (ab_st1 L kk (.int (x + Int32.ofInt n)), r, w, 0, 0)) (pc + 3) hc ?_ rfl trivial (k _ (by rw [Int32.toInt_add, hn, hx_fz h1 h2]))
  simp only [ab_nx, hx, if_pos hk]
theorem hx_iincT {x : Int32} {kk : Nat} {n : Int} (hc : code pc = some (.iinc kk n, t)) (hl : l = pc + 3) (hx : ab_ld L kk = some (.int x)) (hk : kk < L.length) (k : ∀ z : Int32, ab_wp ro C own false ret code Q (l, ab_st1 L kk (.int z), r, w, 0, 0)) : ab_wp ro C own false ret code Q (pc, L, r, w, 0, 0) := by
  subst hl
  refine ax_sw (ps := []) (x := (ab_st1 L kk (.int (x + Int32.ofInt n)), r, w, 0, 0)) (pc + 3) hc ?_ rfl trivial (k _)
  simp only [ab_nx, hx, if_pos hk]
/-- a step that leaves an int of which nothing is told -/
theorem hx_any {i : Instr} {z0 : Int32} {st : List Value} (hc : code pc = some (i, t)) (hn : ab_nx ro own false i t pc L st w 0 0 = some ([], l, L, .int z0 :: r, w, 0, 0)) (k : ∀ z : Int32, ab_wp ro C own false ret code Q (l, L, .int z :: r, w, 0, 0)) : ab_wp ro C own false ret code Q (pc, L, st, w, 0, 0) := ax_sw l hc hn rfl trivial (k z0)
theorem hx_anyl {i : Instr} {z0 : Int64} {st : List Value} (hc : code pc = some (i, t)) (hn : ab_nx ro own false i t pc L st w 0 0 = some ([], l, L, .long z0 :: r, w, 0, 0)) (k : ∀ z : Int64, ab_wp ro C own false ret code Q (l, L, .long z :: r, w, 0, 0)) : ab_wp ro C own false ret code Q (pc, L, st, w, 0, 0) := ax_sw l hc hn rfl trivial (k z0)
theorem hx_and {x y : Int32} {m : Int} (hc : code pc = some (.iand, t)) (hl : l = pc + 1) (hy : y.toInt = m) (hm : 0 ≤ m) (k : ∀ z : Int32, 0 ≤ z.toInt → z.toInt ≤ m → ab_wp ro C own false ret code Q (l, L, .int z :: r, w, 0, 0)) : ab_wp ro C own false ret code Q (pc, L, .int y :: .int x :: r, w, 0, 0) := by
  subst hl
  have h : ty_v (fun _ => 0) (ck_and ck_top (0, m, m)) (.int (x &&& y)) := ck_and_ok (ck_top_ok x) ⟨rfl, by show m ≤ _; omega, by show _ ≤ m; omega⟩
  unfold ck_and at h
  rw [if_pos ⟨rfl, hm⟩] at h
  exact ax_sw (x := (L, .int (x &&& y) :: r, w, 0, 0)) (pc + 1) hc rfl rfl trivial (k _ h.2.1 h.2.2)
theorem hx_min {ix : Nat} {x y : Int32} (hc : code pc = some (.invokestatic ix, t)) (hl : l = pc + 3) (hp : ab_lk (ab_pT own) ix = some 0) (hr : Nat.ble (ab_sum r) 8 = true) (k : ∀ z : Int32, (z.toInt = x.toInt ∧ x.toInt ≤ y.toInt) ∨ (z.toInt = y.toInt ∧ y.toInt < x.toInt) → ab_wp ro C own false ret code Q (l, L, .int z :: r, w, 0, 0)) : ab_wp ro C own false ret code Q (pc, L, .int y :: .int x :: r, w, 0, 0) := by
  subst hl
  refine ax_sw (ps := []) (x := (L, .int (if y < x then y else x) :: r, w, 0, 0)) (pc + 3) hc ?_ rfl trivial (k _ ?_)
  · simp only [ab_nx, hp, hr, cond_true]
  · split
    · rename_i h
      rw [Int32.lt_iff_toInt_lt] at h
      exact Or.inr ⟨rfl, h⟩
    · rename_i h
      rw [Int32.lt_iff_toInt_lt] at h
      exact Or.inl ⟨rfl, by omega⟩
theorem hx_max {ix : Nat} {x y : Int32} (hc : code pc = some (.invokestatic ix, t)) (hl : l = pc + 3) (hp : ab_lk (ab_pT own) ix = some 1) (hr : Nat.ble (ab_sum r) 8 = true) (k : ∀ z : Int32, (z.toInt = x.toInt ∧ y.toInt ≤ x.toInt) ∨ (z.toInt = y.toInt ∧ x.toInt < y.toInt) → ab_wp ro C own false ret code Q (l, L, .int z :: r, w, 0, 0)) : ab_wp ro C own false ret code Q (pc, L, .int y :: .int x :: r, w, 0, 0) := by
  subst hl
  refine ax_sw (ps := []) (x := (L, .int (if x < y then y else x) :: r, w, 0, 0)) (pc + 3) hc ?_ rfl trivial (k _ ?_)
  · simp only [ab_nx, hp, hr, cond_true]
  · split
    · rename_i h
      rw [Int32.lt_iff_toInt_lt] at h
      exact Or.inr ⟨rfl, h⟩
    · rename_i h
      rw [Int32.lt_iff_toInt_lt] at h
      exact Or.inl ⟨rfl, by omega⟩
theorem hx_0 : (0 : Int32).toInt = 0 := by decide
theorem hx_eq {x y : Int32} : x = y ↔ x.toInt = y.toInt := Int32.toInt_inj.symm
theorem hx_if_eq {x : Int32} {n : Int} (hc : code pc = some (.ifCond .eq n, t)) (hl : l = pc + 3) (k1 : x.toInt = 0 → ab_wp ro C own false ret code Q (t, L, r, w, 0, 0)) (k2 : ¬ (x.toInt = 0) → ab_wp ro C own false ret code Q (l, L, r, w, 0, 0)) : ab_wp ro C own false ret code Q (pc, L, .int x :: r, w, 0, 0) := by
  subst hl
  have e : (x = (0 : Int32)) ↔ (x.toInt = 0) := by rw [hx_eq, hx_0]
  exact ax_br (c := x = (0 : Int32)) hc rfl (fun h => k1 (e.mp h)) (fun h => k2 (fun z => h (e.mpr z)))
theorem hx_ic_eq {x y : Int32} {n : Int} (hc : code pc = some (.if_icmp .eq n, t)) (hl : l = pc + 3) (k1 : x.toInt = y.toInt → ab_wp ro C own false ret code Q (t, L, r, w, 0, 0)) (k2 : ¬ (x.toInt = y.toInt) → ab_wp ro C own false ret code Q (l, L, r, w, 0, 0)) : ab_wp ro C own false ret code Q (pc, L, .int y :: .int x :: r, w, 0, 0) := by
  subst hl
  have e : (x = y) ↔ (x.toInt = y.toInt) := by rw [hx_eq]
  exact ax_br (c := x = y) hc rfl (fun h => k1 (e.mp h)) (fun h => k2 (fun z => h (e.mpr z)))
theorem hx_if_ne {x : Int32} {n : Int} (hc : code pc = some (.ifCond .ne n, t)) (hl : l = pc + 3) (k1 : ¬ x.toInt = 0 → ab_wp ro C own false ret code Q (t, L, r, w, 0, 0)) (k2 : ¬ (¬ x.toInt = 0) → ab_wp ro C own false ret code Q (l, L, r, w, 0, 0)) : ab_wp ro C own false ret code Q (pc, L, .int x :: r, w, 0, 0) := by
  subst hl
  have e : (¬ x = (0 : Int32)) ↔ (¬ x.toInt = 0) := by rw [hx_eq, hx_0]
  exact ax_br (c := ¬ x = (0 : Int32)) hc rfl (fun h => k1 (e.mp h)) (fun h => k2 (fun z => h (e.mpr z)))
theorem hx_ic_ne {x y : Int32} {n : Int} (hc : code pc = some (.if_icmp .ne n, t)) (hl : l = pc + 3) (k1 : ¬ x.toInt = y.toInt → ab_wp ro C own false ret code Q (t, L, r, w, 0, 0)) (k2 : ¬ (¬ x.toInt = y.toInt) → ab_wp ro C own false ret code Q (l, L, r, w, 0, 0)) : ab_wp ro C own false ret code Q (pc, L, .int y :: .int x :: r, w, 0, 0) := by
  subst hl
  have e : (¬ x = y) ↔ (¬ x.toInt = y.toInt) := by rw [hx_eq]
  exact ax_br (c := ¬ x = y) hc rfl (fun h => k1 (e.mp h)) (fun h => k2 (fun z => h (e.mpr z)))
theorem hx_if_lt {x : Int32} {n : Int} (hc : code pc = some (.ifCond .lt n, t)) (hl : l = pc + 3) (k1 : x.toInt < 0 → ab_wp ro C own false ret code Q (t, L, r, w, 0, 0)) (k2 : ¬ (x.toInt < 0) → ab_wp ro C own false ret code Q (l, L, r, w, 0, 0)) : ab_wp ro C own false ret code Q (pc, L, .int x :: r, w, 0, 0) := by
  subst hl
  have e : (x < (0 : Int32)) ↔ (x.toInt < 0) := by rw [Int32.lt_iff_toInt_lt, hx_0]
  exact ax_br (c := x < (0 : Int32)) hc rfl (fun h => k1 (e.mp h)) (fun h => k2 (fun z => h (e.mpr z)))
theorem hx_ic_lt {x y : Int32} {n : Int} (hc : code pc = some (.if_icmp .lt n, t)) (hl : l = pc + 3) (k1 : x.toInt < y.toInt → ab_wp ro C own false ret code Q (t, L, r, w, 0, 0)) (k2 : ¬ (x.toInt < y.toInt) → ab_wp ro C own false ret code Q (l, L, r, w, 0, 0)) : ab_wp ro C own false ret code Q (pc, L, .int y :: .int x :: r, w, 0, 0) := by
  subst hl
  have e : (x < y) ↔ (x.toInt < y.toInt) := by rw [Int32.lt_iff_toInt_lt]
  exact ax_br (c := x < y) hc rfl (fun h => k1 (e.mp h)) (fun h => k2 (fun z => h (e.mpr z)))
theorem hx_if_ge {x : Int32} {n : Int} (hc : code pc = some (.ifCond .ge n, t)) (hl : l = pc + 3) (k1 : 0 ≤ x.toInt → ab_wp ro C own false ret code Q (t, L, r, w, 0, 0)) (k2 : ¬ (0 ≤ x.toInt) → ab_wp ro C own false ret code Q (l, L, r, w, 0, 0)) : ab_wp ro C own false ret code Q (pc, L, .int x :: r, w, 0, 0) := by
  subst hl
  have e : ((0 : Int32) ≤ x) ↔ (0 ≤ x.toInt) := by rw [Int32.le_iff_toInt_le, hx_0]
  exact ax_br (c := (0 : Int32) ≤ x) hc rfl (fun h => k1 (e.mp h)) (fun h => k2 (fun z => h (e.mpr z)))
theorem hx_ic_ge {x y : Int32} {n : Int} (hc : code pc = some (.if_icmp .ge n, t)) (hl : l = pc + 3) (k1 : y.toInt ≤ x.toInt → ab_wp ro C own false ret code Q (t, L, r, w, 0, 0)) (k2 : ¬ (y.toInt ≤ x.toInt) → ab_wp ro C own false ret code Q (l, L, r, w, 0, 0)) : ab_wp ro C own false ret code Q (pc, L, .int y :: .int x :: r, w, 0, 0) := by
  subst hl
  have e : (y ≤ x) ↔ (y.toInt ≤ x.toInt) := by rw [Int32.le_iff_toInt_le]
  exact ax_br (c := y ≤ x) hc rfl (fun h => k1 (e.mp h)) (fun h => k2 (fun z => h (e.mpr z)))
theorem hx_if_gt {x : Int32} {n : Int} (hc : code pc = some (.ifCond .gt n, t)) (hl : l = pc + 3) (k1 : 0 < x.toInt → ab_wp ro C own false ret code Q (t, L, r, w, 0, 0)) (k2 : ¬ (0 < x.toInt) → ab_wp ro C own false ret code Q (l, L, r, w, 0, 0)) : ab_wp ro C own false ret code Q (pc, L, .int x :: r, w, 0, 0) := by
  subst hl
  have e : ((0 : Int32) < x) ↔ (0 < x.toInt) := by rw [Int32.lt_iff_toInt_lt, hx_0]
  exact ax_br (c := (0 : Int32) < x) hc rfl (fun h => k1 (e.mp h)) (fun h => k2 (fun z => h (e.mpr z)))
theorem hx_ic_gt {x y : Int32} {n : Int} (hc : code pc = some (.if_icmp .gt n, t)) (hl : l = pc + 3) (k1 : y.toInt < x.toInt → ab_wp ro C own false ret code Q (t, L, r, w, 0, 0)) (k2 : ¬ (y.toInt < x.toInt) → ab_wp ro C own false ret code Q (l, L, r, w, 0, 0)) : ab_wp ro C own false ret code Q (pc, L, .int y :: .int x :: r, w, 0, 0) := by
  subst hl
  have e : (y < x) ↔ (y.toInt < x.toInt) := by rw [Int32.lt_iff_toInt_lt]
  exact ax_br (c := y < x) hc rfl (fun h => k1 (e.mp h)) (fun h => k2 (fun z => h (e.mpr z)))
theorem hx_if_le {x : Int32} {n : Int} (hc : code pc = some (.ifCond .le n, t)) (hl : l = pc + 3) (k1 : x.toInt ≤ 0 → ab_wp ro C own false ret code Q (t, L, r, w, 0, 0)) (k2 : ¬ (x.toInt ≤ 0) → ab_wp ro C own false ret code Q (l, L, r, w, 0, 0)) : ab_wp ro C own false ret code Q (pc, L, .int x :: r, w, 0, 0) := by
  subst hl
  have e : (x ≤ (0 : Int32)) ↔ (x.toInt ≤ 0) := by rw [Int32.le_iff_toInt_le, hx_0]
  exact ax_br (c := x ≤ (0 : Int32)) hc rfl (fun h => k1 (e.mp h)) (fun h => k2 (fun z => h (e.mpr z)))
theorem hx_ic_le {x y : Int32} {n : Int} (hc : code pc = some (.if_icmp .le n, t)) (hl : l = pc + 3) (k1 : x.toInt ≤ y.toInt → ab_wp ro C own false ret code Q (t, L, r, w, 0, 0)) (k2 : ¬ (x.toInt ≤ y.toInt) → ab_wp ro C own false ret code Q (l, L, r, w, 0, 0)) : ab_wp ro C own false ret code Q (pc, L, .int y :: .int x :: r, w, 0, 0) := by
  subst hl
  have e : (x ≤ y) ↔ (x.toInt ≤ y.toInt) := by rw [Int32.le_iff_toInt_le]
  exact ax_br (c := x ≤ y) hc rfl (fun h => k1 (e.mp h)) (fun h => k2 (fun z => h (e.mpr z)))
end Hx
section Hy
variable {ro : ab_R} {sp : Nat → ty_S} {C : Nat → List Value → ab_W → ab_O → Prop} {own : Nat} {ret : Option FieldType} {code : ab_C} {Q : ab_O → Prop} {pc l t : Nat} {L : ab_L} {r : List Value} {w : ab_W} {G : Nat → Nat} {F : ab_W → Prop} {fz fb : List (Nat × Nat)}
theorem hx_obj {s ci nn o : Nat} {fl : List ty_F} (hw : ty_w sp G w) (hG : G o = s) (hs : sp s = (0, ci, nn, fl)) (h0 : s ≠ 0) : ∃ fs : List Value, w[o]? = some (.inr (ci, fs)) ∧ fs.length = fl.length ∧ ∀ (k : Nat) (q : ty_F), fl[k]? = some q → ∃ v, fs[k]? = some v ∧ ty_v G (ty_fa q) v := by
  obtain ⟨c, h1, h2⟩ := ty_w_at hw (k := o) (by rw [hG]; exact h0)
  rw [hG, hs] at h2
  obtain ⟨cj, fs, rfl, h3, h4, h5⟩ := ty_obj h2 rfl
  have h3 : cj = ci := h3
  subst h3
  exact ⟨fs, h1, h4, h5⟩
theorem hx_oq {s ci cj nn o : Nat} {fl : List ty_F} {fs : List Value} (hw : ty_w sp G w) (g : w[o]? = some (.inr (cj, fs))) (hG : G o = s) (hs : sp s = (0, ci, nn, fl)) : ∀ (k : Nat) (q : ty_F), fl[k]? = some q → ∃ v, fs[k]? = some v ∧ ty_v G (ty_fa q) v := by
  have h := hw.1 o _ g
  rw [hG, hs] at h
  exact h.2.2.2
theorem hx_fi {k a b c : Nat} {lo hi : Int} {fl : List ty_F} {fs : List Value} (h : ∀ (k : Nat) (q : ty_F), fl[k]? = some q → ∃ v, fs[k]? = some v ∧ ty_v G (ty_fa q) v) (hq : fl[k]? = some (0, a, b, c, lo, hi)) : ∃ x : Int32, fs[k]? = some (.int x) ∧ lo ≤ x.toInt ∧ x.toInt ≤ hi := by
  obtain ⟨v, h1, h2⟩ := h k _ hq
  obtain ⟨x, rfl, h3, h4⟩ := ty_int h2 rfl
  exact ⟨x, h1, h3, h4⟩
theorem hx_fr {k a b c s : Nat} {fl : List ty_F} {fs : List Value} (h : ∀ (k : Nat) (q : ty_F), fl[k]? = some q → ∃ v, fs[k]? = some v ∧ ty_v G (ty_fa q) v) (hq : fl[k]? = some (2, a, b, c, (s : Int), 0)) : ∃ p : Nat, fs[k]? = some (.ref p) ∧ G p = s := by
  obtain ⟨v, h1, h2⟩ := h k _ hq
  obtain ⟨p, rfl, h3, h4⟩ := ty_refn h2 rfl rfl
  have h4 : G p = ((s : Int)).toNat := h4
  exact ⟨p, h1, by omega⟩
theorem hx_row {s kd n p : Nat} {sg : List ty_F} (hw : ty_w sp G w) (hG : G p = s) (hs : sp s = (1, kd, n, sg)) (h0 : s ≠ 0) : ∃ f : Nat → Int32, w[p]? = some (.inl (kd, n, .inl f)) ∧ ty_rw sg f := by
  obtain ⟨c, h1, h2⟩ := ty_w_at hw (k := p) (by rw [hG]; exact h0)
  rw [hG, hs] at h2
  obtain ⟨f, rfl, h3⟩ := ty_irow h2 rfl
  exact ⟨f, h1, h3⟩
theorem hx_rq {s kd n p ke m : Nat} {sg : List ty_F} {f : Nat → Int32} (hw : ty_w sp G w) (g : w[p]? = some (.inl (ke, m, .inl f))) (hG : G p = s) (hs : sp s = (1, kd, n, sg)) : ty_rw sg f := by
  have h := hw.1 p _ g
  rw [hG, hs] at h
  rcases h with h | h
  · exact h.2.2.2
  · have z : (1 : Nat) = 4 := h.1
    omega
theorem hx_rowA {s kd n p : Nat} {sg : List ty_F} (hw : ty_w sp G w) (hG : G p = s) (hs : sp s = (4, kd, n, sg)) (h0 : s ≠ 0) : ∃ (m : Nat) (f : Nat → Int32), w[p]? = some (.inl (kd, m, .inl f)) ∧ m ≤ n := by
  obtain ⟨c, h1, h2⟩ := ty_w_at hw (k := p) (by rw [hG]; exact h0)
  rw [hG, hs] at h2
  obtain ⟨m, f, rfl, h3⟩ := ty_arow h2 rfl
  exact ⟨m, f, h1, h3⟩
theorem hx_lrow {s k n p : Nat} {sg : List ty_F} (hw : ty_w sp G w) (hG : G p = s) (hs : sp s = (2, k, n, sg)) (h0 : s ≠ 0) : ∃ f : Nat → Int64, w[p]? = some (.inl (2, n, .inr (.inl f))) := by
  obtain ⟨c, h1, h2⟩ := ty_w_at hw (k := p) (by rw [hG]; exact h0)
  rw [hG, hs] at h2
  obtain ⟨f, rfl⟩ := ty_lrow h2 rfl
  exact ⟨f, h1⟩
theorem hx_gf {ix ci k o : Nat} {fs : List Value} {v : Value} (hc : code pc = some (.getfield ix, t)) (hl : l = pc + 3) (hk : ab_lk (ab_fT own) ix = some (ci, k)) (hw : w[o]? = some (.inr (ci, fs))) (hv : fs[k]? = some v) (kk : ab_wp ro C own false ret code Q (l, L, v :: r, w, 0, 0)) : ab_wp ro C own false ret code Q (pc, L, .ref o :: r, w, 0, 0) := by
  subst hl
  exact ay_gf hc hk hw hv kk
theorem hx_in {i : Int32} {n : Nat} (h1 : 0 ≤ i.toInt) (h2 : i.toInt < n) : vp_in i n := by
  intro y
  have e : i.toNatClampNeg = i.toInt.toNat := rfl
  rcases y with y | y
  · rw [Int32.lt_iff_toInt_lt, hx_0] at y
    omega
  · omega
theorem hx_il {o n : Nat} {i : Int32} {f : Nat → Int32} (hc : code pc = some (.iaload, t)) (hl : l = pc + 1) (hw : w[o]? = some (.inl (0, n, .inl f))) (h1 : 0 ≤ i.toInt) (h2 : i.toInt < n) (kk : ∀ z : Int32, z = f i.toInt.toNat → ab_wp ro C own false ret code Q (l, L, .int z :: r, w, 0, 0)) : ab_wp ro C own false ret code Q (pc, L, .int i :: .ref o :: r, w, 0, 0) := by
  subst hl
  exact ay_il hc hw (hx_in h1 h2) (kk _ rfl)
theorem hx_bl {o n kd : Nat} {i : Int32} {f : Nat → Int32} (hc : code pc = some (.baload, t)) (hl : l = pc + 1) (hw : w[o]? = some (.inl (kd, n, .inl f))) (hk : kd = 1 ∨ kd = 3) (h1 : 0 ≤ i.toInt) (h2 : i.toInt < n) (kk : ∀ z : Int32, z = f i.toInt.toNat → ab_wp ro C own false ret code Q (l, L, .int z :: r, w, 0, 0)) : ab_wp ro C own false ret code Q (pc, L, .int i :: .ref o :: r, w, 0, 0) := by
  subst hl
  rcases hk with rfl | rfl
  · exact ax_sw (x := (L, .int (f i.toNatClampNeg) :: r, w, 0, 0)) (pc + 1) hc (show ab_nx ro own false .baload t pc L (.int i :: .ref o :: r) w 0 0 = some ([vp_in i n], pc + 1, L, .int (f i.toNatClampNeg) :: r, w, 0, 0) by simp only [ab_nx, hw]) rfl ⟨hx_in h1 h2, trivial⟩ (kk _ rfl)
  · exact ax_sw (x := (L, .int (f i.toNatClampNeg) :: r, w, 0, 0)) (pc + 1) hc (show ab_nx ro own false .baload t pc L (.int i :: .ref o :: r) w 0 0 = some ([vp_in i n], pc + 1, L, .int (f i.toNatClampNeg) :: r, w, 0, 0) by simp only [ab_nx, hw]) rfl ⟨hx_in h1 h2, trivial⟩ (kk _ rfl)
theorem hx_ll {o n : Nat} {i : Int32} {f : Nat → Int64} (hc : code pc = some (.laload, t)) (hl : l = pc + 1) (hw : w[o]? = some (.inl (2, n, .inr (.inl f)))) (h1 : 0 ≤ i.toInt) (h2 : i.toInt < n) (kk : ∀ z : Int64, z = f i.toInt.toNat → ab_wp ro C own false ret code Q (l, L, .long z :: r, w, 0, 0)) : ab_wp ro C own false ret code Q (pc, L, .int i :: .ref o :: r, w, 0, 0) := by
  subst hl
  exact ax_sw (x := (L, .long (f i.toNatClampNeg) :: r, w, 0, 0)) (pc + 1) hc (show ab_nx ro own false .laload t pc L (.int i :: .ref o :: r) w 0 0 = some ([vp_in i n], pc + 1, L, .long (f i.toNatClampNeg) :: r, w, 0, 0) by simp only [ab_nx, hw]) rfl ⟨hx_in h1 h2, trivial⟩ (kk _ rfl)
theorem hx_len {o kd n : Nat} {x : _} (hc : code pc = some (.arraylength, t)) (hl : l = pc + 1) (hw : w[o]? = some (.inl (kd, n, x))) (hk : Nat.blt kd 6 = true) (hn : n < 2147483648) (kk : ∀ z : Int32, z.toInt = (n : Int) → ab_wp ro C own false ret code Q (l, L, .int z :: r, w, 0, 0)) : ab_wp ro C own false ret code Q (pc, L, .ref o :: r, w, 0, 0) := by
  subst hl
  exact ay_len hc hw hk (kk _ (Int32.toInt_ofNat_of_lt (by omega)))
theorem hx_ne {p o s s' : Nat} (h1 : G p = s) (h2 : G o = s') (h : s ≠ s') : p ≠ o := fun z => h (by rw [← h1, ← h2, z])
/-- a field is written -/
theorem hx_pf {ix s ci k o nn : Nat} {fl : List ty_F} {q : ty_F} {fs : List Value} {v : Value} {ps : List Prop} (hc : code pc = some (.putfield ix, t)) (hl : l = pc + 3) (hk : ab_lk (ab_fT own) ix = some (ci, k)) (hfin : ab_fin ci k = false) (hsp : sp s = (0, ci, nn, fl)) (hq : fl[k]? = some q) (hfit : ab_fit (ab_ty ci k) v = some ps) (hw : ty_w sp G w) (hG : G o = s) (g : w[o]? = some (.inr (ci, fs))) (hp : ab_all ps) (hv : ty_v G (ty_fa q) v)
    (kk : ∀ (w2 : ab_W) (fs2 : List Value), w2[o]? = some (.inr (ci, fs2)) → fs2[k]? = some v → (∀ j, j ≠ k → fs2[j]? = fs[j]?) → (∀ j, j ≠ o → w2[j]? = w[j]?) → ty_w sp G w2 → (∀ fb, ck_ok fb (s : Int) k = true → ty_same G fb w w2) → ab_wp ro C own false ret code Q (l, L, r, w2, 0, 0)) : ab_wp ro C own false ret code Q (pc, L, v :: .ref o :: r, w, 0, 0) := by
  subst hl
  have hsp' : sp (G o) = (0, ci, nn, fl) := by rw [hG]; exact hsp
  have hlen : fs.length = fl.length := by
    have h := hw.1 o _ g
    rw [hsp'] at h
    exact h.2.2.1
  have hlt : k < fs.length := by
    have := (List.getElem?_eq_some_iff.mp hq).1
    omega
  refine ay_pf hc hk hfin g hlt hfit hp (kk _ (fs.set k v) ?_ ?_ ?_ ?_ (ty_put hw g hsp' hq hv) (fun fb h => ck_same_put g h (by rw [hG])))
  · rw [List.getElem?_set, if_pos rfl, if_pos (List.getElem?_eq_some_iff.mp g).1]
  · rw [List.getElem?_set, if_pos rfl, if_pos hlt]
  · intro j hj
    rw [List.getElem?_set, if_neg (fun z => hj z.symm)]
  · intro j hj
    rw [List.getElem?_set, if_neg (fun z => hj z.symm)]
def hx_sg (i : Nat) (v : Int) : List ty_F → Prop
  | [] => True
  | q :: t => (q.1 ≤ i → i < q.2.1 → i % q.2.2.1 = q.2.2.2.1 → q.2.2.2.2.1 ≤ v ∧ v ≤ q.2.2.2.2.2) ∧ hx_sg i v t
theorem hx_sg0 {i : Nat} {v : Int} : hx_sg i v [] := trivial
theorem hx_sg1 {i : Nat} {v : Int} {a b m c : Nat} {lo hi : Int} {sg : List ty_F} (h : a ≤ i → i < b → i % m = c → lo ≤ v ∧ v ≤ hi) (h2 : hx_sg i v sg) : hx_sg i v ((a, b, m, c, lo, hi) :: sg) := ⟨h, h2⟩
theorem hx_sg_up {f : Nat → Int32} {i : Nat} {v : Int32} : ∀ {sg : List ty_F}, ty_rw sg f → hx_sg i v.toInt sg → ty_rw sg (upd f i v)
  | [], _, _ => fun q hq => by cases hq
  | p :: sg, h, h2 => by
    have ih := hx_sg_up (sg := sg) (fun q hq => h q (List.mem_cons_of_mem _ hq)) h2.2
    intro q hq j h3 h4 h5
    rcases List.mem_cons.mp hq with e | e
    · subst e
      unfold upd
      by_cases z : j = i
      · rw [if_pos z]
        subst z
        exact h2.1 h3 h4 h5
      · rw [if_neg z]
        exact h q List.mem_cons_self j h3 h4 h5
    · exact ih q e j h3 h4 h5
/-- a row of ints is written -/
theorem hx_is {s o n : Nat} {i v : Int32} {f : Nat → Int32} {sg : List ty_F} (hc : code pc = some (.iastore, t)) (hl : l = pc + 1) (hsp : sp s = (1, 0, n, sg)) (hw : ty_w sp G w) (hG : G o = s) (g : w[o]? = some (.inl (0, n, .inl f))) (h1 : 0 ≤ i.toInt) (h2 : i.toInt < n) (hsg : hx_sg i.toInt.toNat v.toInt sg)
    (kk : ∀ (w2 : ab_W) (f2 : Nat → Int32), w2[o]? = some (.inl (0, n, .inl f2)) → f2 i.toInt.toNat = v → (∀ j, j ≠ i.toInt.toNat → f2 j = f j) → (∀ j, j ≠ o → w2[j]? = w[j]?) → ty_w sp G w2 → (∀ fb, ck_ok fb (s : Int) 999 = true → ty_same G fb w w2) → ab_wp ro C own false ret code Q (l, L, r, w2, 0, 0)) : ab_wp ro C own false ret code Q (pc, L, .int v :: .int i :: .ref o :: r, w, 0, 0) := by
  subst hl
  have hrw : ty_rw sg f := hx_rq hw g hG hsp
  refine ay_is hc g (hx_in h1 h2) (kk _ (upd f i.toNatClampNeg v) ?_ ?_ ?_ ?_ (ty_w_set hw ?_) (fun fb h => ck_same_row g h (by rw [hG])))
  · rw [List.getElem?_set, if_pos rfl, if_pos (List.getElem?_eq_some_iff.mp g).1]
  · show upd f i.toInt.toNat v i.toInt.toNat = v
    unfold upd
    rw [if_pos rfl]
  · intro j hj
    show upd f i.toInt.toNat v j = f j
    unfold upd
    rw [if_neg hj]
  · intro j hj
    rw [List.getElem?_set, if_neg (fun z => hj z.symm)]
  · rw [hG, hsp]
    exact Or.inl ⟨rfl, rfl, rfl, hx_sg_up hrw hsg⟩
theorem hx_bs {s o n kd : Nat} {i v : Int32} {f : Nat → Int32} (hc : code pc = some (.bastore, t)) (hl : l = pc + 1) (hkd : kd = 1 ∨ kd = 3) (hsp : sp s = (1, kd, n, [])) (hw : ty_w sp G w) (hG : G o = s) (g : w[o]? = some (.inl (kd, n, .inl f))) (h1 : 0 ≤ i.toInt) (h2 : i.toInt < n)
    (kk : ∀ (w2 : ab_W) (f2 : Nat → Int32), w2[o]? = some (.inl (kd, n, .inl f2)) → f2 i.toInt.toNat = vp_nar (if kd = 1 then .byte else .boolean) v → (∀ j, j ≠ i.toInt.toNat → f2 j = f j) → (∀ j, j ≠ o → w2[j]? = w[j]?) → ty_w sp G w2 → (∀ fb, ck_ok fb (s : Int) 999 = true → ty_same G fb w w2) → ab_wp ro C own false ret code Q (l, L, r, w2, 0, 0)) : ab_wp ro C own false ret code Q (pc, L, .int v :: .int i :: .ref o :: r, w, 0, 0) := by
  subst hl
  have key : ∀ u : Int32, u = vp_nar (if kd = 1 then .byte else .boolean) v → ab_nx ro own false .bastore t pc L (.int v :: .int i :: .ref o :: r) w 0 0 = some ([vp_in i n], pc + 1, L, r, w.set o (.inl (kd, n, .inl (upd f i.toNatClampNeg u))), 0, 0) → ab_wp ro C own false ret code Q (pc, L, .int v :: .int i :: .ref o :: r, w, 0, 0) := by
    intro u hu hn
    refine ax_sw (x := (L, r, w.set o (.inl (kd, n, .inl (upd f i.toNatClampNeg u))), 0, 0)) (pc + 1) hc hn rfl ⟨hx_in h1 h2, trivial⟩ (kk _ (upd f i.toNatClampNeg u) ?_ ?_ ?_ ?_ (ty_w_set hw ?_) (fun fb h => ck_same_row g h (by rw [hG])))
    · rw [List.getElem?_set, if_pos rfl, if_pos (List.getElem?_eq_some_iff.mp g).1]
    · rw [← hu]
      show upd f i.toInt.toNat u i.toInt.toNat = u
      unfold upd
      rw [if_pos rfl]
    · intro j hj
      show upd f i.toInt.toNat u j = f j
      unfold upd
      rw [if_neg hj]
    · intro j hj
      rw [List.getElem?_set, if_neg (fun z => hj z.symm)]
    · rw [hG, hsp]
      exact Or.inl ⟨rfl, rfl, rfl, fun q hq => by cases hq⟩
  rcases hkd with rfl | rfl
  · exact key _ rfl (by simp only [ab_nx, g]; rfl)
  · exact key _ rfl (by simp only [ab_nx, g]; rfl)
theorem hx_ls {s o n k : Nat} {i : Int32} {v : Int64} {f : Nat → Int64} {sg : List ty_F} (hc : code pc = some (.lastore, t)) (hl : l = pc + 1) (hsp : sp s = (2, k, n, sg)) (hw : ty_w sp G w) (hG : G o = s) (g : w[o]? = some (.inl (2, n, .inr (.inl f)))) (h1 : 0 ≤ i.toInt) (h2 : i.toInt < n)
    (kk : ∀ (w2 : ab_W) (f2 : Nat → Int64), w2[o]? = some (.inl (2, n, .inr (.inl f2))) → (∀ j, j ≠ o → w2[j]? = w[j]?) → ty_w sp G w2 → (∀ fb, ck_ok fb (s : Int) 999 = true → ty_same G fb w w2) → ab_wp ro C own false ret code Q (l, L, r, w2, 0, 0)) : ab_wp ro C own false ret code Q (pc, L, .long v :: .int i :: .ref o :: r, w, 0, 0) := by
  subst hl
  refine ax_sw (ps := [vp_in i n]) (x := (L, r, w.set o (.inl (2, n, .inr (.inl (vp_updL f i.toNatClampNeg v)))), 0, 0)) (pc + 1) hc (by simp only [ab_nx, g]) rfl ⟨hx_in h1 h2, trivial⟩ (kk _ (vp_updL f i.toNatClampNeg v) ?_ ?_ (ty_w_set hw ?_) (fun fb h => ck_same_row g h (by rw [hG])))
  · rw [List.getElem?_set, if_pos rfl, if_pos (List.getElem?_eq_some_iff.mp g).1]
  · intro j hj
    rw [List.getElem?_set, if_neg (fun z => hj z.symm)]
  · rw [hG, hsp]
    exact ⟨rfl, rfl, rfl⟩
/-- rows are copied -/
theorem hx_cpy {ix s o o' n n' : Nat} {k b a : Int32} {f f' : Nat → Int32} {sg : List ty_F} (hc : code pc = some (.invokestatic ix, t)) (hl : l = pc + 3) (hp : ab_lk (ab_pT own) ix = some 3) (hr : Nat.ble (ab_sum r) 8 = true) (hsp : sp s = (1, 0, n', sg)) (hw : ty_w sp G w) (hG : G o' = s) (g : w[o]? = some (.inl (0, n, .inl f))) (g' : w[o']? = some (.inl (0, n', .inl f'))) (h1 : 0 ≤ a.toInt) (h2 : 0 ≤ b.toInt) (h3 : 0 ≤ k.toInt) (h4 : a.toInt + k.toInt ≤ n) (h5 : b.toInt + k.toInt ≤ n') (hsg : ty_rw sg (va_cpy f f' a.toInt.toNat b.toInt.toNat k.toInt.toNat))
    (kk : ∀ (w2 : ab_W) (f2 : Nat → Int32), w2[o']? = some (.inl (0, n', .inl f2)) → f2 = va_cpy f f' a.toInt.toNat b.toInt.toNat k.toInt.toNat → (∀ j, j ≠ o' → w2[j]? = w[j]?) → ty_w sp G w2 → (∀ fb, ck_ok fb (s : Int) 999 = true → ty_same G fb w w2) → ab_wp ro C own false ret code Q (l, L, r, w2, 0, 0)) : ab_wp ro C own false ret code Q (pc, L, .int k :: .int b :: .ref o' :: .int a :: .ref o :: r, w, 0, 0) := by
  subst hl
  have nn : ∀ x : Int32, 0 ≤ x.toInt → ¬ x < 0 := fun x hx z => by
    rw [Int32.lt_iff_toInt_lt, hx_0] at z
    omega
  have ea : a.toNatClampNeg = a.toInt.toNat := rfl
  have eb : b.toNatClampNeg = b.toInt.toNat := rfl
  have ek : k.toNatClampNeg = k.toInt.toNat := rfl
  refine ax_sw (ps := [¬ a < 0, ¬ b < 0, ¬ k < 0, a.toNatClampNeg + k.toNatClampNeg ≤ n, b.toNatClampNeg + k.toNatClampNeg ≤ n']) (x := (L, r, w.set o' (.inl (0, n', .inl (va_cpy f f' a.toNatClampNeg b.toNatClampNeg k.toNatClampNeg))), 0, 0)) (pc + 3) hc (by simp only [ab_nx, hp, g, g', hr, cond_true]) rfl ⟨nn _ h1, nn _ h2, nn _ h3, by omega, by omega, trivial⟩ (kk _ _ ?_ rfl ?_ (ty_w_set hw ?_) (fun fb h => ck_same_row g' h (by rw [hG])))
  · rw [List.getElem?_set, if_pos rfl, if_pos (List.getElem?_eq_some_iff.mp g').1]
    rfl
  · intro j hj
    rw [List.getElem?_set, if_neg (fun z => hj z.symm)]
  · rw [hG, hsp]
    exact Or.inl ⟨rfl, rfl, rfl, hsg⟩
/-- a call -/
theorem hx_cl {i : Instr} {j : Nat} {as st : List Value} {ga : List ty_A} {gr : Option ty_A} {wa wf : Nat} (hc : code pc = some (i, t)) (hl : l = pc + 3) (hca : ab_ca own i st w = some (j, as, r)) (hct : ck_ct ro sp G F fz C j ga gr wa wf) (hw : ty_w sp G w) (hf : F w) (has : ck_tys G ga as) (kk : ∀ (v : Option Value) (w2 : ab_W), ty_w sp G w2 → F w2 → ty_same G fz w w2 → ck_res G gr v → ck_wit wa wf as v → ab_wp ro C own false ret code Q (l, L, v.toList ++ r, w2, 0, 0)) : ab_wp ro C own false ret code Q (pc, L, st, w, 0, 0) := by
  subst hl
  refine ax_cl hc hca (hct as w hw hf has) (fun v w1 mc ms hq => ?_)
  obtain ⟨rfl, rfl, q1, q2, q3, q4, q5⟩ := hq
  exact kk v w1 q1 q2 q3 q4 q5
theorem hx_c0 {i : Instr} {j : Nat} {as st : List Value} {ga : List ty_A} {wa wf : Nat} (hc : code pc = some (i, t)) (hl : l = pc + 3) (hca : ab_ca own i st w = some (j, as, r)) (hct : ck_ct ro sp G F fz C j ga none wa wf) (hw : ty_w sp G w) (hf : F w) (has : ck_tys G ga as) (kk : ∀ (w2 : ab_W), ty_w sp G w2 → F w2 → ty_same G fz w w2 → ab_wp ro C own false ret code Q (l, L, r, w2, 0, 0)) : ab_wp ro C own false ret code Q (pc, L, st, w, 0, 0) := by
  refine hx_cl hc hl hca hct hw hf has (fun v w2 q1 q2 q3 q4 _ => ?_)
  cases v with
  | none => exact kk w2 q1 q2 q3
  | some x => exact q4.elim
theorem hx_ci {i : Instr} {j : Nat} {as st : List Value} {ga : List ty_A} {lo hi : Int} {wa wf : Nat} (hc : code pc = some (i, t)) (hl : l = pc + 3) (hca : ab_ca own i st w = some (j, as, r)) (hct : ck_ct ro sp G F fz C j ga (some (0, lo, hi)) wa wf) (hw : ty_w sp G w) (hf : F w) (has : ck_tys G ga as) (kk : ∀ (w2 : ab_W) (z : Int32), ty_w sp G w2 → F w2 → ty_same G fz w w2 → lo ≤ z.toInt → z.toInt ≤ hi → ck_wit wa wf as (some (.int z)) → ab_wp ro C own false ret code Q (l, L, .int z :: r, w2, 0, 0)) : ab_wp ro C own false ret code Q (pc, L, st, w, 0, 0) := by
  refine hx_cl hc hl hca hct hw hf has (fun v w2 q1 q2 q3 q4 q5 => ?_)
  cases v with
  | none => exact q4.elim
  | some x =>
    obtain ⟨z, rfl, h1, h2⟩ := ty_int q4 rfl
    exact kk w2 z q1 q2 q3 h1 h2 q5
theorem hx_cj {i : Instr} {j : Nat} {as st : List Value} {ga : List ty_A} {lo hi : Int} {wa wf : Nat} (hc : code pc = some (i, t)) (hl : l = pc + 3) (hca : ab_ca own i st w = some (j, as, r)) (hct : ck_ct ro sp G F fz C j ga (some (1, lo, hi)) wa wf) (hw : ty_w sp G w) (hf : F w) (has : ck_tys G ga as) (kk : ∀ (w2 : ab_W) (z : Int64), ty_w sp G w2 → F w2 → ty_same G fz w w2 → ab_wp ro C own false ret code Q (l, L, .long z :: r, w2, 0, 0)) : ab_wp ro C own false ret code Q (pc, L, st, w, 0, 0) := by
  refine hx_cl hc hl hca hct hw hf has (fun v w2 q1 q2 q3 q4 q5 => ?_)
  cases v with
  | none => exact q4.elim
  | some x =>
    obtain ⟨z, rfl, h1, h2⟩ := ty_long q4 rfl
    exact kk w2 z q1 q2 q3
theorem hx_iv {ix j n o ci : Nat} {st : List Value} {fs : List Value} (h1 : ab_lk (ab_mT own) ix = some (j, n, 0)) (h2 : st.drop n = .ref o :: r) (g : w[o]? = some (.inr (ci, fs))) (h3 : (Nat.beq (st.take n).length n && Nat.ble (ab_sum r) 8 && Nat.beq ci (ab_ow j)) = true) : ab_ca own (.invokevirtual ix) st w = some (j, .ref o :: (st.take n).reverse, r) := by
  simp only [ab_ca, h1, h2, g, h3, cond_true]
theorem hx_ti {lo hi : Int} {x : Int32} (h1 : lo ≤ x.toInt) (h2 : x.toInt ≤ hi) : ty_v G (0, lo, hi) (.int x) := ⟨rfl, h1, h2⟩
theorem hx_tr {s o : Nat} {b : Int} (h : G o = s) (h0 : s ≠ 0) : ty_v G (2, (s : Int), b) (.ref o) := Or.inl ⟨rfl, by rw [h]; exact h0, by rw [h]⟩
theorem hx_tn {s : Int} : ty_v G (2, s, 1) .null := ⟨rfl, rfl⟩
theorem hx_wit {a wf : Nat} {as : List Value} {z x : Int32} (h : ck_wit (a + 1) wf as (some (.int z))) (hx : as[a]? = some (.int x)) (hz : z.toInt ≠ 0) : (ck_w wf).1 ≤ x.toInt ∧ x.toInt ≤ (ck_w wf).2 := by
  obtain ⟨y, h1, h2⟩ := h z rfl hz
  rw [hx] at h1
  cases h1
  exact h2
theorem hx_01 {x : Int32} (h1 : 0 ≤ x.toInt) (h2 : x.toInt ≤ 1) : x = 0 ∨ x = 1 := by
  rw [hx_eq, hx_eq, hx_0, show (1 : Int32).toInt = 1 from by decide]
  omega
theorem hx_ok {s : Int} {f : Nat} (h : ∀ q ∈ fz, q ∈ fb) (hb : ck_ok fb s f = true) : ck_ok fz s f = true := by
  unfold ck_ok at hb ⊢
  rw [Bool.not_eq_true', List.any_eq_false] at hb ⊢
  exact fun q hq => hb q (h q hq)
/-- a field that stays -/
theorem hx_kf {o ci cj k : Nat} {fs fs2 : List Value} {w2 : ab_W} (h : ty_same G fz w w2) (hm : (G o, k) ∈ fz) (g : w[o]? = some (.inr (ci, fs))) (g2 : w2[o]? = some (.inr (cj, fs2))) : fs2[k]? = fs[k]? := by
  have e := (h.2 o k hm).2
  rw [g, g2] at e
  exact e
/-- a row that stays -/
theorem hx_kr {o : Nat} {w2 : ab_W} (h : ty_same G fz w w2) (hm : (G o, 999) ∈ fz) : w2[o]? = w[o]? := (h.2 o 999 hm).1 rfl
theorem hx_app {A : List (Nat × Nat)} (h1 : ∀ q ∈ A, q ∈ fb) (h2 : ∀ q ∈ fz, q ∈ fb) : ∀ q ∈ A ++ fz, q ∈ fb := fun q hq => (List.mem_append.mp hq).elim (h1 q) (h2 q)
theorem hx_sapp {A : List (Nat × Nat)} {w2 : ab_W} (h : ty_same G (A ++ fz) w w2) : ty_same G fz w w2 := ty_same_sub h (fun q hq => List.mem_append_right _ hq)
theorem hx_mem {A : List (Nat × Nat)} {o s k : Nat} (hG : G o = s) (h : (s, k) ∈ A) : (G o, k) ∈ A ++ fz := List.mem_append_left _ (by rw [hG]; exact h)
/-- an object's field -/
def hx_has (w : ab_W) (o ci k : Nat) (v : Value) : Prop := ∃ fs : List Value, w[o]? = some (.inr (ci, fs)) ∧ fs[k]? = some v
/-- a contract with what it asks for and what it tells -/
def hx_ct (ro : ab_R) (sp : Nat → ty_S) (G : Nat → Nat) (F : ab_W → Prop) (fz : List (Nat × Nat)) (C : Nat → List Value → ab_W → ab_O → Prop) (j : Nat) (ga : List ty_A) (gr : Option ty_A) (P : List Value → ab_W → Prop) (R : List Value → ab_W → Option Value → ab_W → Prop) : Prop := ∀ (as : List Value) (w : ab_W), ty_w sp G w → F w → ck_tys G ga as → P as w → ab_cl C j as w (fun v w1 mc ms => mc = 0 ∧ ms = 0 ∧ ty_w sp G w1 ∧ F w1 ∧ ty_same G fz w w1 ∧ ck_res G gr v ∧ R as w v w1)
theorem hx_hand {d j : Nat} {ga : List ty_A} {rt : Option ty_A} {P : List Value → ab_W → Prop} {R : List Value → ab_W → Option Value → ab_W → Prop} (hj : j < 240) (h : ∀ (as : List Value) (w : ab_W), ty_w sp G w → F w → ck_tys G ga as → P as w → (ab_en (ab_nL j) as).length = ab_nL j ∧ ab_wp ro (ab_Ev ro ab_codes d) (ab_ow j) (ab_ini j) (ab_ret j) (ab_codes j) (fun o => ∃ v w1, o = (v, w1, 0, 0) ∧ ty_w sp G w1 ∧ F w1 ∧ ty_same G fz w w1 ∧ ck_res G rt v ∧ R as w v w1) (0, ab_en (ab_nL j) as, [], w, 0, 0)) : hx_ct ro sp G F fz (ab_Ev ro ab_codes (d + 1)) j ga rt P R := by
  intro as w hw hf has hP
  obtain ⟨hlen, o, k, hX, v, w1, rfl, q1, q2, q3, q4, q5⟩ := h as w hw hf has hP
  refine ab_cl_id hw (ck_tys_mem has) ⟨hj, hlen, k, hX⟩ q1 q3.1 (fun x hx => ?_) ⟨rfl, rfl, q1, q2, q3, q4, q5⟩
  subst hx
  cases rt with
  | none => exact q4.elim
  | some t => exact ⟨t, q4⟩
theorem hx_ofck {d j : Nat} {ga : List ty_A} {rt : Option ty_A} {wa wf : Nat} (h : ck_ct ro sp G F fz (ab_Ev ro ab_codes d) j ga rt wa wf) : hx_ct ro sp G F fz (ab_Ev ro ab_codes d) j ga rt (fun _ _ => True) (fun as _ v _ => ck_wit wa wf as v) := fun as w hw hf has _ => h as w hw hf has
theorem hx_tock {C : Nat → List Value → ab_W → ab_O → Prop} {j : Nat} {ga : List ty_A} {rt : Option ty_A} {P : List Value → ab_W → Prop} (h : hx_ct ro sp G F fz C j ga rt P (fun _ _ _ _ => True)) (hP : ∀ as w, P as w) : ck_ct ro sp G F fz C j ga rt 0 0 := by
  intro as w hw hf has
  exact h as w hw hf has (hP as w)
theorem hx_clp {i : Instr} {j : Nat} {as st : List Value} {ga : List ty_A} {gr : Option ty_A} {P : List Value → ab_W → Prop} {R : List Value → ab_W → Option Value → ab_W → Prop} (hc : code pc = some (i, t)) (hl : l = pc + 3) (hca : ab_ca own i st w = some (j, as, r)) (hct : hx_ct ro sp G F fz C j ga gr P R) (hw : ty_w sp G w) (hf : F w) (has : ck_tys G ga as) (hP : P as w) (kk : ∀ (v : Option Value) (w2 : ab_W), ty_w sp G w2 → F w2 → ty_same G fz w w2 → ck_res G gr v → R as w v w2 → ab_wp ro C own false ret code Q (l, L, v.toList ++ r, w2, 0, 0)) : ab_wp ro C own false ret code Q (pc, L, st, w, 0, 0) := by
  subst hl
  refine ax_cl hc hca (hct as w hw hf has hP) (fun v w1 mc ms hq => ?_)
  obtain ⟨rfl, rfl, q1, q2, q3, q4, q5⟩ := hq
  exact kk v w1 q1 q2 q3 q4 q5
theorem hx_p0 {i : Instr} {j : Nat} {as st : List Value} {ga : List ty_A} {P : List Value → ab_W → Prop} {R : List Value → ab_W → Option Value → ab_W → Prop} (hc : code pc = some (i, t)) (hl : l = pc + 3) (hca : ab_ca own i st w = some (j, as, r)) (hct : hx_ct ro sp G F fz C j ga none P R) (hw : ty_w sp G w) (hf : F w) (has : ck_tys G ga as) (hP : P as w) (kk : ∀ (w2 : ab_W), ty_w sp G w2 → F w2 → ty_same G fz w w2 → R as w none w2 → ab_wp ro C own false ret code Q (l, L, r, w2, 0, 0)) : ab_wp ro C own false ret code Q (pc, L, st, w, 0, 0) := by
  refine hx_clp hc hl hca hct hw hf has hP (fun v w2 q1 q2 q3 q4 q5 => ?_)
  cases v with
  | none => exact kk w2 q1 q2 q3 q5
  | some x => exact q4.elim
theorem hx_pi {i : Instr} {j : Nat} {as st : List Value} {ga : List ty_A} {lo hi : Int} {P : List Value → ab_W → Prop} {R : List Value → ab_W → Option Value → ab_W → Prop} (hc : code pc = some (i, t)) (hl : l = pc + 3) (hca : ab_ca own i st w = some (j, as, r)) (hct : hx_ct ro sp G F fz C j ga (some (0, lo, hi)) P R) (hw : ty_w sp G w) (hf : F w) (has : ck_tys G ga as) (hP : P as w) (kk : ∀ (w2 : ab_W) (z : Int32), ty_w sp G w2 → F w2 → ty_same G fz w w2 → lo ≤ z.toInt → z.toInt ≤ hi → R as w (some (.int z)) w2 → ab_wp ro C own false ret code Q (l, L, .int z :: r, w2, 0, 0)) : ab_wp ro C own false ret code Q (pc, L, st, w, 0, 0) := by
  refine hx_clp hc hl hca hct hw hf has hP (fun v w2 q1 q2 q3 q4 q5 => ?_)
  cases v with
  | none => exact q4.elim
  | some x =>
    obtain ⟨z, rfl, h1, h2⟩ := ty_int q4 rfl
    exact kk w2 z q1 q2 q3 h1 h2 q5
theorem hx_pj {i : Instr} {j : Nat} {as st : List Value} {ga : List ty_A} {lo hi : Int} {P : List Value → ab_W → Prop} {R : List Value → ab_W → Option Value → ab_W → Prop} (hc : code pc = some (i, t)) (hl : l = pc + 3) (hca : ab_ca own i st w = some (j, as, r)) (hct : hx_ct ro sp G F fz C j ga (some (1, lo, hi)) P R) (hw : ty_w sp G w) (hf : F w) (has : ck_tys G ga as) (hP : P as w) (kk : ∀ (w2 : ab_W) (z : Int64), ty_w sp G w2 → F w2 → ty_same G fz w w2 → lo ≤ z.toInt → z.toInt ≤ hi → R as w (some (.long z)) w2 → ab_wp ro C own false ret code Q (l, L, .long z :: r, w2, 0, 0)) : ab_wp ro C own false ret code Q (pc, L, st, w, 0, 0) := by
  refine hx_clp hc hl hca hct hw hf has hP (fun v w2 q1 q2 q3 q4 q5 => ?_)
  cases v with
  | none => exact q4.elim
  | some x =>
    obtain ⟨z, rfl, h1, h2⟩ := ty_long q4 rfl
    exact kk w2 z q1 q2 q3 h1 h2 q5
theorem hx_ist {x : Int32} {k : Nat} {i : Instr} (hc : code pc = some (i, t)) (hi : i = .istore k ∨ ∃ m, i = .istore_n m ∧ (m : Nat) = k) (hl : l = pc + (cond (match i with | .istore _ => true | _ => false) 2 1)) (hk : ab_kill L k = L) (hlt : k < L.length) (kk : ab_wp ro C own false ret code Q (l, L.set k (some (.int x)), r, w, 0, 0)) : ab_wp ro C own false ret code Q (pc, L, .int x :: r, w, 0, 0) := by
  subst hl
  have e : ab_st1 L k (.int x) = L.set k (some (.int x)) := by unfold ab_st1; rw [hk]
  rcases hi with rfl | ⟨m, rfl, rfl⟩
  · exact ax_sw (ps := []) (x := (L.set k (some (.int x)), r, w, 0, 0)) (pc + 2) hc (by simp only [ab_nx, if_pos hlt, e]) rfl trivial kk
  · exact ax_sw (ps := []) (x := (L.set (m : Nat) (some (.int x)), r, w, 0, 0)) (pc + 1) hc (by simp only [ab_nx, if_pos hlt, e]) rfl trivial kk
end Hy
section Hz
variable {ro : ab_R} {sp : Nat → ty_S} {C : Nat → List Value → ab_W → ab_O → Prop} {own : Nat} {ret : Option FieldType} {code : ab_C} {Q : ab_O → Prop} {pc l t : Nat} {L : ab_L} {r : List Value} {w : ab_W} {G : Nat → Nat}
theorem hx_tsq {d lo hi off : Int} {offs : Array Int} {x : Int32} (q : Nat) (hc : code pc = some (.tableswitch d lo hi offs, t)) (ho : offs[q]? = some off) (hd : 0 ≤ (pc : Int) + d) (h0 : 0 ≤ (pc : Int) + off) (hl : l = ((pc : Int) + off).toNat) (hx : x.toInt = lo + q) (hb : x.toInt ≤ hi) (k : ab_wp ro C own false ret code Q (l, L, r, w, 0, 0)) : ab_wp ro C own false ret code Q (pc, L, .int x :: r, w, 0, 0) := by
  subst hl
  have e : (x.toInt - lo).toNat = q := by omega
  refine ax_sw (pc' := ab_ts pc d lo hi offs x) (ps := [(x.toInt < lo ∨ hi < x.toInt) ∨ ∃ off, offs[(x.toInt - lo).toNat]? = some off ∧ 0 ≤ (pc : Int) + off, 0 ≤ (pc : Int) + d]) (x := (L, r, w, 0, 0)) _ hc rfl ?_ ⟨Or.inr ⟨off, by rw [e]; exact ho, h0⟩, hd, trivial⟩ k
  unfold ab_ts
  rw [if_neg (by omega), e, ho]
theorem hx_tsd {d lo hi : Int} {offs : Array Int} {x : Int32} (hc : code pc = some (.tableswitch d lo hi offs, t)) (hd : 0 ≤ (pc : Int) + d) (hl : l = ((pc : Int) + d).toNat) (hx : x.toInt < lo ∨ hi < x.toInt) (k : ab_wp ro C own false ret code Q (l, L, r, w, 0, 0)) : ab_wp ro C own false ret code Q (pc, L, .int x :: r, w, 0, 0) := by
  subst hl
  refine ax_sw (pc' := ab_ts pc d lo hi offs x) (ps := [(x.toInt < lo ∨ hi < x.toInt) ∨ ∃ off, offs[(x.toInt - lo).toNat]? = some off ∧ 0 ≤ (pc : Int) + off, 0 ≤ (pc : Int) + d]) (x := (L, r, w, 0, 0)) _ hc rfl ?_ ⟨Or.inl hx, hd, trivial⟩ k
  unfold ab_ts
  rw [if_pos hx]
theorem hx_lcmp {x y : Int64} (hc : code pc = some (.lcmp, t)) (hl : l = pc + 1) (k : ∀ z : Int32, (x.toInt < y.toInt ∧ z.toInt = -1) ∨ (x.toInt = y.toInt ∧ z.toInt = 0) ∨ (y.toInt < x.toInt ∧ z.toInt = 1) → ab_wp ro C own false ret code Q (l, L, .int z :: r, w, 0, 0)) : ab_wp ro C own false ret code Q (pc, L, .long y :: .long x :: r, w, 0, 0) := by
  subst hl
  refine ax_sw (ps := []) (x := (L, .int (lg_cmp x y) :: r, w, 0, 0)) (pc + 1) hc rfl rfl trivial (k _ ?_)
  unfold lg_cmp
  by_cases h : y < x
  · rw [if_pos h]
    exact Or.inr (Or.inr ⟨Int64.lt_iff_toInt_lt.mp h, by decide⟩)
  · rw [if_neg h]
    rw [Int64.lt_iff_toInt_lt] at h
    by_cases e : x = y
    · rw [if_pos e, e]
      exact Or.inr (Or.inl ⟨rfl, by decide⟩)
    · rw [if_neg e]
      have : ¬ x.toInt = y.toInt := fun z => e (Int64.toInt_inj.mp z)
      exact Or.inl ⟨by omega, by decide⟩
theorem hx_ldv {x y : Int64} {i : Instr} (hc : code pc = some (i, t)) (hi : i = .ldiv ∨ i = .lrem) (hl : l = pc + 1) (hy : y.toInt ≠ 0) (k : ∀ z : Int64, ab_wp ro C own false ret code Q (l, L, .long z :: r, w, 0, 0)) : ab_wp ro C own false ret code Q (pc, L, .long y :: .long x :: r, w, 0, 0) := by
  subst hl
  have h : ¬ y = 0 := fun z => hy (by rw [z]; decide)
  rcases hi with rfl | rfl
  · exact ax_sw (ps := [¬ y = 0]) (x := (L, .long (x / y) :: r, w, 0, 0)) (pc + 1) hc rfl rfl ⟨h, trivial⟩ (k _)
  · exact ax_sw (ps := [¬ y = 0]) (x := (L, .long (x - x / y * y) :: r, w, 0, 0)) (pc + 1) hc rfl rfl ⟨h, trivial⟩ (k _)
theorem hx_idv {x y : Int32} {i : Instr} (hc : code pc = some (i, t)) (hi : i = .idiv ∨ i = .irem) (hl : l = pc + 1) (hy : y.toInt ≠ 0) (k : ∀ z : Int32, ab_wp ro C own false ret code Q (l, L, .int z :: r, w, 0, 0)) : ab_wp ro C own false ret code Q (pc, L, .int y :: .int x :: r, w, 0, 0) := by
  subst hl
  have h : ¬ y = 0 := fun z => hy (by rw [z]; decide)
  rcases hi with rfl | rfl
  · exact ax_sw (ps := [¬ y = 0]) (x := (L, .int (x / y) :: r, w, 0, 0)) (pc + 1) hc rfl rfl ⟨h, trivial⟩ (k _)
  · exact ax_sw (ps := [¬ y = 0]) (x := (L, .int (x - x / y * y) :: r, w, 0, 0)) (pc + 1) hc rfl rfl ⟨h, trivial⟩ (k _)
theorem hx_rem {x y : Int32} (hc : code pc = some (.irem, t)) (hl : l = pc + 1) (hx : 0 ≤ x.toInt) (hy : 0 < y.toInt) (k : ∀ z : Int32, 0 ≤ z.toInt → z.toInt < y.toInt → z.toInt ≤ x.toInt → z.toInt = x.toInt % y.toInt → ab_wp ro C own false ret code Q (l, L, .int z :: r, w, 0, 0)) : ab_wp ro C own false ret code Q (pc, L, .int y :: .int x :: r, w, 0, 0) := by
  subst hl
  have h : ¬ y = 0 := fun z => by rw [z] at hy; exact absurd hy (by decide)
  have bx := ck_i32 x
  have by' := ck_i32 y
  have hq0 : 0 ≤ x.toInt / y.toInt := Int.ediv_nonneg hx (by omega)
  have hm : x.toInt % y.toInt + y.toInt * (x.toInt / y.toInt) = x.toInt := Int.emod_add_mul_ediv _ _
  have hm0 : 0 ≤ x.toInt % y.toInt := Int.emod_nonneg _ (by omega)
  have hm1 : x.toInt % y.toInt < y.toInt := Int.emod_lt_of_pos _ hy
  have hq1 : x.toInt / y.toInt ≤ x.toInt := Int.ediv_le_self _ hx
  have hp0 := Int.mul_nonneg (show 0 ≤ y.toInt by omega) hq0
  have hle : x.toInt % y.toInt ≤ x.toInt := by omega
  have e1 : (x / y).toInt = x.toInt / y.toInt := by
    rw [Int32.toInt_div, Int.tdiv_eq_ediv_of_nonneg hx, ck_bmod (by omega) (by omega)]
  have e0 : x.toInt / y.toInt * y.toInt = x.toInt - x.toInt % y.toInt := by rw [Int.mul_comm]; omega
  have e2 : (x / y * y).toInt = x.toInt - x.toInt % y.toInt := by
    rw [Int32.toInt_mul, e1, e0, ck_bmod (by omega) (by omega)]
  have e3 : (x - x / y * y).toInt = x.toInt % y.toInt := by
    rw [Int32.toInt_sub, e2, ck_bmod (by omega) (by omega)]
    omega
  exact ax_sw (ps := [¬ y = 0]) (x := (L, .int (x - x / y * y) :: r, w, 0, 0)) (pc + 1) hc rfl rfl ⟨h, trivial⟩ (k _ (by omega) (by omega) (by omega) e3)
theorem hx_shr {x y : Int32} {m : Nat} (hc : code pc = some (.ishr, t)) (hl : l = pc + 1) (hy : y = Int32.ofNat m) (hm : ((Int32.ofNat m &&& 31).toBitVec.smod 32).toNat = m) (k : ∀ z : Int32, z.toInt = x.toInt / ((2 ^ m : Nat) : Int) → ab_wp ro C own false ret code Q (l, L, .int z :: r, w, 0, 0)) : ab_wp ro C own false ret code Q (pc, L, .int y :: .int x :: r, w, 0, 0) := by
  subst hl
  refine ax_sw (ps := []) (x := (L, .int (x >>> (y &&& 31)) :: r, w, 0, 0)) (pc + 1) hc rfl rfl trivial (k _ ?_)
  rw [← Int32.toInt_toBitVec, Int32.toBitVec_shiftRight, BitVec.toInt_sshiftRight', hy, hm, Int.shiftRight_eq_div_pow]
  rfl
theorem hx_out (hw : ty_w sp G w) {o : Nat} (h : 1000000 ≤ o) : w[o]? = none := List.getElem?_eq_none (by have := hw.2.2; omega)
theorem hx_flen {o n : Nat} {f : Nat → Int32} (hc : code pc = some (.arraylength, t)) (hl : l = pc + 1) (hw : w[o]? = none) (ho : 1000000 ≤ o) (hr : ro (o - 1000000) = some (n, f)) (hn : n < 2147483648) (kk : ∀ z : Int32, z.toInt = (n : Int) → ab_wp ro C own false ret code Q (l, L, .int z :: r, w, 0, 0)) : ab_wp ro C own false ret code Q (pc, L, .ref o :: r, w, 0, 0) := by
  subst hl
  refine ax_sw (ps := []) (x := (L, .int (Int32.ofNat n) :: r, w, 0, 0)) (pc + 1) hc ?_ rfl trivial (kk _ (Int32.toInt_ofNat_of_lt (by omega)))
  simp only [ab_nx, hw, if_pos ho, hr]
theorem hx_fil {o n : Nat} {i : Int32} {f : Nat → Int32} (hc : code pc = some (.iaload, t)) (hl : l = pc + 1) (hw : w[o]? = none) (ho : 1000000 ≤ o) (hr : ro (o - 1000000) = some (n, f)) (h1 : 0 ≤ i.toInt) (h2 : i.toInt < n) (kk : ∀ z : Int32, z = f i.toInt.toNat → ab_wp ro C own false ret code Q (l, L, .int z :: r, w, 0, 0)) : ab_wp ro C own false ret code Q (pc, L, .int i :: .ref o :: r, w, 0, 0) := by
  subst hl
  refine ax_sw (ps := [vp_in i n]) (x := (L, .int (f i.toNatClampNeg) :: r, w, 0, 0)) (pc + 1) hc ?_ rfl ⟨hx_in h1 h2, trivial⟩ (kk _ rfl)
  simp only [ab_nx, hw, if_pos ho, hr]
theorem hx_inj {o ci cj : Nat} {fs fs2 : List Value} (h1 : w[o]? = some (.inr (ci, fs))) (h2 : w[o]? = some (.inr (cj, fs2))) : fs = fs2 := by
  rw [h1] at h2
  cases h2
  rfl
theorem hx_injr {o ci cj n m : Nat} {f g : Nat → Int32} (h1 : w[o]? = some (.inl (ci, n, .inl f))) (h2 : w[o]? = some (.inl (cj, m, .inl g))) : f = g := by
  rw [h1] at h2
  cases h2
  rfl
theorem hx_inji {k : Nat} {fs : List Value} {x y : Int32} (h1 : fs[k]? = some (.int x)) (h2 : fs[k]? = some (.int y)) : x = y := by
  rw [h1] at h2
  cases h2
  rfl
theorem hx_congr {F F' : ab_W → Prop} {fz : List (Nat × Nat)} {j : Nat} {ga : List ty_A} {gr : Option ty_A} {wa wf : Nat} (h : ∀ w, F w ↔ F' w) (hc : ck_ct ro sp G F fz C j ga gr wa wf) : ck_ct ro sp G F' fz C j ga gr wa wf := by
  have e : F = F' := funext fun w => propext (h w)
  rw [← e]
  exact hc
end Hz
