/-! the class's whole world: the object 0, the land 1, images 13, 14, the years' end 15, the past 27, the court 29, the runner 33, the paper 41, the reader 65, refusals 70, the images' lands 71, 83 -/
abbrev cw_L : Type := (Nat → Int) × (Nat → Int → Int) × (Int → Option Nat)
abbrev cw_C : Type := (Nat → Int) × Int × (Int → Int) × (Int → Int)
abbrev cw_U : Type := (Nat → Int) × Int × (Int → Int) × cw_C × (Int → Int)
abbrev cw_P : Type := (Nat → Int) × cw_C × cw_L × (Nat → Int → Int)
abbrev cw_R : Type := (Nat → Int) × (Int → Int) × (Int × Int × Int) × (Int → Int) × (Int → Int)
abbrev cw_X : Type := (Nat → Int) × cw_L × (Int → Int) × cw_L × (Int × Int × (Int → Int)) × cw_C × cw_U × cw_P × cw_R × (Int → Int) × cw_L × cw_L
def cw_im : Int → Option Nat := fun i => if i = 0 then some 71 else if i = 1 then some 83 else none
def CW : cw_X → im_W
  | (xv, (v, R, g), ik, (yv, yR, yg), (f, k, rw_), (cv, cb, cs, cwd), (rv, rb, rs_, (rcv, rcb, rcs, rcwd), rrw), (pv, (pcv, pb, ps, pwd), (sv, sR, sg), PR), (wq, wA, wu, wc, wk), fr, (av, aR, ag), (bv, bR, bg)) => [.inl (8, [.inl (xv 0), mr 1, mr 13, mr 14, mr 15, .inl (xv 5), mr 27, mr 29, mr 33, mr 41, mr 65, mr 70, .inl (xv 12), .inl (xv 13), .inl (xv 14), .inl (xv 15)]), .inl (1, [mr 2, mr 3, mr 4, mr 5, mr 6, mr 7, mr 8, mr 9, mr 10, mr 11, mr 12, .inl (v 0), .inl (v 1), .inl (v 2), .inl (v 3), .inl (v 4), .inl (v 5), .inl (v 6)]), .inr (0, 10, .inl (R 0)), .inr (0, 10, .inl (R 1)), .inr (0, 10, .inl (R 2)), .inr (0, 10, .inl (R 3)), .inr (0, 16, .inl (R 4)), .inr (0, 16, .inl (R 5)), .inr (0, 16, .inl (R 6)), .inr (0, 4, .inl (R 7)), .inr (0, 8, .inl (R 8)), .inr (0, 8, .inl (R 9)), .inr (5, 6, .inr (.inl (g))), .inr (4, 2, .inr (.inr cw_im)), .inr (3, 2, .inl ik), .inl (1, [mr 16, mr 17, mr 18, mr 19, mr 20, mr 21, mr 22, mr 23, mr 24, mr 25, mr 26, .inl (yv 0), .inl (yv 1), .inl (yv 2), .inl (yv 3), .inl (yv 4), .inl (yv 5), .inl (yv 6)]), .inr (0, 10, .inl (yR 0)), .inr (0, 10, .inl (yR 1)), .inr (0, 10, .inl (yR 2)), .inr (0, 10, .inl (yR 3)), .inr (0, 16, .inl (yR 4)), .inr (0, 16, .inl (yR 5)), .inr (0, 16, .inl (yR 6)), .inr (0, 4, .inl (yR 7)), .inr (0, 8, .inl (yR 8)), .inr (0, 8, .inl (yR 9)), .inr (5, 6, .inr (.inl (yg))), .inl (4, [mr 28, .inl (f), .inl (k)]), .inr (0, 1224, .inl (rw_)), .inl (0, [mr 30, mr 32, .inl (cv 0), .inl (cv 1), .inl (cv 2), .inl (cv 3), .inl (cv 4)]), .inl (2, [mr 31, .inl (cb)]), .inr (0, 64, .inl (cs)), .inr (0, 8, .inl (cwd)), .inl (6, [mr 34, mr 36, mr 40, .inl (rv 0), .inl (rv 1), .inl (rv 2), .inl (rv 3)]), .inl (2, [mr 35, .inl (rb)]), .inr (0, 64, .inl (rs_)), .inl (0, [mr 37, mr 39, .inl (rcv 0), .inl (rcv 1), .inl (rcv 2), .inl (rcv 3), .inl (rcv 4)]), .inl (2, [mr 38, .inl (rcb)]), .inr (0, 64, .inl (rcs)), .inr (0, 8, .inl (rcwd)), .inr (0, 25, .inl (rrw)), .inl (3, [mr 42, mr 46, mr 58, mr 59, mr 60, mr 61, mr 62, mr 63, mr 64, .inl (pv 0), .inl (pv 1), .inl (pv 2), .inl (pv 3), .inl (pv 4), .inl (pv 5), .inl (pv 6), .inl (pv 7), .inl (pv 8), .inl (pv 9), .inl (pv 10)]), .inl (0, [mr 43, mr 45, .inl (pcv 0), .inl (pcv 1), .inl (pcv 2), .inl (pcv 3), .inl (pcv 4)]), .inl (2, [mr 44, .inl (pb)]), .inr (0, 64, .inl (ps)), .inr (0, 8, .inl (pwd)), .inl (1, [mr 47, mr 48, mr 49, mr 50, mr 51, mr 52, mr 53, mr 54, mr 55, mr 56, mr 57, .inl (sv 0), .inl (sv 1), .inl (sv 2), .inl (sv 3), .inl (sv 4), .inl (sv 5), .inl (sv 6)]), .inr (0, 10, .inl (sR 0)), .inr (0, 10, .inl (sR 1)), .inr (0, 10, .inl (sR 2)), .inr (0, 10, .inl (sR 3)), .inr (0, 16, .inl (sR 4)), .inr (0, 16, .inl (sR 5)), .inr (0, 16, .inl (sR 6)), .inr (0, 4, .inl (sR 7)), .inr (0, 8, .inl (sR 8)), .inr (0, 8, .inl (sR 9)), .inr (5, 6, .inr (.inl (sg))), .inr (0, 10, .inl (PR 0)), .inr (0, 10, .inl (PR 1)), .inr (0, 10, .inl (PR 2)), .inr (0, 100, .inl (PR 3)), .inr (2, 99, .inl (PR 4)), .inr (0, 10, .inl (PR 5)), .inr (0, 10, .inl (PR 6)), .inl (5, [mr 66, mr 67, .inl (wq 0), .inl (wq 1), .inl (wq 2), .inl (wq 3), .inl (wq 4), .inl (wq 5), .inl (wq 6)]), .inr (0, 400, .inl (wA)), .inl (7, [mr 68, mr 69, .inl wu.1, .inl wu.2.1, .inl wu.2.2]), .inr (0, 436, .inl (wc)), .inr (0, 60, .inl (wk)), .inr (0, 5, .inl fr), .inl (1, [mr 72, mr 73, mr 74, mr 75, mr 76, mr 77, mr 78, mr 79, mr 80, mr 81, mr 82, .inl (av 0), .inl (av 1), .inl (av 2), .inl (av 3), .inl (av 4), .inl (av 5), .inl (av 6)]), .inr (0, 10, .inl (aR 0)), .inr (0, 10, .inl (aR 1)), .inr (0, 10, .inl (aR 2)), .inr (0, 10, .inl (aR 3)), .inr (0, 16, .inl (aR 4)), .inr (0, 16, .inl (aR 5)), .inr (0, 16, .inl (aR 6)), .inr (0, 4, .inl (aR 7)), .inr (0, 8, .inl (aR 8)), .inr (0, 8, .inl (aR 9)), .inr (5, 6, .inr (.inl (ag))), .inl (1, [mr 84, mr 85, mr 86, mr 87, mr 88, mr 89, mr 90, mr 91, mr 92, mr 93, mr 94, .inl (bv 0), .inl (bv 1), .inl (bv 2), .inl (bv 3), .inl (bv 4), .inl (bv 5), .inl (bv 6)]), .inr (0, 10, .inl (bR 0)), .inr (0, 10, .inl (bR 1)), .inr (0, 10, .inl (bR 2)), .inr (0, 10, .inl (bR 3)), .inr (0, 16, .inl (bR 4)), .inr (0, 16, .inl (bR 5)), .inr (0, 16, .inl (bR 6)), .inr (0, 4, .inl (bR 7)), .inr (0, 8, .inl (bR 8)), .inr (0, 8, .inl (bR 9)), .inr (5, 6, .inr (.inl (bg)))]
/-! a call on the whole of one's world: nothing moves -/
theorem im_pid {N k : Nat} (hN : N < 400000) (hk : k < 500000) : ab_pi (List.range N) N k = k := by
  unfold ab_pi
  rw [List.length_range]
  by_cases h : k < N
  · rw [if_pos h, List.getD_eq_getElem?_getD, List.getElem?_range h]
    rfl
  · rw [if_neg h, if_pos hk]
    omega
def im_vb (v : im_V) : Bool := match v with
  | .inr (.inr (.inl (some k))) => Nat.blt k 1000
  | _ => true
def im_eb (e : im_E) : Prop := match e with
  | .inl (_, fs) => fs.all im_vb = true
  | .inr (_, _, .inr (.inr g)) => ∀ i k, g i = some k → k < 1000
  | _ => True
def im_wb : im_W → Prop
  | [] => True
  | e :: r => im_eb e ∧ im_wb r
theorem im_wb_c {e : im_E} {r : im_W} (h : im_eb e) (h2 : im_wb r) : im_wb (e :: r) := ⟨h, h2⟩
section Wid
variable {n N : Nat}
theorem im_vi (hn : n < 1000) (hN : N < 400000) : ∀ {v : im_V}, im_vb v = true → ab_rv (ab_pi (List.range N) N) (im_v n v) = im_v n v
  | .inl x, _ => rfl
  | .inr (.inl x), _ => rfl
  | .inr (.inr (.inl none)), _ => rfl
  | .inr (.inr (.inl (some k))), h => by
    have h2 := Nat.le_of_ble_eq_true h
    show Value.ref (ab_pi (List.range N) N k) = .ref k
    rw [im_pid hN (by omega)]
  | .inr (.inr (.inr t)), _ => by
    show Value.ref (ab_pi (List.range N) N (n + 3 * min t 100000)) = .ref (n + 3 * min t 100000)
    rw [im_pid hN (by omega)]
theorem im_ki (hn : n < 1000) (hN : N < 400000) : ∀ {as : List im_V}, as.all im_vb = true → (im_k n as).map (ab_rv (ab_pi (List.range N) N)) = im_k n as
  | [], _ => rfl
  | x :: r, h => by
    have h2 : im_vb x = true ∧ r.all im_vb = true := by
      rw [List.all_cons, Bool.and_eq_true] at h
      exact h
    show ab_rv _ (im_v n x) :: (im_k n r).map (ab_rv _) = im_v n x :: im_k n r
    rw [im_vi hn hN h2.1, im_ki hn hN h2.2]
theorem im_ei (hn : n < 1000) (hN : N < 400000) : ∀ {e : im_E}, im_eb e → ab_re (ab_pi (List.range N) N) id (im_e n e) = im_e n e
  | .inl (c, fs), h => by
    show Sum.inr (c, (im_k n fs).map (ab_rv _)) = Sum.inr (c, im_k n fs)
    rw [im_ki hn hN h]
  | .inr (t, m, .inl f), _ => by
    have e : im_e n (.inr (t, m, .inl f)) = cond (Nat.beq t 2) (.inl (t, m, .inr (.inl (fun k : Nat => Int64.ofInt (f (k : Int)))))) (.inl (t, m, .inl (fun k : Nat => Int32.ofInt (f (k : Int))))) := rfl
    rw [e]
    cases Nat.beq t 2 <;> rfl
  | .inr (t, m, .inr (.inl g)), _ => by
    show Sum.inl (t, m, Sum.inr (Sum.inr (Sum.inr (Sum.inr (fun i : Nat => Option.map _ ((g (i : Int)).map (fun q => n + 3 * min q 100000))))))) = _
    refine congrArg (fun z => Sum.inl (t, m, Sum.inr (Sum.inr (Sum.inr (Sum.inr z))))) ?_
    funext i
    cases g (i : Int) with
    | none => rfl
    | some q =>
      show some (ab_pi _ _ (n + 3 * min q 100000)) = some (n + 3 * min q 100000)
      rw [im_pid hN (by omega)]
  | .inr (t, m, .inr (.inr g)), h => by
    show Sum.inl (t, m, Sum.inr (Sum.inr (Sum.inr (Sum.inr (fun i : Nat => Option.map _ (g (i : Int))))))) = _
    refine congrArg (fun z => Sum.inl (t, m, Sum.inr (Sum.inr (Sum.inr (Sum.inr z))))) ?_
    funext i
    cases hg : g (i : Int) with
    | none => rfl
    | some q =>
      have h3 : q < 1000 := h (i : Int) q hg
      show some (ab_pi _ _ q) = some q
      rw [im_pid hN (by omega)]
theorem im_wi {T : List im_T} (hn : n < 1000) (hN : N < 400000) (hT : T.length < 1000) : ∀ {w : im_W}, im_wb w → (im_w n T w).map (ab_re (ab_pi (List.range N) N) id) = im_w n T w
  | [], _ => by
    have t := im_tc_re (p := ab_pi (List.range N) N) (a := n) (b := n) (T := T) (x := 0) (fun y hy => im_pid hN (by omega))
    exact t
  | e :: r, h => by
    show ab_re _ id (im_e n e) :: (im_w n T r).map (ab_re _ id) = im_e n e :: im_w n T r
    rw [im_ei hn hN h.1, im_wi hn hN hT h.2]
end Wid
theorem im_wid {W : ab_W} {N : Nat} (hl : W.length = N) (h : W.map (ab_re (ab_pi (List.range N) N) id) = W) : (List.range N).map (fun i => W[i]?) = W.map (fun e => some (ab_re (ab_pi (List.range N) N) id e)) := by
  apply List.ext_getElem?
  intro p
  have h2 := congrArg (fun l => l[p]?) h
  simp only [List.getElem?_map] at h2
  rw [List.getElem?_map, List.getElem?_map]
  by_cases hp : p < N
  · rw [List.getElem?_range hp]
    have hq : p < W.length := by omega
    rw [List.getElem?_eq_getElem hq] at h2
    show some (W[p]?) = _
    rw [List.getElem?_eq_getElem hq]
    exact congrArg some h2.symm
  · rw [List.getElem?_eq_none (by rw [List.length_range]; omega), List.getElem?_eq_none (by omega)]
    rfl
theorem im_pput {W W1 : ab_W} {N : Nat} (hl : W.length = N) (hl1 : W1.length = N) (h : W1.map (ab_re (ab_pi (List.range N) N) id) = W1) : ab_put (List.range N) W.length W W1 (ab_pi (List.range N) N) = W1 := by
  unfold ab_put
  rw [List.drop_eq_nil_of_le (by omega), List.map_nil, List.append_nil]
  apply List.ext_getElem?
  intro i
  rw [ab_mi_get, Nat.zero_add]
  have h2 := congrArg (fun l => l[i]?) h
  simp only [List.getElem?_map] at h2
  by_cases hi : i < N
  · have hq : i < W.length := by omega
    have hq1 : i < W1.length := by omega
    rw [List.getElem?_eq_getElem hq1] at h2
    rw [List.getElem?_eq_getElem hq, List.getElem?_eq_getElem hq1]
    cases hx : ab_ix (List.range N) i 0 with
    | none => exact absurd (List.mem_range.mpr hi) (ab_ix_none hx)
    | some j =>
      obtain ⟨j', hj1, hj2⟩ := ab_ix_some hx
      have hj : j = j' := by omega
      subst hj
      have hj3 : j < N := by
        have := (List.getElem?_eq_some_iff.mp hj2).1
        rw [List.length_range] at this
        exact this
      rw [List.getElem?_range hj3] at hj2
      cases hj2
      simp only [Option.map_some, hx, List.getElem?_eq_getElem hq1]
      exact h2
  · rw [List.getElem?_eq_none (by omega), List.getElem?_eq_none (by omega)]
    rfl
theorem im_callS {ro : ab_R} {own d n : Nat} {ret : Option FieldType} {code : ab_C} {T : List im_T} {Q : Option im_V → im_W → Prop} {pc t j : Nat} {i : Instr} {L : im_L} {st as r : List im_V} {w : im_W} {K : Option im_V → im_W → Prop} (hc : code pc = some (i, t)) (hca : im_ca own i st w = some (j, as, r)) (hct : im_ct ro T d j as w K) (hb : as.all im_vb = true) (hwb : im_wb w) (hn : w.length = n) (hn2 : n < 1000) (hT : T.length < 1000)
    (k : ∀ v w1, K v w1 → im_wb w1 ∧ v.toList.all im_vb = true ∧ im_wp ro (ab_Ev ro ab_codes d) own ret code n T Q (pc + 3, L, v.toList ++ r, w1)) : im_wp ro (ab_Ev ro ab_codes d) own ret code n T Q (pc, L, st, w) := by
  obtain ⟨v, w1, hE, hw1, hK⟩ := hct
  obtain ⟨g1, g2, kk⟩ := k v w1 hK
  rw [hn] at hE hw1
  obtain ⟨o, m, hX, hQ⟩ := kk
  have hl : (im_w n T w).length = n + 3 * T.length := by rw [im_w_len, hn]
  have hl1 : (im_w n T w1).length = n + 3 * T.length := by rw [im_w_len, hw1]
  have hN : n + 3 * T.length < 400000 := by omega
  refine ⟨o, m + 1, ⟨i, t, hc, Or.inr (Or.inr (Or.inr ⟨j, im_k n as, im_k n r, im_ca_ok hca, List.range (n + 3 * T.length), im_k n as, im_w n T w, im_w n T w1, v.map (im_v n), 0, 0, hE, ?_, ?_, List.nodup_range, ?_, ?_⟩))⟩, hQ⟩
  · rw [hl, im_ki hn2 hN hb]
  · rw [hl]; exact im_wid hl (im_wi hn2 hN hT hwb)
  · rw [hl]; omega
  · have ep := im_pput hl hl1 (im_wi hn2 hN hT g1)
    have hl0 : (im_w n T w).length = n + 3 * T.length := hl
    rw [hl0] at ep ⊢
    rw [ep]
    have e : ((v.map (im_v n)).map (ab_rv (ab_pi (List.range (n + 3 * T.length)) (n + 3 * T.length)))).toList ++ im_k n r = im_k n (v.toList ++ r) := by
      cases v with
      | none => rfl
      | some x =>
        have hx : im_vb x = true := by
          have : (im_vb x && true) = true := g2
          rw [Bool.and_true] at this
          exact this
        show ab_rv _ (im_v n x) :: im_k n r = im_v n x :: im_k n r
        rw [im_vi hn2 hN hx]
    rw [e]
    exact hX
theorem cw_im_b : im_eb (.inr (4, 2, .inr (.inr cw_im))) := fun i k h => by
  unfold cw_im at h
  split at h
  · cases h
    decide
  · split at h
    · cases h
      decide
    · cases h
theorem CW_len (X : cw_X) : (CW X).length = 95 := rfl
theorem CW_wb : ∀ X : cw_X, im_wb (CW X)
  | (xv, (v, R, g), ik, y, (f, k, rw_), (cv, cb, cs, cwd), U, P, W, fr, I0, I1) => im_wb_c rfl (im_wb_c rfl (im_wb_c trivial (im_wb_c trivial (im_wb_c trivial (im_wb_c trivial (im_wb_c trivial (im_wb_c trivial (im_wb_c trivial (im_wb_c trivial (im_wb_c trivial (im_wb_c trivial (im_wb_c trivial (im_wb_c cw_im_b (im_wb_c trivial (im_wb_c rfl (im_wb_c trivial (im_wb_c trivial (im_wb_c trivial (im_wb_c trivial (im_wb_c trivial (im_wb_c trivial (im_wb_c trivial (im_wb_c trivial (im_wb_c trivial (im_wb_c trivial (im_wb_c trivial (im_wb_c rfl (im_wb_c trivial (im_wb_c rfl (im_wb_c rfl (im_wb_c trivial (im_wb_c trivial (im_wb_c rfl (im_wb_c rfl (im_wb_c trivial (im_wb_c rfl (im_wb_c rfl (im_wb_c trivial (im_wb_c trivial (im_wb_c trivial (im_wb_c rfl (im_wb_c rfl (im_wb_c rfl (im_wb_c trivial (im_wb_c trivial (im_wb_c rfl (im_wb_c trivial (im_wb_c trivial (im_wb_c trivial (im_wb_c trivial (im_wb_c trivial (im_wb_c trivial (im_wb_c trivial (im_wb_c trivial (im_wb_c trivial (im_wb_c trivial (im_wb_c trivial (im_wb_c trivial (im_wb_c trivial (im_wb_c trivial (im_wb_c trivial (im_wb_c trivial (im_wb_c trivial (im_wb_c trivial (im_wb_c rfl (im_wb_c trivial (im_wb_c rfl (im_wb_c trivial (im_wb_c trivial (im_wb_c trivial (im_wb_c rfl (im_wb_c trivial (im_wb_c trivial (im_wb_c trivial (im_wb_c trivial (im_wb_c trivial (im_wb_c trivial (im_wb_c trivial (im_wb_c trivial (im_wb_c trivial (im_wb_c trivial (im_wb_c trivial (im_wb_c rfl (im_wb_c trivial (im_wb_c trivial (im_wb_c trivial (im_wb_c trivial (im_wb_c trivial (im_wb_c trivial (im_wb_c trivial (im_wb_c trivial (im_wb_c trivial (im_wb_c trivial (im_wb_c trivial (trivial)))))))))))))))))))))))))))))))))))))))))))))))))))))))))))))))))))))))))))))))))))))))))))))))
/-- a call of the class within itself -/
theorem im_cX {ro : ab_R} {own d : Nat} {ret : Option FieldType} {code : ab_C} {T : List im_T} {Q : Option im_V → im_W → Prop} {X : cw_X} {pc t j : Nat} {i : Instr} {L : im_L} {st as r : List im_V} {K : Option im_V → im_W → Prop} (hc : code pc = some (i, t)) (hca : im_ca own i st (CW X) = some (j, as, r)) (hct : im_ct ro T d j as (CW X) K) (h1 : as.all im_vb = true) (hT : T.length < 1000) (k : ∀ x w1, K x w1 → ∃ X1, w1 = CW X1 ∧ x.toList.all im_vb = true ∧ im_wp ro (ab_Ev ro ab_codes d) own ret code 95 T Q (pc + 3, L, x.toList ++ r, CW X1)) : im_wp ro (ab_Ev ro ab_codes d) own ret code 95 T Q (pc, L, st, CW X) := by
  refine im_callS hc hca hct h1 (CW_wb X) (CW_len X) (by decide) hT (fun x w1 hK => ?_)
  obtain ⟨X1, rfl, hx, hw⟩ := k x w1 hK
  exact ⟨CW_wb X1, hx, hw⟩
/-- what settle leaves -/
def cw_fr (x : Int) (fr : Int → Int) : Int → Int := if x = -1 then im_up fr 0 (fr 0 + 1) else if x = -2 then im_up fr 1 (fr 1 + 1) else if x = -3 then im_up fr 2 (fr 2 + 1) else if x = -5 then im_up fr 3 (fr 3 + 1) else if x = -6 then im_up fr 4 (fr 4 + 1) else fr
section Cw
variable {ro : ab_R} {T : List im_T} {d : Nat} {xv : Nat → Int} {v : Nat → Int} {R : Nat → Int → Int} {g : Int → Option Nat} {ik : Int → Int} {y : cw_L} {f k : Int} {rw_ : Int → Int} {cv : Nat → Int} {cb : Int} {cs cwd : Int → Int} {U : cw_U} {P : cw_P} {W : cw_R} {fr : Int → Int} {I0 I1 : cw_L}
set_option maxHeartbeats 8000000 in
theorem cw_settle (hd : 1 ≤ d) (hT : T.length < 1000) {x : Int} (hx : -6 ≤ x ∧ x ≤ 2000000) : im_ct ro T d 115 [mr 0, .inl x] (CW (xv, (v, R, g), ik, y, (f, k, rw_), (cv, cb, cs, cwd), U, P, W, fr, I0, I1)) (fun r w => r = some (.inl x) ∧ w = CW ((pl_U xv 12 (if x < 0 then x else 0)), (v, R, g), ik, y, (f, k, rw_), (cv, cb, cs, cwd), U, P, W, (cw_fr x fr), I0, I1)) := by
  obtain ⟨d, rfl⟩ : ∃ e, d = e + 1 := ⟨d - 1, by omega⟩
  have hk : x = -6 ∨ x = -5 ∨ x = -4 ∨ x = -3 ∨ x = -2 ∨ x = -1 ∨ 0 ≤ x := by omega
  rcases hk with rfl | rfl | rfl | rfl | rfl | rfl | hk
  · refine im_ct_of (own := 8) (ret := (some .int)) (code := ab_k_X8_settle) (nL := 2) (L0 := [some (mr 0), some (.inl (-6))]) (n := 95) rfl rfl rfl rfl rfl rfl rfl rfl rfl ?_
    refine im_g 2 (y := (2, _, _, _)) rfl trivial ?_
    refine im_bF rfl rfl ⟨(by first | decide | (constructor <;> omega)), trivial⟩ (by omega) ?_
    refine im_g 4 (y := (14, _, _, _)) rfl trivial ?_
    refine im_sw (tgt := 104) rfl (by decide) (by decide) (Or.inr ⟨_, rfl, by decide⟩) (by decide) ?_
    refine im_g 10 (y := (118, _, _, _)) rfl ⟨(by omega), (by omega), trivial⟩ ?_
    refine im_r rfl rfl trivial rfl ?_
    exact ⟨rfl, rfl⟩
  · refine im_ct_of (own := 8) (ret := (some .int)) (code := ab_k_X8_settle) (nL := 2) (L0 := [some (mr 0), some (.inl (-5))]) (n := 95) rfl rfl rfl rfl rfl rfl rfl rfl rfl ?_
    refine im_g 2 (y := (2, _, _, _)) rfl trivial ?_
    refine im_bF rfl rfl ⟨(by first | decide | (constructor <;> omega)), trivial⟩ (by omega) ?_
    refine im_g 4 (y := (14, _, _, _)) rfl trivial ?_
    refine im_sw (tgt := 91) rfl (by decide) (by decide) (Or.inr ⟨_, rfl, by decide⟩) (by decide) ?_
    refine im_g 10 (y := (118, _, _, _)) rfl ⟨(by omega), (by omega), trivial⟩ ?_
    refine im_r rfl rfl trivial rfl ?_
    exact ⟨rfl, rfl⟩
  · refine im_ct_of (own := 8) (ret := (some .int)) (code := ab_k_X8_settle) (nL := 2) (L0 := [some (mr 0), some (.inl (-4))]) (n := 95) rfl rfl rfl rfl rfl rfl rfl rfl rfl ?_
    refine im_g 2 (y := (2, _, _, _)) rfl trivial ?_
    refine im_bF rfl rfl ⟨(by first | decide | (constructor <;> omega)), trivial⟩ (by omega) ?_
    refine im_g 4 (y := (14, _, _, _)) rfl trivial ?_
    refine im_sw (tgt := 117) rfl (by decide) (by decide) (Or.inr ⟨_, rfl, by decide⟩) (by decide) ?_
    refine im_g 1 (y := (118, _, _, _)) rfl trivial ?_
    refine im_r rfl rfl trivial rfl ?_
    exact ⟨rfl, rfl⟩
  · refine im_ct_of (own := 8) (ret := (some .int)) (code := ab_k_X8_settle) (nL := 2) (L0 := [some (mr 0), some (.inl (-3))]) (n := 95) rfl rfl rfl rfl rfl rfl rfl rfl rfl ?_
    refine im_g 2 (y := (2, _, _, _)) rfl trivial ?_
    refine im_bF rfl rfl ⟨(by first | decide | (constructor <;> omega)), trivial⟩ (by omega) ?_
    refine im_g 4 (y := (14, _, _, _)) rfl trivial ?_
    refine im_sw (tgt := 78) rfl (by decide) (by decide) (Or.inr ⟨_, rfl, by decide⟩) (by decide) ?_
    refine im_g 10 (y := (118, _, _, _)) rfl ⟨(by omega), (by omega), trivial⟩ ?_
    refine im_r rfl rfl trivial rfl ?_
    exact ⟨rfl, rfl⟩
  · refine im_ct_of (own := 8) (ret := (some .int)) (code := ab_k_X8_settle) (nL := 2) (L0 := [some (mr 0), some (.inl (-2))]) (n := 95) rfl rfl rfl rfl rfl rfl rfl rfl rfl ?_
    refine im_g 2 (y := (2, _, _, _)) rfl trivial ?_
    refine im_bF rfl rfl ⟨(by first | decide | (constructor <;> omega)), trivial⟩ (by omega) ?_
    refine im_g 4 (y := (14, _, _, _)) rfl trivial ?_
    refine im_sw (tgt := 65) rfl (by decide) (by decide) (Or.inr ⟨_, rfl, by decide⟩) (by decide) ?_
    refine im_g 10 (y := (118, _, _, _)) rfl ⟨(by omega), (by omega), trivial⟩ ?_
    refine im_r rfl rfl trivial rfl ?_
    exact ⟨rfl, rfl⟩
  · refine im_ct_of (own := 8) (ret := (some .int)) (code := ab_k_X8_settle) (nL := 2) (L0 := [some (mr 0), some (.inl (-1))]) (n := 95) rfl rfl rfl rfl rfl rfl rfl rfl rfl ?_
    refine im_g 2 (y := (2, _, _, _)) rfl trivial ?_
    refine im_bF rfl rfl ⟨(by first | decide | (constructor <;> omega)), trivial⟩ (by omega) ?_
    refine im_g 4 (y := (14, _, _, _)) rfl trivial ?_
    refine im_sw (tgt := 52) rfl (by decide) (by decide) (Or.inr ⟨_, rfl, by decide⟩) (by decide) ?_
    refine im_g 10 (y := (118, _, _, _)) rfl ⟨(by omega), (by omega), trivial⟩ ?_
    refine im_r rfl rfl trivial rfl ?_
    exact ⟨rfl, rfl⟩
  · refine im_ct_of (own := 8) (ret := (some .int)) (code := ab_k_X8_settle) (nL := 2) (L0 := [some (mr 0), some (.inl x)]) (n := 95) rfl rfl rfl rfl rfl rfl rfl rfl rfl ?_
    refine im_g 2 (y := (2, _, _, _)) rfl trivial ?_
    refine im_bT rfl rfl ⟨(by first | decide | (constructor <;> omega)), trivial⟩ (by omega) ?_
    refine im_g 3 (y := (14, _, _, _)) rfl trivial ?_
    refine im_sw (tgt := 117) rfl (by constructor <;> omega) (by decide) (Or.inl (Or.inr (by omega))) (by unfold im_ts; rw [if_pos (Or.inr (by omega))]; rfl) ?_
    refine im_g 1 (y := (118, _, _, _)) rfl trivial ?_
    refine im_r rfl rfl trivial rfl ?_
    have e1 : cw_fr x fr = fr := by
      unfold cw_fr
      rw [if_neg (by omega), if_neg (by omega), if_neg (by omega), if_neg (by omega), if_neg (by omega)]
    rw [e1, if_neg (by omega)]
    exact ⟨rfl, rfl⟩
end Cw
