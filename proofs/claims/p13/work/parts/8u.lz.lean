/-! both sides in one world: the law's calls -/
theorem cw_im_b95 : im_ebN 95 (.inr (4, 2, .inr (.inr cw_im))) := fun i k h => by
  unfold cw_im at h
  split at h
  · cases h
    decide
  · split at h
    · cases h
      decide
    · cases h
theorem CW_wb95 : ∀ X : cw_X, im_wbN 95 (CW X)
  | (xv, (v, R, g), ik, y, (f, k, rw_), (cv, cb, cs, cwd), U, P, W, fr, I0, I1) => im_wbN_c rfl (im_wbN_c rfl (im_wbN_c trivial (im_wbN_c trivial (im_wbN_c trivial (im_wbN_c trivial (im_wbN_c trivial (im_wbN_c trivial (im_wbN_c trivial (im_wbN_c trivial (im_wbN_c trivial (im_wbN_c trivial (im_wbN_c trivial (im_wbN_c cw_im_b95 (im_wbN_c trivial (im_wbN_c rfl (im_wbN_c trivial (im_wbN_c trivial (im_wbN_c trivial (im_wbN_c trivial (im_wbN_c trivial (im_wbN_c trivial (im_wbN_c trivial (im_wbN_c trivial (im_wbN_c trivial (im_wbN_c trivial (im_wbN_c trivial (im_wbN_c rfl (im_wbN_c trivial (im_wbN_c rfl (im_wbN_c rfl (im_wbN_c trivial (im_wbN_c trivial (im_wbN_c rfl (im_wbN_c rfl (im_wbN_c trivial (im_wbN_c rfl (im_wbN_c rfl (im_wbN_c trivial (im_wbN_c trivial (im_wbN_c trivial (im_wbN_c rfl (im_wbN_c rfl (im_wbN_c rfl (im_wbN_c trivial (im_wbN_c trivial (im_wbN_c rfl (im_wbN_c trivial (im_wbN_c trivial (im_wbN_c trivial (im_wbN_c trivial (im_wbN_c trivial (im_wbN_c trivial (im_wbN_c trivial (im_wbN_c trivial (im_wbN_c trivial (im_wbN_c trivial (im_wbN_c trivial (im_wbN_c trivial (im_wbN_c trivial (im_wbN_c trivial (im_wbN_c trivial (im_wbN_c trivial (im_wbN_c trivial (im_wbN_c trivial (im_wbN_c rfl (im_wbN_c trivial (im_wbN_c rfl (im_wbN_c trivial (im_wbN_c trivial (im_wbN_c trivial (im_wbN_c rfl (im_wbN_c trivial (im_wbN_c trivial (im_wbN_c trivial (im_wbN_c trivial (im_wbN_c trivial (im_wbN_c trivial (im_wbN_c trivial (im_wbN_c trivial (im_wbN_c trivial (im_wbN_c trivial (im_wbN_c trivial (im_wbN_c rfl (im_wbN_c trivial (im_wbN_c trivial (im_wbN_c trivial (im_wbN_c trivial (im_wbN_c trivial (im_wbN_c trivial (im_wbN_c trivial (im_wbN_c trivial (im_wbN_c trivial (im_wbN_c trivial (im_wbN_c trivial (trivial)))))))))))))))))))))))))))))))))))))))))))))))))))))))))))))))))))))))))))))))))))))))))))))))
/-- the reference's cells behind the class's -/
def MZ (v : Nat → Int) (R : Nat → Int → Int) : im_W := [.inl (9, [.inl (v 0), mr 96, mr 97, mr 98, mr 99, mr 100, .inl (v 6), mr 101, .inl (v 8), .inl (v 9), .inl (v 10), mr 102, mr 103, .inl (v 13), .inl (v 14), mr 104, mr 105, mr 106, .inl (v 18), .inl (v 19), .inl (v 20), .inl (v 21), .inl (v 22), .inl (v 23), .inl (v 24), .inl (v 25), mr 107, .inl (v 27), .inl (v 28), mr 108, .inl (v 30), .inl (v 31), mr 109, mr 110, .inl (v 34), mr 111, mr 112, mr 113, mr 114, mr 115, mr 116, .inl (v 41), .inl (v 42), .inl (v 43), .inl (v 44), .inl (v 45), .inl (v 46), mr 117, mr 118, .inl (v 49), .inl (v 50), .inl (v 51)]), .inr (0, 7, .inl (R 1)), .inr (0, 5721, .inl (R 2)), .inr (0, 11442, .inl (R 3)), .inr (3, 2, .inl (R 4)), .inr (0, 142, .inl (R 5)), .inr (1, 140, .inl (R 6)), .inr (1, 400, .inl (R 7)), .inr (0, 5, .inl (R 8)), .inr (0, 401, .inl (R 9)), .inr (0, 401, .inl (R 10)), .inr (0, 401, .inl (R 11)), .inr (0, 8, .inl (R 12)), .inr (0, 10, .inl (R 13)), .inr (0, 1152, .inl (R 14)), .inr (0, 1152, .inl (R 15)), .inr (0, 10, .inl (R 16)), .inr (0, 10, .inl (R 17)), .inr (0, 10, .inl (R 18)), .inr (2, 198, .inl (R 19)), .inr (1, 990, .inl (R 20)), .inr (0, 10, .inl (R 21)), .inr (2, 2, .inl (R 22)), .inr (0, 71, .inl (R 23))]
theorem MZ_len (v : Nat → Int) (R : Nat → Int → Int) : (MZ v R).length = 24 := rfl
theorem MZ_res (v : Nat → Int) (R : Nat → Int → Int) : im_res (List.range' 95 24) (MW v R) = some (MZ v R) := rfl
theorem lz_len (X : cw_X) (v : Nat → Int) (R : Nat → Int → Int) : (CW X ++ MZ v R).length = 119 := by rw [List.length_append, CW_len, MZ_len]
theorem lz_g0 (X : cw_X) (M : im_W) : ∃ fs, (CW X ++ M)[0]? = some (.inl (8, fs)) := ⟨_, rfl⟩
theorem lz_g95 (X : cw_X) (v : Nat → Int) (R : Nat → Int → Int) : ∃ fs, (CW X ++ MZ v R)[95]? = some (.inl (9, fs)) := ⟨_, by
  rw [List.getElem?_append_right (by rw [CW_len]; decide), CW_len]
  rfl⟩
theorem lz_get : ∀ (M P : im_W), im_get (P ++ M) (List.range' P.length M.length) = some M
  | [], P => rfl
  | x :: M, P => by
    have ih := lz_get M (P ++ [x])
    rw [List.length_append, List.append_assoc] at ih
    show (match (P ++ x :: M)[P.length]?, im_get (P ++ x :: M) (List.range' (P.length + 1) M.length) with
      | some x, some y => some (x :: y)
      | _, _ => none) = some (x :: M)
    rw [List.getElem?_append_right (Nat.le_refl _), Nat.sub_self]
    have ih2 : im_get (P ++ x :: M) (List.range' (P.length + 1) M.length) = some M := ih
    rw [ih2]
    rfl
theorem lz_put : ∀ (M N P : im_W), N.length = M.length → im_puts (P ++ M) (List.range' P.length N.length) N = P ++ N
  | [], [], P, _ => rfl
  | [], _ :: _, P, h => by cases h
  | _ :: _, [], P, h => by cases h
  | x :: M, y :: N, P, h => by
    have ih := lz_put M N (P ++ [y]) (Nat.succ.inj h)
    rw [List.length_append, List.append_assoc, List.append_assoc] at ih
    show im_puts ((P ++ x :: M).set P.length y) (List.range' (P.length + 1) N.length) N = P ++ y :: N
    have e : (P ++ x :: M).set P.length y = P ++ y :: M := by
      rw [List.set_append_right _ _ (Nat.le_refl _), Nat.sub_self]
      rfl
    rw [e]
    exact ih
/-- an answer told within an int's bounds -/
theorem lz_nz {ro : ab_R} {T : List im_T} {d j : Nat} {as : List im_V} {w : im_W} {z : Int} {W : im_W} (h : im_ct ro T d j as w (fun r w => r = some (.inl z) ∧ w = W)) : im_ct ro T d j as w (fun r w => r = some (.inl (Int32.ofInt z).toInt) ∧ w = W) := by
  obtain ⟨v1, w1, hE, hl, rfl, rfl⟩ := h
  have e : (some (.inl z) : Option im_V).map (im_v w.length) = (some (.inl (Int32.ofInt z).toInt) : Option im_V).map (im_v w.length) := by
    show some (Value.int (Int32.ofInt z)) = some (Value.int (Int32.ofInt (Int32.ofInt z).toInt))
    rw [im_ofI]
  rw [e] at hE
  exact ⟨_, _, hE, hl, rfl, rfl⟩
section Lz
variable {ro : ab_R} {own d : Nat} {ret : Option FieldType} {code : ab_C} {T : List im_T} {QO QO' : ab_O → Prop}
theorem lz_iv {ix j n o ci : Nat} {st r : List im_V} {fs : List im_V} {w : im_W} (h1 : ab_lk (ab_mT own) ix = some (j, n, 0)) (h2 : st.drop n = mr o :: r) (g : w[o]? = some (.inl (ci, fs))) (h3 : (Nat.beq (st.take n).length n && Nat.ble (im_sum r) 8 && Nat.beq ci (ab_ow j)) = true) : im_ca own (.invokevirtual ix) st w = some (j, mr o :: (st.take n).reverse, r) := by
  simp only [im_ca, h1, h2, g, h3, cond_true]
theorem lz_N {pc t ix j n ms : Nat} {L : im_L} {st r : List im_V} {X X' : cw_X} {v : Nat → Int} {R : Nat → Int → Int} {a : im_V} {N : List im_T} (hc : code pc = some (.invokevirtual ix, t)) (h1 : ab_lk (ab_mT own) ix = some (j, n, 0)) (h2 : st.drop n = mr 0 :: r) (h3 : (Nat.beq (st.take n).length n && Nat.ble (im_sum r) 8 && Nat.beq 8 (ab_ow j)) = true) (h4 : (mr 0 :: (st.take n).reverse).all (im_vbN 95) = true) (hE : ab_Ev ro ab_codes d j (im_k 95 (mr 0 :: (st.take n).reverse)) (im_w 95 T (CW X)) ((some a).map (im_v 95), im_w 95 (T ++ N) (CW X'), 3 * N.length, ms)) (ha : im_vbN 95 a = true) (hT : T.length < 1000) (hN : N.length < 1000) (k : im_wg ro (ab_Ev ro ab_codes d) own ret code 119 (T ++ N) QO' (pc + 3, L, a :: r, CW X' ++ MZ v R)) (hQ : ∀ v w mc ms', QO' (v, w, mc, ms') → QO (v, w, 3 * N.length + mc, ms + ms')) : im_wg ro (ab_Ev ro ab_codes d) own ret code 119 T QO (pc, L, st, CW X ++ MZ v R) := by
  obtain ⟨fs, g⟩ := lz_g0 X (MZ v R)
  exact im_cBl (na := 95) (nb := 24) (v := some a) hc (lz_iv h1 h2 g h3) hE h4 (by show (im_vbN 95 a && true) = true; rw [ha]; rfl) (CW_wb95 X) (CW_wb95 X') (CW_len X) (CW_len X') (MZ_len v R) (by decide) (by omega) hN k hQ
theorem lz_C {pc t ix j n : Nat} {L : im_L} {st r : List im_V} {X X' : cw_X} {v : Nat → Int} {R : Nat → Int → Int} {a : im_V} (hc : code pc = some (.invokevirtual ix, t)) (h1 : ab_lk (ab_mT own) ix = some (j, n, 0)) (h2 : st.drop n = mr 0 :: r) (h3 : (Nat.beq (st.take n).length n && Nat.ble (im_sum r) 8 && Nat.beq 8 (ab_ow j)) = true) (h4 : (mr 0 :: (st.take n).reverse).all (im_vbN 95) = true) (hct : im_ct ro T d j (mr 0 :: (st.take n).reverse) (CW X) (fun r w => r = some a ∧ w = CW X')) (ha : im_vbN 95 a = true) (hT : T.length < 1000) (k : im_wg ro (ab_Ev ro ab_codes d) own ret code 119 T QO (pc + 3, L, a :: r, CW X' ++ MZ v R)) : im_wg ro (ab_Ev ro ab_codes d) own ret code 119 T QO (pc, L, st, CW X ++ MZ v R) := by
  obtain ⟨v1, w1, hE, hl, rfl, rfl⟩ := hct
  have hE' : ab_Ev ro ab_codes d j (im_k 95 (mr 0 :: (st.take n).reverse)) (im_w 95 T (CW X)) ((some a).map (im_v 95), im_w 95 (T ++ []) (CW X'), 3 * ([] : List im_T).length, 0) := by
    rw [List.append_nil]
    exact hE
  refine lz_N (QO' := QO) hc h1 h2 h3 h4 hE' ha hT (by decide) ?_ (fun v w mc ms' hq => ?_)
  · rw [List.append_nil]
    exact k
  · rw [show 3 * ([] : List im_T).length + mc = mc from Nat.zero_add mc, Nat.zero_add]
    exact hq
theorem lz_R {pc t ix j n : Nat} {L : im_L} {st r : List im_V} {X : cw_X} {v v' : Nat → Int} {R R' : Nat → Int → Int} {a : im_V} (hc : code pc = some (.invokevirtual ix, t)) (h1 : ab_lk (ab_mT own) ix = some (j, n, 0)) (h2 : st.drop n = mr 95 :: r) (h3 : (Nat.beq (st.take n).length n && Nat.ble (im_sum r) 8 && Nat.beq 9 (ab_ow j)) = true) (h4 : im_rvs (List.range' 95 24) (st.take n).reverse = some (st.take n).reverse) (hct : im_ct ro T d j (mr 0 :: (st.take n).reverse) (MW v R) (fun r w => r = some a ∧ w = MW v' R')) (ha : im_rv (List.range' 95 24) a = some a) (hT : T.length < 1000) (k : im_wg ro (ab_Ev ro ab_codes d) own ret code 119 T QO (pc + 3, L, a :: r, CW X ++ MZ v' R')) : im_wg ro (ab_Ev ro ab_codes d) own ret code 119 T QO (pc, L, st, CW X ++ MZ v R) := by
  obtain ⟨fs, g⟩ := lz_g95 X v R
  have hget : im_get (CW X ++ MZ v R) (List.range' 95 24) = some (MZ v R) := lz_get (MZ v R) (CW X)
  have hnd : (List.range' 95 24).Nodup := List.nodup_range'
  refine im_callG (List.range' 95 24) hc (lz_iv h1 h2 g h3) hct ?_ (MZ_res v R) hget hnd (lz_len X v R) (by decide) hT (fun v1 w1 hq => ?_)
  · show (match im_rv (List.range' 95 24) (mr 0), im_rvs (List.range' 95 24) (st.take n).reverse with
      | some x, some y => some (x :: y)
      | _, _ => none) = _
    rw [h4]
    rfl
  · obtain ⟨rfl, rfl⟩ := hq
    refine ⟨some a, MZ v' R', CW X ++ MZ v' R', ?_, MZ_res v' R', ?_, k⟩
    · show (match im_rv (List.range' 95 24) a with
        | some y => some (some y)
        | none => none) = _
      rw [ha]
    · rw [← im_puts_m hnd (by rfl) (fun i hi => by
        rw [lz_len]
        have := (List.mem_range'_1.mp hi).2
        omega)]
      exact lz_put (MZ v R) (MZ v' R') (CW X) rfl
/-- two words go -/
theorem im_p2G {pc t : Nat} {x : Int} {L : im_L} {r : List im_V} {n : Nat} {w : im_W} (hc : code pc = some (.pop2, t)) (k : im_wg ro (ab_Ev ro ab_codes d) own ret code n T QO (pc + 1, L, r, w)) : im_wg ro (ab_Ev ro ab_codes d) own ret code n T QO (pc, L, .inr (.inl x) :: r, w) := by
  obtain ⟨o, m, hX, hQ⟩ := k
  exact ⟨o, m + 1, ⟨_, t, hc, Or.inl ⟨[], _, rfl, trivial, hX⟩⟩, hQ⟩
end Lz
