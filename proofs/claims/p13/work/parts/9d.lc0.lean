/-! the law's cases (0) -/
set_option maxHeartbeats 4000000 in
theorem lc_0 {n : Nat} {xs : Nat → Int32} {T : List im_T} {QO : ab_O → Prop} {X : cw_X} {v : Nat → Int} {R : Nat → Int → Int} {i : Int} (hn : n ≤ 3072) (hT : T.length < 1000) (h0 : 0 ≤ i) (h6 : i + 6 ≤ n) (h : INV T X v R) (K : ∀ X' v' R', INV T X' v' R' → lzq n xs T QO (1063, [some (mr 1000000), some (mr 0), some (mr 95), some (.inl i)], [], CW X' ++ MZ v' R')) : lzq n xs T QO (188, [some (mr 1000000), some (mr 0), some (mr 95), some (.inl i)], [], CW X ++ MZ v R) := by
  obtain ⟨z, X', v', R', hc, hm, hI⟩ := jn_parish (ro := ab_roL n xs) hT h (im_irT (xs (i + 1).toNat)) (im_irT (xs (i + 2).toNat))
  replace hc := lz_nz hc
  replace hm := lz_nz hm
  refine im_gG 5 (y := (193, _, _, _)) rfl trivial ?_
  refine im_raiG (m := n) (f := xs) rfl (by decide) rfl (by show (119 : Nat) < 1000; decide) hT (by constructor <;> omega) (Int32.ofInt_toInt _).symm ?_
  refine im_gG 4 (y := (198, _, _, _)) rfl trivial ?_
  refine im_raiG (m := n) (f := xs) rfl (by decide) rfl (by show (119 : Nat) < 1000; decide) hT (by constructor <;> omega) (Int32.ofInt_toInt _).symm ?_
  refine lz_C rfl rfl rfl rfl rfl hc rfl hT ?_
  refine im_gG 6 (y := (208, _, _, _)) rfl trivial ?_
  refine im_raiG (m := n) (f := xs) rfl (by decide) rfl (by show (119 : Nat) < 1000; decide) hT (by constructor <;> omega) (Int32.ofInt_toInt _).symm ?_
  refine im_gG 4 (y := (213, _, _, _)) rfl trivial ?_
  refine im_raiG (m := n) (f := xs) rfl (by decide) rfl (by show (119 : Nat) < 1000; decide) hT (by constructor <;> omega) (Int32.ofInt_toInt _).symm ?_
  refine lz_R rfl rfl rfl rfl rfl hm rfl hT ?_
  refine im_gG 2 (y := (1063, _, _, _)) rfl trivial ?_
  exact K _ _ _ hI
set_option maxHeartbeats 4000000 in
theorem lc_1 {n : Nat} {xs : Nat → Int32} {T : List im_T} {QO : ab_O → Prop} {X : cw_X} {v : Nat → Int} {R : Nat → Int → Int} {i : Int} (hn : n ≤ 3072) (hT : T.length < 1000) (h0 : 0 ≤ i) (h6 : i + 6 ≤ n) (h : INV T X v R) (K : ∀ X' v' R', INV T X' v' R' → lzq n xs T QO (1063, [some (mr 1000000), some (mr 0), some (mr 95), some (.inl i)], [], CW X' ++ MZ v' R')) : lzq n xs T QO (221, [some (mr 1000000), some (mr 0), some (mr 95), some (.inl i)], [], CW X ++ MZ v R) := by
  obtain ⟨z, X', v', R', hc, hm, hI⟩ := jn_of (ro := ab_roL n xs) hT h (im_irT (xs (i + 1).toNat)) (im_irT (xs (i + 2).toNat))
  replace hc := lz_nz hc
  replace hm := lz_nz hm
  refine im_gG 5 (y := (226, _, _, _)) rfl trivial ?_
  refine im_raiG (m := n) (f := xs) rfl (by decide) rfl (by show (119 : Nat) < 1000; decide) hT (by constructor <;> omega) (Int32.ofInt_toInt _).symm ?_
  refine im_gG 4 (y := (231, _, _, _)) rfl trivial ?_
  refine im_raiG (m := n) (f := xs) rfl (by decide) rfl (by show (119 : Nat) < 1000; decide) hT (by constructor <;> omega) (Int32.ofInt_toInt _).symm ?_
  refine lz_C rfl rfl rfl rfl rfl hc rfl hT ?_
  refine im_gG 6 (y := (241, _, _, _)) rfl trivial ?_
  refine im_raiG (m := n) (f := xs) rfl (by decide) rfl (by show (119 : Nat) < 1000; decide) hT (by constructor <;> omega) (Int32.ofInt_toInt _).symm ?_
  refine im_gG 4 (y := (246, _, _, _)) rfl trivial ?_
  refine im_raiG (m := n) (f := xs) rfl (by decide) rfl (by show (119 : Nat) < 1000; decide) hT (by constructor <;> omega) (Int32.ofInt_toInt _).symm ?_
  refine lz_R rfl rfl rfl rfl rfl hm rfl hT ?_
  refine im_gG 2 (y := (1063, _, _, _)) rfl trivial ?_
  exact K _ _ _ hI
set_option maxHeartbeats 4000000 in
theorem lc_2 {n : Nat} {xs : Nat → Int32} {T : List im_T} {QO : ab_O → Prop} {X : cw_X} {v : Nat → Int} {R : Nat → Int → Int} {i : Int} (hn : n ≤ 3072) (hT : T.length < 1000) (h0 : 0 ≤ i) (h6 : i + 6 ≤ n) (h : INV T X v R) (K : ∀ X' v' R', INV T X' v' R' → lzq n xs T QO (1063, [some (mr 1000000), some (mr 0), some (mr 95), some (.inl i)], [], CW X' ++ MZ v' R')) : lzq n xs T QO (254, [some (mr 1000000), some (mr 0), some (mr 95), some (.inl i)], [], CW X ++ MZ v R) := by
  obtain ⟨z, X', v', R', hc, hm, hI⟩ := jn_group (ro := ab_roL n xs) hT h (im_irT (xs (i + 1).toNat)) (im_irT (xs (i + 2).toNat))
  replace hc := lz_nz hc
  replace hm := lz_nz hm
  refine im_gG 5 (y := (259, _, _, _)) rfl trivial ?_
  refine im_raiG (m := n) (f := xs) rfl (by decide) rfl (by show (119 : Nat) < 1000; decide) hT (by constructor <;> omega) (Int32.ofInt_toInt _).symm ?_
  refine im_gG 4 (y := (264, _, _, _)) rfl trivial ?_
  refine im_raiG (m := n) (f := xs) rfl (by decide) rfl (by show (119 : Nat) < 1000; decide) hT (by constructor <;> omega) (Int32.ofInt_toInt _).symm ?_
  refine lz_C rfl rfl rfl rfl rfl hc rfl hT ?_
  refine im_gG 6 (y := (274, _, _, _)) rfl trivial ?_
  refine im_raiG (m := n) (f := xs) rfl (by decide) rfl (by show (119 : Nat) < 1000; decide) hT (by constructor <;> omega) (Int32.ofInt_toInt _).symm ?_
  refine im_gG 4 (y := (279, _, _, _)) rfl trivial ?_
  refine im_raiG (m := n) (f := xs) rfl (by decide) rfl (by show (119 : Nat) < 1000; decide) hT (by constructor <;> omega) (Int32.ofInt_toInt _).symm ?_
  refine lz_R rfl rfl rfl rfl rfl hm rfl hT ?_
  refine im_gG 2 (y := (1063, _, _, _)) rfl trivial ?_
  exact K _ _ _ hI
set_option maxHeartbeats 4000000 in
theorem lc_3 {n : Nat} {xs : Nat → Int32} {T : List im_T} {QO : ab_O → Prop} {X : cw_X} {v : Nat → Int} {R : Nat → Int → Int} {i : Int} (hn : n ≤ 3072) (hT : T.length < 1000) (h0 : 0 ≤ i) (h6 : i + 6 ≤ n) (h : INV T X v R) (K : ∀ X' v' R', INV T X' v' R' → lzq n xs T QO (1063, [some (mr 1000000), some (mr 0), some (mr 95), some (.inl i)], [], CW X' ++ MZ v' R')) : lzq n xs T QO (287, [some (mr 1000000), some (mr 0), some (mr 95), some (.inl i)], [], CW X ++ MZ v R) := by
  obtain ⟨z, X', v', R', hc, hm, hI⟩ := jn_terms (ro := ab_roL n xs) hT h rfl rfl (im_irT (xs (i + 1).toNat)) (im_irT (xs (i + 2).toNat))
  replace hc := lz_nz hc
  replace hm := lz_nz hm
  refine im_gG 5 (y := (292, _, _, _)) rfl trivial ?_
  refine im_raiG (m := n) (f := xs) rfl (by decide) rfl (by show (119 : Nat) < 1000; decide) hT (by constructor <;> omega) (Int32.ofInt_toInt _).symm ?_
  refine im_gG 4 (y := (297, _, _, _)) rfl trivial ?_
  refine im_raiG (m := n) (f := xs) rfl (by decide) rfl (by show (119 : Nat) < 1000; decide) hT (by constructor <;> omega) (Int32.ofInt_toInt _).symm ?_
  refine lz_C rfl rfl rfl rfl rfl hc rfl hT ?_
  refine im_gG 6 (y := (307, _, _, _)) rfl trivial ?_
  refine im_raiG (m := n) (f := xs) rfl (by decide) rfl (by show (119 : Nat) < 1000; decide) hT (by constructor <;> omega) (Int32.ofInt_toInt _).symm ?_
  refine im_gG 4 (y := (312, _, _, _)) rfl trivial ?_
  refine im_raiG (m := n) (f := xs) rfl (by decide) rfl (by show (119 : Nat) < 1000; decide) hT (by constructor <;> omega) (Int32.ofInt_toInt _).symm ?_
  refine lz_R rfl rfl rfl rfl rfl hm rfl hT ?_
  refine im_gG 2 (y := (1063, _, _, _)) rfl trivial ?_
  exact K _ _ _ hI
set_option maxHeartbeats 4000000 in
theorem lc_4 {n : Nat} {xs : Nat → Int32} {T : List im_T} {QO : ab_O → Prop} {X : cw_X} {v : Nat → Int} {R : Nat → Int → Int} {i : Int} (hn : n ≤ 3072) (hT : T.length < 1000) (h0 : 0 ≤ i) (h6 : i + 6 ≤ n) (h : INV T X v R) (K : ∀ X' v' R', INV T X' v' R' → lzq n xs T QO (1063, [some (mr 1000000), some (mr 0), some (mr 95), some (.inl i)], [], CW X' ++ MZ v' R')) : lzq n xs T QO (320, [some (mr 1000000), some (mr 0), some (mr 95), some (.inl i)], [], CW X ++ MZ v R) := by
  obtain ⟨z, X', v', R', hc, hm, hI⟩ := jn_feed (ro := ab_roL n xs) hT h (im_irT (xs (i + 1).toNat)) (im_irT (xs (i + 2).toNat)) (im_irT (xs (i + 3).toNat)) (im_irT (xs (i + 4).toNat)) (im_irT (xs (i + 5).toNat))
  replace hc := lz_nz hc
  replace hm := lz_nz hm
  refine im_gG 5 (y := (325, _, _, _)) rfl trivial ?_
  refine im_raiG (m := n) (f := xs) rfl (by decide) rfl (by show (119 : Nat) < 1000; decide) hT (by constructor <;> omega) (Int32.ofInt_toInt _).symm ?_
  refine im_gG 4 (y := (330, _, _, _)) rfl trivial ?_
  refine im_raiG (m := n) (f := xs) rfl (by decide) rfl (by show (119 : Nat) < 1000; decide) hT (by constructor <;> omega) (Int32.ofInt_toInt _).symm ?_
  refine im_gG 4 (y := (335, _, _, _)) rfl trivial ?_
  refine im_raiG (m := n) (f := xs) rfl (by decide) rfl (by show (119 : Nat) < 1000; decide) hT (by constructor <;> omega) (Int32.ofInt_toInt _).symm ?_
  refine im_gG 4 (y := (340, _, _, _)) rfl trivial ?_
  refine im_raiG (m := n) (f := xs) rfl (by decide) rfl (by show (119 : Nat) < 1000; decide) hT (by constructor <;> omega) (Int32.ofInt_toInt _).symm ?_
  refine im_gG 4 (y := (345, _, _, _)) rfl trivial ?_
  refine im_raiG (m := n) (f := xs) rfl (by decide) rfl (by show (119 : Nat) < 1000; decide) hT (by constructor <;> omega) (Int32.ofInt_toInt _).symm ?_
  refine lz_C rfl rfl rfl rfl rfl hc rfl hT ?_
  refine im_gG 6 (y := (355, _, _, _)) rfl trivial ?_
  refine im_raiG (m := n) (f := xs) rfl (by decide) rfl (by show (119 : Nat) < 1000; decide) hT (by constructor <;> omega) (Int32.ofInt_toInt _).symm ?_
  refine im_gG 4 (y := (360, _, _, _)) rfl trivial ?_
  refine im_raiG (m := n) (f := xs) rfl (by decide) rfl (by show (119 : Nat) < 1000; decide) hT (by constructor <;> omega) (Int32.ofInt_toInt _).symm ?_
  refine im_gG 4 (y := (365, _, _, _)) rfl trivial ?_
  refine im_raiG (m := n) (f := xs) rfl (by decide) rfl (by show (119 : Nat) < 1000; decide) hT (by constructor <;> omega) (Int32.ofInt_toInt _).symm ?_
  refine im_gG 4 (y := (370, _, _, _)) rfl trivial ?_
  refine im_raiG (m := n) (f := xs) rfl (by decide) rfl (by show (119 : Nat) < 1000; decide) hT (by constructor <;> omega) (Int32.ofInt_toInt _).symm ?_
  refine im_gG 4 (y := (375, _, _, _)) rfl trivial ?_
  refine im_raiG (m := n) (f := xs) rfl (by decide) rfl (by show (119 : Nat) < 1000; decide) hT (by constructor <;> omega) (Int32.ofInt_toInt _).symm ?_
  refine lz_R rfl rfl rfl rfl rfl hm rfl hT ?_
  refine im_gG 2 (y := (1063, _, _, _)) rfl trivial ?_
  exact K _ _ _ hI
set_option maxHeartbeats 4000000 in
theorem lc_5 {n : Nat} {xs : Nat → Int32} {T : List im_T} {QO : ab_O → Prop} {X : cw_X} {v : Nat → Int} {R : Nat → Int → Int} {i : Int} (hn : n ≤ 3072) (hT : T.length < 1000) (h0 : 0 ≤ i) (h6 : i + 6 ≤ n) (h : INV T X v R) (K : ∀ X' v' R', INV T X' v' R' → lzq n xs T QO (1063, [some (mr 1000000), some (mr 0), some (mr 95), some (.inl i)], [], CW X' ++ MZ v' R')) : lzq n xs T QO (383, [some (mr 1000000), some (mr 0), some (mr 95), some (.inl i)], [], CW X ++ MZ v R) := by
  obtain ⟨z, X', v', R', hc, hm, hI⟩ := jn_end (ro := ab_roL n xs) hT h (im_irT (xs (i + 1).toNat))
  replace hc := lz_nz hc
  replace hm := lz_nz hm
  refine im_gG 5 (y := (388, _, _, _)) rfl trivial ?_
  refine im_raiG (m := n) (f := xs) rfl (by decide) rfl (by show (119 : Nat) < 1000; decide) hT (by constructor <;> omega) (Int32.ofInt_toInt _).symm ?_
  refine lz_C rfl rfl rfl rfl rfl hc rfl hT ?_
  refine im_gG 6 (y := (398, _, _, _)) rfl trivial ?_
  refine im_raiG (m := n) (f := xs) rfl (by decide) rfl (by show (119 : Nat) < 1000; decide) hT (by constructor <;> omega) (Int32.ofInt_toInt _).symm ?_
  refine lz_R rfl rfl rfl rfl rfl hm rfl hT ?_
  refine im_gG 2 (y := (1063, _, _, _)) rfl trivial ?_
  exact K _ _ _ hI
set_option maxHeartbeats 4000000 in
theorem lc_6 {n : Nat} {xs : Nat → Int32} {T : List im_T} {QO : ab_O → Prop} {X : cw_X} {v : Nat → Int} {R : Nat → Int → Int} {i : Int} (hn : n ≤ 3072) (hT : T.length < 1000) (h0 : 0 ≤ i) (h6 : i + 6 ≤ n) (h : INV T X v R) (K : ∀ X' v' R', INV T X' v' R' → lzq n xs T QO (1063, [some (mr 1000000), some (mr 0), some (mr 95), some (.inl i)], [], CW X' ++ MZ v' R')) : lzq n xs T QO (406, [some (mr 1000000), some (mr 0), some (mr 95), some (.inl i)], [], CW X ++ MZ v R) := by
  obtain ⟨z, X', v', R', hc, hm, hI⟩ := jn_row (ro := ab_roL n xs) hT h 
  replace hc := lz_nz hc
  replace hm := lz_nz hm
  refine im_gG 1 (y := (407, _, _, _)) rfl trivial ?_
  refine lz_C rfl rfl rfl rfl rfl hc rfl hT ?_
  refine im_gG 2 (y := (412, _, _, _)) rfl trivial ?_
  refine lz_R rfl rfl rfl rfl rfl hm rfl hT ?_
  refine im_gG 2 (y := (1063, _, _, _)) rfl trivial ?_
  exact K _ _ _ hI
set_option maxHeartbeats 4000000 in
theorem lc_7 {n : Nat} {xs : Nat → Int32} {T : List im_T} {QO : ab_O → Prop} {X : cw_X} {v : Nat → Int} {R : Nat → Int → Int} {i : Int} (hn : n ≤ 3072) (hT : T.length < 1000) (h0 : 0 ≤ i) (h6 : i + 6 ≤ n) (h : INV T X v R) (K : ∀ X' v' R', INV T X' v' R' → lzq n xs T QO (1063, [some (mr 1000000), some (mr 0), some (mr 95), some (.inl i)], [], CW X' ++ MZ v' R')) : lzq n xs T QO (419, [some (mr 1000000), some (mr 0), some (mr 95), some (.inl i)], [], CW X ++ MZ v R) := by
  obtain ⟨z, X', v', R', hc, hm, hI⟩ := jn_stones (ro := ab_roL n xs) hT h 
  replace hc := lz_nz hc
  replace hm := lz_nz hm
  refine im_gG 1 (y := (420, _, _, _)) rfl trivial ?_
  refine lz_C rfl rfl rfl rfl rfl hc rfl hT ?_
  refine im_gG 2 (y := (425, _, _, _)) rfl trivial ?_
  refine lz_R rfl rfl rfl rfl rfl hm rfl hT ?_
  refine im_gG 2 (y := (1063, _, _, _)) rfl trivial ?_
  exact K _ _ _ hI
set_option maxHeartbeats 4000000 in
theorem lc_8 {n : Nat} {xs : Nat → Int32} {T : List im_T} {Q0 QO : ab_O → Prop} {X : cw_X} {v : Nat → Int} {R : Nat → Int → Int} {i : Int} (hn : n ≤ 3072) (hT : T.length < 1000) (hT9 : T.length + 1 < 1000) (h0 : 0 ≤ i) (h6 : i + 6 ≤ n) (h : INV T X v R) (K1 : ∀ X' v' R', INV T X' v' R' → lzq n xs T QO (1063, [some (mr 1000000), some (mr 0), some (mr 95), some (.inl i)], [], CW X' ++ MZ v' R')) (K : ∀ T' X' v' R', INV T' X' v' R' → T'.length = T.length + 1 → lzq n xs T' Q0 (1063, [some (mr 1000000), some (mr 0), some (mr 95), some (.inl i)], [], CW X' ++ MZ v' R')) (hQ : ∀ v w mc ms, Q0 (v, w, mc, ms) → ∀ s0, s0 ≤ 501 → QO (v, w, 3 + mc, s0 + ms)) : lzq n xs T QO (432, [some (mr 1000000), some (mr 0), some (mr 95), some (.inl i)], [], CW X ++ MZ v R) := by
  rcases jn_law (ro := ab_roL n xs) hT hT9 h with hj | hj
  · obtain ⟨z, X', v', R', hc, hm, hI⟩ := hj
    replace hc := lz_nz hc
    replace hm := lz_nz hm
    refine im_gG 1 (y := (433, _, _, _)) rfl trivial ?_
    refine lz_C rfl rfl rfl rfl rfl hc rfl hT ?_
    refine im_gG 2 (y := (438, _, _, _)) rfl trivial ?_
    refine lz_R rfl rfl rfl rfl rfl hm rfl hT ?_
    refine im_gG 2 (y := (1063, _, _, _)) rfl trivial ?_
    exact K1 _ _ _ hI
  · obtain ⟨z, X', v', R', q, ms, hms, hE, hm, hI⟩ := hj
    have hT1 : (T ++ [q]).length < 1000 := by rw [List.length_append]; exact hT9
    replace hm := lz_nz hm
    have ez : ((some (.inl z) : Option im_V)).map (im_v 95) = ((some (.inl (Int32.ofInt z).toInt) : Option im_V)).map (im_v 95) := by
      show some (Value.int (Int32.ofInt z)) = some (Value.int (Int32.ofInt (Int32.ofInt z).toInt))
      rw [im_ofI]
    rw [ez] at hE
    refine im_gG 1 (y := (433, _, _, _)) rfl trivial ?_
    refine lz_N (N := [q]) (QO' := Q0) rfl rfl rfl rfl rfl hE rfl hT (by show (1 : Nat) < 1000; decide) ?_ (fun v2 w2 mc2 ms2 hq => hQ v2 w2 mc2 ms2 hq ms hms)
    refine im_gG 2 (y := (438, _, _, _)) rfl trivial ?_
    refine lz_R rfl rfl rfl rfl rfl hm rfl hT1 ?_
    refine im_gG 2 (y := (1063, _, _, _)) rfl trivial ?_
    exact K _ _ _ _ hI (by rw [List.length_append]; rfl)
