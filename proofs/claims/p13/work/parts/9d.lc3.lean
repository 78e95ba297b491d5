/-! the law's cases (3) -/
set_option maxHeartbeats 4000000 in
theorem lc_27 {n : Nat} {xs : Nat → Int32} {T : List im_T} {QO : ab_O → Prop} {X : cw_X} {v : Nat → Int} {R : Nat → Int → Int} {i : Int} (hn : n ≤ 3072) (hT : T.length < 1000) (h0 : 0 ≤ i) (h6 : i + 6 ≤ n) (h : INV T X v R) (K : ∀ X' v' R', INV T X' v' R' → lzq n xs T QO (1063, [some (mr 1000000), some (mr 0), some (mr 95), some (.inl i)], [], CW X' ++ MZ v' R')) : lzq n xs T QO (859, [some (mr 1000000), some (mr 0), some (mr 95), some (.inl i)], [], CW X ++ MZ v R) := by
  obtain ⟨z, X', v', R', hc, hm, hI⟩ := jn_moved (ro := ab_roL n xs) hT h (im_irT (xs (i + 1).toNat))
  replace hc := lz_nz hc
  replace hm := lz_nz hm
  refine im_gG 5 (y := (864, _, _, _)) rfl trivial ?_
  refine im_raiG (m := n) (f := xs) rfl (by decide) rfl (by show (119 : Nat) < 1000; decide) hT (by constructor <;> omega) (Int32.ofInt_toInt _).symm ?_
  refine lz_C rfl rfl rfl rfl rfl hc rfl hT ?_
  refine im_gG 6 (y := (874, _, _, _)) rfl trivial ?_
  refine im_raiG (m := n) (f := xs) rfl (by decide) rfl (by show (119 : Nat) < 1000; decide) hT (by constructor <;> omega) (Int32.ofInt_toInt _).symm ?_
  refine lz_R rfl rfl rfl rfl rfl hm rfl hT ?_
  refine im_gG 2 (y := (1063, _, _, _)) rfl trivial ?_
  exact K _ _ _ hI
set_option maxHeartbeats 4000000 in
theorem lc_28 {n : Nat} {xs : Nat → Int32} {T : List im_T} {QO : ab_O → Prop} {X : cw_X} {v : Nat → Int} {R : Nat → Int → Int} {i : Int} (hn : n ≤ 3072) (hT : T.length < 1000) (h0 : 0 ≤ i) (h6 : i + 6 ≤ n) (h : INV T X v R) (K : ∀ X' v' R', INV T X' v' R' → lzq n xs T QO (1063, [some (mr 1000000), some (mr 0), some (mr 95), some (.inl i)], [], CW X' ++ MZ v' R')) : lzq n xs T QO (882, [some (mr 1000000), some (mr 0), some (mr 95), some (.inl i)], [], CW X ++ MZ v R) := by
  obtain ⟨z, X', v', R', hc, hm, hI⟩ := jn_flow (ro := ab_roL n xs) hT h (im_irT (xs (i + 1).toNat)) (im_irT (xs (i + 2).toNat))
  replace hc := lz_nz hc
  replace hm := lz_nz hm
  refine im_gG 5 (y := (887, _, _, _)) rfl trivial ?_
  refine im_raiG (m := n) (f := xs) rfl (by decide) rfl (by show (119 : Nat) < 1000; decide) hT (by constructor <;> omega) (Int32.ofInt_toInt _).symm ?_
  refine im_gG 4 (y := (892, _, _, _)) rfl trivial ?_
  refine im_raiG (m := n) (f := xs) rfl (by decide) rfl (by show (119 : Nat) < 1000; decide) hT (by constructor <;> omega) (Int32.ofInt_toInt _).symm ?_
  refine lz_C rfl rfl rfl rfl rfl hc rfl hT ?_
  refine im_gG 6 (y := (902, _, _, _)) rfl trivial ?_
  refine im_raiG (m := n) (f := xs) rfl (by decide) rfl (by show (119 : Nat) < 1000; decide) hT (by constructor <;> omega) (Int32.ofInt_toInt _).symm ?_
  refine im_gG 4 (y := (907, _, _, _)) rfl trivial ?_
  refine im_raiG (m := n) (f := xs) rfl (by decide) rfl (by show (119 : Nat) < 1000; decide) hT (by constructor <;> omega) (Int32.ofInt_toInt _).symm ?_
  refine lz_R rfl rfl rfl rfl rfl hm rfl hT ?_
  refine im_gG 2 (y := (1063, _, _, _)) rfl trivial ?_
  exact K _ _ _ hI
set_option maxHeartbeats 4000000 in
theorem lc_29 {n : Nat} {xs : Nat → Int32} {T : List im_T} {QO : ab_O → Prop} {X : cw_X} {v : Nat → Int} {R : Nat → Int → Int} {i : Int} (hn : n ≤ 3072) (hT : T.length < 1000) (h0 : 0 ≤ i) (h6 : i + 6 ≤ n) (h : INV T X v R) (K : ∀ X' v' R', INV T X' v' R' → lzq n xs T QO (1063, [some (mr 1000000), some (mr 0), some (mr 95), some (.inl i)], [], CW X' ++ MZ v' R')) : lzq n xs T QO (915, [some (mr 1000000), some (mr 0), some (mr 95), some (.inl i)], [], CW X ++ MZ v R) := by
  obtain ⟨z, X', v', R', hc, hm, hI⟩ := jn_years (ro := ab_roL n xs) hT h (im_irT (xs (i + 1).toNat)) (im_irT (xs (i + 2).toNat))
  replace hc := lz_nz hc
  replace hm := lz_nz hm
  refine im_gG 5 (y := (920, _, _, _)) rfl trivial ?_
  refine im_raiG (m := n) (f := xs) rfl (by decide) rfl (by show (119 : Nat) < 1000; decide) hT (by constructor <;> omega) (Int32.ofInt_toInt _).symm ?_
  refine im_gG 4 (y := (925, _, _, _)) rfl trivial ?_
  refine im_raiG (m := n) (f := xs) rfl (by decide) rfl (by show (119 : Nat) < 1000; decide) hT (by constructor <;> omega) (Int32.ofInt_toInt _).symm ?_
  refine lz_C rfl rfl rfl rfl rfl hc rfl hT ?_
  refine im_gG 6 (y := (935, _, _, _)) rfl trivial ?_
  refine im_raiG (m := n) (f := xs) rfl (by decide) rfl (by show (119 : Nat) < 1000; decide) hT (by constructor <;> omega) (Int32.ofInt_toInt _).symm ?_
  refine im_gG 4 (y := (940, _, _, _)) rfl trivial ?_
  refine im_raiG (m := n) (f := xs) rfl (by decide) rfl (by show (119 : Nat) < 1000; decide) hT (by constructor <;> omega) (Int32.ofInt_toInt _).symm ?_
  refine lz_R rfl rfl rfl rfl rfl hm rfl hT ?_
  refine im_gG 2 (y := (1063, _, _, _)) rfl trivial ?_
  exact K _ _ _ hI
set_option maxHeartbeats 4000000 in
theorem lc_30 {n : Nat} {xs : Nat → Int32} {T : List im_T} {QO : ab_O → Prop} {X : cw_X} {v : Nat → Int} {R : Nat → Int → Int} {i : Int} (hn : n ≤ 3072) (hT : T.length < 1000) (h0 : 0 ≤ i) (h6 : i + 6 ≤ n) (h : INV T X v R) (K : ∀ X' v' R', INV T X' v' R' → lzq n xs T QO (1063, [some (mr 1000000), some (mr 0), some (mr 95), some (.inl i)], [], CW X' ++ MZ v' R')) : lzq n xs T QO (948, [some (mr 1000000), some (mr 0), some (mr 95), some (.inl i)], [], CW X ++ MZ v R) := by
  obtain ⟨z, X', v', R', hc, hm, hI⟩ := jn_drawn (ro := ab_roL n xs) hT h (im_irT (xs (i + 1).toNat)) (im_irT (xs (i + 2).toNat))
  replace hc := lz_nz hc
  replace hm := lz_nz hm
  refine im_gG 5 (y := (953, _, _, _)) rfl trivial ?_
  refine im_raiG (m := n) (f := xs) rfl (by decide) rfl (by show (119 : Nat) < 1000; decide) hT (by constructor <;> omega) (Int32.ofInt_toInt _).symm ?_
  refine im_gG 4 (y := (958, _, _, _)) rfl trivial ?_
  refine im_raiG (m := n) (f := xs) rfl (by decide) rfl (by show (119 : Nat) < 1000; decide) hT (by constructor <;> omega) (Int32.ofInt_toInt _).symm ?_
  refine lz_C rfl rfl rfl rfl rfl hc rfl hT ?_
  refine im_gG 6 (y := (968, _, _, _)) rfl trivial ?_
  refine im_raiG (m := n) (f := xs) rfl (by decide) rfl (by show (119 : Nat) < 1000; decide) hT (by constructor <;> omega) (Int32.ofInt_toInt _).symm ?_
  refine im_gG 4 (y := (973, _, _, _)) rfl trivial ?_
  refine im_raiG (m := n) (f := xs) rfl (by decide) rfl (by show (119 : Nat) < 1000; decide) hT (by constructor <;> omega) (Int32.ofInt_toInt _).symm ?_
  refine lz_R rfl rfl rfl rfl rfl hm rfl hT ?_
  refine im_gG 2 (y := (1063, _, _, _)) rfl trivial ?_
  exact K _ _ _ hI
set_option maxHeartbeats 4000000 in
theorem lc_31 {n : Nat} {xs : Nat → Int32} {T : List im_T} {QO : ab_O → Prop} {X : cw_X} {v : Nat → Int} {R : Nat → Int → Int} {i : Int} (hn : n ≤ 3072) (hT : T.length < 1000) (h0 : 0 ≤ i) (h6 : i + 6 ≤ n) (h : INV T X v R) (K : ∀ X' v' R', INV T X' v' R' → lzq n xs T QO (1063, [some (mr 1000000), some (mr 0), some (mr 95), some (.inl i)], [], CW X' ++ MZ v' R')) : lzq n xs T QO (981, [some (mr 1000000), some (mr 0), some (mr 95), some (.inl i)], [], CW X ++ MZ v R) := by
  obtain ⟨z, X', v', R', hc, hm, hI⟩ := jn_image (ro := ab_roL n xs) hT h (im_irT (xs (i + 1).toNat))
  replace hc := lz_nz hc
  replace hm := lz_nz hm
  refine im_gG 5 (y := (986, _, _, _)) rfl trivial ?_
  refine im_raiG (m := n) (f := xs) rfl (by decide) rfl (by show (119 : Nat) < 1000; decide) hT (by constructor <;> omega) (Int32.ofInt_toInt _).symm ?_
  refine lz_C rfl rfl rfl rfl rfl hc rfl hT ?_
  refine im_gG 6 (y := (996, _, _, _)) rfl trivial ?_
  refine im_raiG (m := n) (f := xs) rfl (by decide) rfl (by show (119 : Nat) < 1000; decide) hT (by constructor <;> omega) (Int32.ofInt_toInt _).symm ?_
  refine lz_R rfl rfl rfl rfl rfl hm rfl hT ?_
  refine im_gG 2 (y := (1063, _, _, _)) rfl trivial ?_
  exact K _ _ _ hI
set_option maxHeartbeats 4000000 in
theorem lc_32 {n : Nat} {xs : Nat → Int32} {T : List im_T} {QO : ab_O → Prop} {X : cw_X} {v : Nat → Int} {R : Nat → Int → Int} {i : Int} (hn : n ≤ 3072) (hT : T.length < 1000) (h0 : 0 ≤ i) (h6 : i + 6 ≤ n) (h : INV T X v R) (K : ∀ X' v' R', INV T X' v' R' → lzq n xs T QO (1063, [some (mr 1000000), some (mr 0), some (mr 95), some (.inl i)], [], CW X' ++ MZ v' R')) : lzq n xs T QO (1004, [some (mr 1000000), some (mr 0), some (mr 95), some (.inl i)], [], CW X ++ MZ v R) := by
  obtain ⟨z, X', v', R', hc, hm, hI⟩ := jn_back (ro := ab_roL n xs) hT h (im_irT (xs (i + 1).toNat))
  replace hc := lz_nz hc
  replace hm := lz_nz hm
  refine im_gG 5 (y := (1009, _, _, _)) rfl trivial ?_
  refine im_raiG (m := n) (f := xs) rfl (by decide) rfl (by show (119 : Nat) < 1000; decide) hT (by constructor <;> omega) (Int32.ofInt_toInt _).symm ?_
  refine lz_C rfl rfl rfl rfl rfl hc rfl hT ?_
  refine im_gG 6 (y := (1019, _, _, _)) rfl trivial ?_
  refine im_raiG (m := n) (f := xs) rfl (by decide) rfl (by show (119 : Nat) < 1000; decide) hT (by constructor <;> omega) (Int32.ofInt_toInt _).symm ?_
  refine lz_R rfl rfl rfl rfl rfl hm rfl hT ?_
  refine im_gG 2 (y := (1063, _, _, _)) rfl trivial ?_
  exact K _ _ _ hI
set_option maxHeartbeats 4000000 in
theorem lc_33 {n : Nat} {xs : Nat → Int32} {T : List im_T} {QO : ab_O → Prop} {X : cw_X} {v : Nat → Int} {R : Nat → Int → Int} {i : Int} (hn : n ≤ 3072) (hT : T.length < 1000) (h0 : 0 ≤ i) (h6 : i + 6 ≤ n) (h : INV T X v R) (K : ∀ X' v' R', INV T X' v' R' → lzq n xs T QO (1063, [some (mr 1000000), some (mr 0), some (mr 95), some (.inl i)], [], CW X' ++ MZ v' R')) : lzq n xs T QO (1027, [some (mr 1000000), some (mr 0), some (mr 95), some (.inl i)], [], CW X ++ MZ v R) := by
  obtain ⟨z, X', v', R', hc, hm, hI⟩ := jn_count (ro := ab_roL n xs) hT h (im_irT (xs (i + 1).toNat))
  replace hc := lz_nz hc
  replace hm := lz_nz hm
  refine im_gG 5 (y := (1032, _, _, _)) rfl trivial ?_
  refine im_raiG (m := n) (f := xs) rfl (by decide) rfl (by show (119 : Nat) < 1000; decide) hT (by constructor <;> omega) (Int32.ofInt_toInt _).symm ?_
  refine lz_C rfl rfl rfl rfl rfl hc rfl hT ?_
  refine im_gG 6 (y := (1042, _, _, _)) rfl trivial ?_
  refine im_raiG (m := n) (f := xs) rfl (by decide) rfl (by show (119 : Nat) < 1000; decide) hT (by constructor <;> omega) (Int32.ofInt_toInt _).symm ?_
  refine lz_R rfl rfl rfl rfl rfl hm rfl hT ?_
  refine im_gG 2 (y := (1063, _, _, _)) rfl trivial ?_
  exact K _ _ _ hI
set_option maxHeartbeats 4000000 in
theorem lc_34 {n : Nat} {xs : Nat → Int32} {T : List im_T} {QO : ab_O → Prop} {X : cw_X} {v : Nat → Int} {R : Nat → Int → Int} {i : Int} (hn : n ≤ 3072) (hT : T.length < 1000) (h0 : 0 ≤ i) (h6 : i + 6 ≤ n) (h : INV T X v R) (K : ∀ X' v' R', INV T X' v' R' → lzq n xs T QO (1063, [some (mr 1000000), some (mr 0), some (mr 95), some (.inl i)], [], CW X' ++ MZ v' R')) : lzq n xs T QO (1050, [some (mr 1000000), some (mr 0), some (mr 95), some (.inl i)], [], CW X ++ MZ v R) := by
  obtain ⟨z, X', v', R', hc, hm, hI⟩ := jn_status (ro := ab_roL n xs) hT h 
  replace hc := lz_nz hc
  replace hm := lz_nz hm
  refine im_gG 1 (y := (1051, _, _, _)) rfl trivial ?_
  refine lz_C rfl rfl rfl rfl rfl hc rfl hT ?_
  refine im_gG 2 (y := (1056, _, _, _)) rfl trivial ?_
  refine lz_R rfl rfl rfl rfl rfl hm rfl hT ?_
  refine im_gG 2 (y := (1063, _, _, _)) rfl trivial ?_
  exact K _ _ _ hI
