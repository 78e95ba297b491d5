/-! the law's cases (2) -/
set_option maxHeartbeats 4000000 in
theorem lc_18 {n : Nat} {xs : Nat → Int32} {T : List im_T} {QO : ab_O → Prop} {X : cw_X} {v : Nat → Int} {R : Nat → Int → Int} {i : Int} (hn : n ≤ 3072) (hT : T.length < 1000) (h0 : 0 ≤ i) (h6 : i + 6 ≤ n) (h : INV T X v R) (K : ∀ X' v' R', INV T X' v' R' → lzq n xs T QO (1063, [some (mr 1000000), some (mr 0), some (mr 95), some (.inl i)], [], CW X' ++ MZ v' R')) : lzq n xs T QO (632, [some (mr 1000000), some (mr 0), some (mr 95), some (.inl i)], [], CW X ++ MZ v R) := by
  obtain ⟨z, X', v', R', hc, hm, hI⟩ := jn_once (ro := ab_roL n xs) hT h (im_irT (xs (i + 1).toNat))
  replace hc := lz_nz hc
  replace hm := lz_nz hm
  refine im_gG 5 (y := (637, _, _, _)) rfl trivial ?_
  refine im_raiG (m := n) (f := xs) rfl (by decide) rfl (by show (119 : Nat) < 1000; decide) hT (by constructor <;> omega) (Int32.ofInt_toInt _).symm ?_
  refine lz_C rfl rfl rfl rfl rfl hc rfl hT ?_
  refine im_gG 6 (y := (647, _, _, _)) rfl trivial ?_
  refine im_raiG (m := n) (f := xs) rfl (by decide) rfl (by show (119 : Nat) < 1000; decide) hT (by constructor <;> omega) (Int32.ofInt_toInt _).symm ?_
  refine lz_R rfl rfl rfl rfl rfl hm rfl hT ?_
  refine im_gG 2 (y := (1063, _, _, _)) rfl trivial ?_
  exact K _ _ _ hI
set_option maxHeartbeats 4000000 in
theorem lc_19 {n : Nat} {xs : Nat → Int32} {T : List im_T} {QO : ab_O → Prop} {X : cw_X} {v : Nat → Int} {R : Nat → Int → Int} {i : Int} (hn : n ≤ 3072) (hT : T.length < 1000) (h0 : 0 ≤ i) (h6 : i + 6 ≤ n) (h : INV T X v R) (K : ∀ X' v' R', INV T X' v' R' → lzq n xs T QO (1063, [some (mr 1000000), some (mr 0), some (mr 95), some (.inl i)], [], CW X' ++ MZ v' R')) : lzq n xs T QO (655, [some (mr 1000000), some (mr 0), some (mr 95), some (.inl i)], [], CW X ++ MZ v R) := by
  obtain ⟨z, X', v', R', hc, hm, hI⟩ := jn_fewest (ro := ab_roL n xs) hT h (im_irT (xs (i + 1).toNat))
  replace hc := lz_nz hc
  replace hm := lz_nz hm
  refine im_gG 5 (y := (660, _, _, _)) rfl trivial ?_
  refine im_raiG (m := n) (f := xs) rfl (by decide) rfl (by show (119 : Nat) < 1000; decide) hT (by constructor <;> omega) (Int32.ofInt_toInt _).symm ?_
  refine lz_C rfl rfl rfl rfl rfl hc rfl hT ?_
  refine im_gG 6 (y := (670, _, _, _)) rfl trivial ?_
  refine im_raiG (m := n) (f := xs) rfl (by decide) rfl (by show (119 : Nat) < 1000; decide) hT (by constructor <;> omega) (Int32.ofInt_toInt _).symm ?_
  refine lz_R rfl rfl rfl rfl rfl hm rfl hT ?_
  refine im_gG 2 (y := (1063, _, _, _)) rfl trivial ?_
  exact K _ _ _ hI
set_option maxHeartbeats 4000000 in
theorem lc_20 {n : Nat} {xs : Nat → Int32} {T : List im_T} {QO : ab_O → Prop} {X : cw_X} {v : Nat → Int} {R : Nat → Int → Int} {i : Int} (hn : n ≤ 3072) (hT : T.length < 1000) (h0 : 0 ≤ i) (h6 : i + 6 ≤ n) (h : INV T X v R) (K : ∀ X' v' R', INV T X' v' R' → lzq n xs T QO (1063, [some (mr 1000000), some (mr 0), some (mr 95), some (.inl i)], [], CW X' ++ MZ v' R')) : lzq n xs T QO (678, [some (mr 1000000), some (mr 0), some (mr 95), some (.inl i)], [], CW X ++ MZ v R) := by
  obtain ⟨z, X', v', R', hc, hm, hI⟩ := jn_lent (ro := ab_roL n xs) hT h (im_irT (xs (i + 1).toNat))
  replace hc := lz_nz hc
  replace hm := lz_nz hm
  refine im_gG 5 (y := (683, _, _, _)) rfl trivial ?_
  refine im_raiG (m := n) (f := xs) rfl (by decide) rfl (by show (119 : Nat) < 1000; decide) hT (by constructor <;> omega) (Int32.ofInt_toInt _).symm ?_
  refine lz_C rfl rfl rfl rfl rfl hc rfl hT ?_
  refine im_gG 6 (y := (693, _, _, _)) rfl trivial ?_
  refine im_raiG (m := n) (f := xs) rfl (by decide) rfl (by show (119 : Nat) < 1000; decide) hT (by constructor <;> omega) (Int32.ofInt_toInt _).symm ?_
  refine lz_R rfl rfl rfl rfl rfl hm rfl hT ?_
  refine im_gG 2 (y := (1063, _, _, _)) rfl trivial ?_
  exact K _ _ _ hI
set_option maxHeartbeats 4000000 in
theorem lc_21 {n : Nat} {xs : Nat → Int32} {T : List im_T} {QO : ab_O → Prop} {X : cw_X} {v : Nat → Int} {R : Nat → Int → Int} {i : Int} (hn : n ≤ 3072) (hT : T.length < 1000) (h0 : 0 ≤ i) (h6 : i + 6 ≤ n) (h : INV T X v R) (K : ∀ X' v' R', INV T X' v' R' → lzq n xs T QO (1063, [some (mr 1000000), some (mr 0), some (mr 95), some (.inl i)], [], CW X' ++ MZ v' R')) : lzq n xs T QO (701, [some (mr 1000000), some (mr 0), some (mr 95), some (.inl i)], [], CW X ++ MZ v R) := by
  obtain ⟨z1, z2, X', v', R', hc, hm, hI⟩ := jn_odds (ro := ab_roL n xs) hT h (im_irT (xs (i + 1).toNat)) (im_irT (xs (i + 2).toNat)) (im_irT (xs (i + 3).toNat))
  refine im_gG 5 (y := (706, _, _, _)) rfl trivial ?_
  refine im_raiG (m := n) (f := xs) rfl (by decide) rfl (by show (119 : Nat) < 1000; decide) hT (by constructor <;> omega) (Int32.ofInt_toInt _).symm ?_
  refine im_gG 4 (y := (711, _, _, _)) rfl trivial ?_
  refine im_raiG (m := n) (f := xs) rfl (by decide) rfl (by show (119 : Nat) < 1000; decide) hT (by constructor <;> omega) (Int32.ofInt_toInt _).symm ?_
  refine im_gG 4 (y := (716, _, _, _)) rfl trivial ?_
  refine im_raiG (m := n) (f := xs) rfl (by decide) rfl (by show (119 : Nat) < 1000; decide) hT (by constructor <;> omega) (Int32.ofInt_toInt _).symm ?_
  refine lz_C rfl rfl rfl rfl rfl hc rfl hT ?_
  refine im_p2G rfl ?_
  refine im_gG 5 (y := (726, _, _, _)) rfl trivial ?_
  refine im_raiG (m := n) (f := xs) rfl (by decide) rfl (by show (119 : Nat) < 1000; decide) hT (by constructor <;> omega) (Int32.ofInt_toInt _).symm ?_
  refine im_gG 4 (y := (731, _, _, _)) rfl trivial ?_
  refine im_raiG (m := n) (f := xs) rfl (by decide) rfl (by show (119 : Nat) < 1000; decide) hT (by constructor <;> omega) (Int32.ofInt_toInt _).symm ?_
  refine im_gG 4 (y := (736, _, _, _)) rfl trivial ?_
  refine im_raiG (m := n) (f := xs) rfl (by decide) rfl (by show (119 : Nat) < 1000; decide) hT (by constructor <;> omega) (Int32.ofInt_toInt _).symm ?_
  refine lz_R rfl rfl rfl rfl rfl hm rfl hT ?_
  refine im_p2G rfl ?_
  refine im_gG 1 (y := (1063, _, _, _)) rfl trivial ?_
  exact K _ _ _ hI
set_option maxHeartbeats 4000000 in
theorem lc_22 {n : Nat} {xs : Nat → Int32} {T : List im_T} {QO : ab_O → Prop} {X : cw_X} {v : Nat → Int} {R : Nat → Int → Int} {i : Int} (hn : n ≤ 3072) (hT : T.length < 1000) (h0 : 0 ≤ i) (h6 : i + 6 ≤ n) (h : INV T X v R) (K : ∀ X' v' R', INV T X' v' R' → lzq n xs T QO (1063, [some (mr 1000000), some (mr 0), some (mr 95), some (.inl i)], [], CW X' ++ MZ v' R')) : lzq n xs T QO (744, [some (mr 1000000), some (mr 0), some (mr 95), some (.inl i)], [], CW X ++ MZ v R) := by
  obtain ⟨z, X', v', R', hc, hm, hI⟩ := jn_best (ro := ab_roL n xs) hT h (im_irT (xs (i + 1).toNat))
  replace hc := lz_nz hc
  replace hm := lz_nz hm
  refine im_gG 5 (y := (749, _, _, _)) rfl trivial ?_
  refine im_raiG (m := n) (f := xs) rfl (by decide) rfl (by show (119 : Nat) < 1000; decide) hT (by constructor <;> omega) (Int32.ofInt_toInt _).symm ?_
  refine lz_C rfl rfl rfl rfl rfl hc rfl hT ?_
  refine im_gG 6 (y := (759, _, _, _)) rfl trivial ?_
  refine im_raiG (m := n) (f := xs) rfl (by decide) rfl (by show (119 : Nat) < 1000; decide) hT (by constructor <;> omega) (Int32.ofInt_toInt _).symm ?_
  refine lz_R rfl rfl rfl rfl rfl hm rfl hT ?_
  refine im_gG 2 (y := (1063, _, _, _)) rfl trivial ?_
  exact K _ _ _ hI
set_option maxHeartbeats 4000000 in
theorem lc_23 {n : Nat} {xs : Nat → Int32} {T : List im_T} {QO : ab_O → Prop} {X : cw_X} {v : Nat → Int} {R : Nat → Int → Int} {i : Int} (hn : n ≤ 3072) (hT : T.length < 1000) (h0 : 0 ≤ i) (h6 : i + 6 ≤ n) (h : INV T X v R) (K : ∀ X' v' R', INV T X' v' R' → lzq n xs T QO (1063, [some (mr 1000000), some (mr 0), some (mr 95), some (.inl i)], [], CW X' ++ MZ v' R')) : lzq n xs T QO (767, [some (mr 1000000), some (mr 0), some (mr 95), some (.inl i)], [], CW X ++ MZ v R) := by
  obtain ⟨z, X', v', R', hc, hm, hI⟩ := jn_hear (ro := ab_roL n xs) hT h (im_irT (xs (i + 1).toNat)) (im_irT (xs (i + 2).toNat))
  replace hc := lz_nz hc
  replace hm := lz_nz hm
  refine im_gG 5 (y := (772, _, _, _)) rfl trivial ?_
  refine im_raiG (m := n) (f := xs) rfl (by decide) rfl (by show (119 : Nat) < 1000; decide) hT (by constructor <;> omega) (Int32.ofInt_toInt _).symm ?_
  refine im_gG 4 (y := (777, _, _, _)) rfl trivial ?_
  refine im_raiG (m := n) (f := xs) rfl (by decide) rfl (by show (119 : Nat) < 1000; decide) hT (by constructor <;> omega) (Int32.ofInt_toInt _).symm ?_
  refine lz_C rfl rfl rfl rfl rfl hc rfl hT ?_
  refine im_gG 6 (y := (787, _, _, _)) rfl trivial ?_
  refine im_raiG (m := n) (f := xs) rfl (by decide) rfl (by show (119 : Nat) < 1000; decide) hT (by constructor <;> omega) (Int32.ofInt_toInt _).symm ?_
  refine im_gG 4 (y := (792, _, _, _)) rfl trivial ?_
  refine im_raiG (m := n) (f := xs) rfl (by decide) rfl (by show (119 : Nat) < 1000; decide) hT (by constructor <;> omega) (Int32.ofInt_toInt _).symm ?_
  refine lz_R rfl rfl rfl rfl rfl hm rfl hT ?_
  refine im_gG 2 (y := (1063, _, _, _)) rfl trivial ?_
  exact K _ _ _ hI
set_option maxHeartbeats 4000000 in
theorem lc_24 {n : Nat} {xs : Nat → Int32} {T : List im_T} {QO : ab_O → Prop} {X : cw_X} {v : Nat → Int} {R : Nat → Int → Int} {i : Int} (hn : n ≤ 3072) (hT : T.length < 1000) (h0 : 0 ≤ i) (h6 : i + 6 ≤ n) (h : INV T X v R) (K : ∀ X' v' R', INV T X' v' R' → lzq n xs T QO (1063, [some (mr 1000000), some (mr 0), some (mr 95), some (.inl i)], [], CW X' ++ MZ v' R')) : lzq n xs T QO (800, [some (mr 1000000), some (mr 0), some (mr 95), some (.inl i)], [], CW X ++ MZ v R) := by
  obtain ⟨z, X', v', R', hc, hm, hI⟩ := jn_forget (ro := ab_roL n xs) hT h 
  replace hc := lz_nz hc
  replace hm := lz_nz hm
  refine im_gG 1 (y := (801, _, _, _)) rfl trivial ?_
  refine lz_C rfl rfl rfl rfl rfl hc rfl hT ?_
  refine im_gG 2 (y := (806, _, _, _)) rfl trivial ?_
  refine lz_R rfl rfl rfl rfl rfl hm rfl hT ?_
  refine im_gG 2 (y := (1063, _, _, _)) rfl trivial ?_
  exact K _ _ _ hI
set_option maxHeartbeats 4000000 in
theorem lc_25 {n : Nat} {xs : Nat → Int32} {T : List im_T} {QO : ab_O → Prop} {X : cw_X} {v : Nat → Int} {R : Nat → Int → Int} {i : Int} (hn : n ≤ 3072) (hT : T.length < 1000) (h0 : 0 ≤ i) (h6 : i + 6 ≤ n) (h : INV T X v R) (K : ∀ X' v' R', INV T X' v' R' → lzq n xs T QO (1063, [some (mr 1000000), some (mr 0), some (mr 95), some (.inl i)], [], CW X' ++ MZ v' R')) : lzq n xs T QO (813, [some (mr 1000000), some (mr 0), some (mr 95), some (.inl i)], [], CW X ++ MZ v R) := by
  obtain ⟨z, X', v', R', hc, hm, hI⟩ := jn_hidden (ro := ab_roL n xs) hT h (im_irT (xs (i + 1).toNat))
  replace hc := lz_nz hc
  replace hm := lz_nz hm
  refine im_gG 5 (y := (818, _, _, _)) rfl trivial ?_
  refine im_raiG (m := n) (f := xs) rfl (by decide) rfl (by show (119 : Nat) < 1000; decide) hT (by constructor <;> omega) (Int32.ofInt_toInt _).symm ?_
  refine lz_C rfl rfl rfl rfl rfl hc rfl hT ?_
  refine im_gG 6 (y := (828, _, _, _)) rfl trivial ?_
  refine im_raiG (m := n) (f := xs) rfl (by decide) rfl (by show (119 : Nat) < 1000; decide) hT (by constructor <;> omega) (Int32.ofInt_toInt _).symm ?_
  refine lz_R rfl rfl rfl rfl rfl hm rfl hT ?_
  refine im_gG 2 (y := (1063, _, _, _)) rfl trivial ?_
  exact K _ _ _ hI
set_option maxHeartbeats 4000000 in
theorem lc_26 {n : Nat} {xs : Nat → Int32} {T : List im_T} {QO : ab_O → Prop} {X : cw_X} {v : Nat → Int} {R : Nat → Int → Int} {i : Int} (hn : n ≤ 3072) (hT : T.length < 1000) (h0 : 0 ≤ i) (h6 : i + 6 ≤ n) (h : INV T X v R) (K : ∀ X' v' R', INV T X' v' R' → lzq n xs T QO (1063, [some (mr 1000000), some (mr 0), some (mr 95), some (.inl i)], [], CW X' ++ MZ v' R')) : lzq n xs T QO (836, [some (mr 1000000), some (mr 0), some (mr 95), some (.inl i)], [], CW X ++ MZ v R) := by
  obtain ⟨z, X', v', R', hc, hm, hI⟩ := jn_look (ro := ab_roL n xs) hT h (im_irT (xs (i + 1).toNat))
  replace hc := lz_nz hc
  replace hm := lz_nz hm
  refine im_gG 5 (y := (841, _, _, _)) rfl trivial ?_
  refine im_raiG (m := n) (f := xs) rfl (by decide) rfl (by show (119 : Nat) < 1000; decide) hT (by constructor <;> omega) (Int32.ofInt_toInt _).symm ?_
  refine lz_C rfl rfl rfl rfl rfl hc rfl hT ?_
  refine im_gG 6 (y := (851, _, _, _)) rfl trivial ?_
  refine im_raiG (m := n) (f := xs) rfl (by decide) rfl (by show (119 : Nat) < 1000; decide) hT (by constructor <;> omega) (Int32.ofInt_toInt _).symm ?_
  refine lz_R rfl rfl rfl rfl rfl hm rfl hT ?_
  refine im_gG 2 (y := (1063, _, _, _)) rfl trivial ?_
  exact K _ _ _ hI
