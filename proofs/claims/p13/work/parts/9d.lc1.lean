/-! the law's cases (1) -/
set_option maxHeartbeats 4000000 in
theorem lc_9 {n : Nat} {xs : Nat → Int32} {T : List im_T} {QO : ab_O → Prop} {X : cw_X} {v : Nat → Int} {R : Nat → Int → Int} {i : Int} (hn : n ≤ 3072) (hT : T.length < 1000) (h0 : 0 ≤ i) (h6 : i + 6 ≤ n) (h : INV T X v R) (K : ∀ X' v' R', INV T X' v' R' → lzq n xs T QO (1063, [some (mr 1000000), some (mr 0), some (mr 95), some (.inl i)], [], CW X' ++ MZ v' R')) : lzq n xs T QO (445, [some (mr 1000000), some (mr 0), some (mr 95), some (.inl i)], [], CW X ++ MZ v R) := by
  obtain ⟨z, X', v', R', hc, hm, hI⟩ := jn_orders (ro := ab_roL n xs) hT h 
  replace hc := lz_nz hc
  replace hm := lz_nz hm
  refine im_gG 1 (y := (446, _, _, _)) rfl trivial ?_
  refine lz_C rfl rfl rfl rfl rfl hc rfl hT ?_
  refine im_gG 2 (y := (451, _, _, _)) rfl trivial ?_
  refine lz_R rfl rfl rfl rfl rfl hm rfl hT ?_
  refine im_gG 2 (y := (1063, _, _, _)) rfl trivial ?_
  exact K _ _ _ hI
set_option maxHeartbeats 4000000 in
theorem lc_10 {n : Nat} {xs : Nat → Int32} {T : List im_T} {QO : ab_O → Prop} {X : cw_X} {v : Nat → Int} {R : Nat → Int → Int} {i : Int} (hn : n ≤ 3072) (hT : T.length < 1000) (h0 : 0 ≤ i) (h6 : i + 6 ≤ n) (h : INV T X v R) (K : ∀ X' v' R', INV T X' v' R' → lzq n xs T QO (1063, [some (mr 1000000), some (mr 0), some (mr 95), some (.inl i)], [], CW X' ++ MZ v' R')) : lzq n xs T QO (458, [some (mr 1000000), some (mr 0), some (mr 95), some (.inl i)], [], CW X ++ MZ v R) := by
  obtain ⟨z, X', v', R', hc, hm, hI⟩ := jn_fault (ro := ab_roL n xs) hT h 
  replace hc := lz_nz hc
  replace hm := lz_nz hm
  refine im_gG 1 (y := (459, _, _, _)) rfl trivial ?_
  refine lz_C rfl rfl rfl rfl rfl hc rfl hT ?_
  refine im_gG 2 (y := (464, _, _, _)) rfl trivial ?_
  refine lz_R rfl rfl rfl rfl rfl hm rfl hT ?_
  refine im_gG 2 (y := (1063, _, _, _)) rfl trivial ?_
  exact K _ _ _ hI
set_option maxHeartbeats 4000000 in
theorem lc_11 {n : Nat} {xs : Nat → Int32} {T : List im_T} {QO : ab_O → Prop} {X : cw_X} {v : Nat → Int} {R : Nat → Int → Int} {i : Int} (hn : n ≤ 3072) (hT : T.length < 1000) (h0 : 0 ≤ i) (h6 : i + 6 ≤ n) (h : INV T X v R) (K : ∀ X' v' R', INV T X' v' R' → lzq n xs T QO (1063, [some (mr 1000000), some (mr 0), some (mr 95), some (.inl i)], [], CW X' ++ MZ v' R')) : lzq n xs T QO (471, [some (mr 1000000), some (mr 0), some (mr 95), some (.inl i)], [], CW X ++ MZ v R) := by
  obtain ⟨z, X', v', R', hc, hm, hI⟩ := jn_stopped (ro := ab_roL n xs) hT h 
  replace hc := lz_nz hc
  replace hm := lz_nz hm
  refine im_gG 1 (y := (472, _, _, _)) rfl trivial ?_
  refine lz_C rfl rfl rfl rfl rfl hc rfl hT ?_
  refine im_gG 1 (y := (476, _, _, _)) rfl trivial ?_
  refine lz_R rfl rfl rfl rfl rfl hm rfl hT ?_
  refine im_bTG rfl rfl ⟨im_irT _, im_irT _, trivial⟩ rfl ?_
  exact K _ _ _ hI
set_option maxHeartbeats 4000000 in
theorem lc_12 {n : Nat} {xs : Nat → Int32} {T : List im_T} {QO : ab_O → Prop} {X : cw_X} {v : Nat → Int} {R : Nat → Int → Int} {i : Int} (hn : n ≤ 3072) (hT : T.length < 1000) (h0 : 0 ≤ i) (h6 : i + 6 ≤ n) (h : INV T X v R) (K : ∀ X' v' R', INV T X' v' R' → lzq n xs T QO (1063, [some (mr 1000000), some (mr 0), some (mr 95), some (.inl i)], [], CW X' ++ MZ v' R')) : lzq n xs T QO (484, [some (mr 1000000), some (mr 0), some (mr 95), some (.inl i)], [], CW X ++ MZ v R) := by
  obtain ⟨z, X', v', R', hc, hm, hI⟩ := jn_force (ro := ab_roL n xs) hT h (im_irT (xs (i + 1).toNat))
  replace hc := lz_nz hc
  replace hm := lz_nz hm
  refine im_gG 5 (y := (489, _, _, _)) rfl trivial ?_
  refine im_raiG (m := n) (f := xs) rfl (by decide) rfl (by show (119 : Nat) < 1000; decide) hT (by constructor <;> omega) (Int32.ofInt_toInt _).symm ?_
  refine lz_C rfl rfl rfl rfl rfl hc rfl hT ?_
  refine im_gG 6 (y := (499, _, _, _)) rfl trivial ?_
  refine im_raiG (m := n) (f := xs) rfl (by decide) rfl (by show (119 : Nat) < 1000; decide) hT (by constructor <;> omega) (Int32.ofInt_toInt _).symm ?_
  refine lz_R rfl rfl rfl rfl rfl hm rfl hT ?_
  refine im_gG 2 (y := (1063, _, _, _)) rfl trivial ?_
  exact K _ _ _ hI
set_option maxHeartbeats 4000000 in
theorem lc_13 {n : Nat} {xs : Nat → Int32} {T : List im_T} {QO : ab_O → Prop} {X : cw_X} {v : Nat → Int} {R : Nat → Int → Int} {i : Int} (hn : n ≤ 3072) (hT : T.length < 1000) (h0 : 0 ≤ i) (h6 : i + 6 ≤ n) (h : INV T X v R) (K : ∀ X' v' R', INV T X' v' R' → lzq n xs T QO (1063, [some (mr 1000000), some (mr 0), some (mr 95), some (.inl i)], [], CW X' ++ MZ v' R')) : lzq n xs T QO (507, [some (mr 1000000), some (mr 0), some (mr 95), some (.inl i)], [], CW X ++ MZ v R) := by
  obtain ⟨z, X', v', R', hc, hm, hI⟩ := jn_reckon (ro := ab_roL n xs) hT h (im_irT (xs (i + 1).toNat))
  replace hc := lz_nz hc
  replace hm := lz_nz hm
  refine im_gG 5 (y := (512, _, _, _)) rfl trivial ?_
  refine im_raiG (m := n) (f := xs) rfl (by decide) rfl (by show (119 : Nat) < 1000; decide) hT (by constructor <;> omega) (Int32.ofInt_toInt _).symm ?_
  refine lz_C rfl rfl rfl rfl rfl hc rfl hT ?_
  refine im_gG 6 (y := (522, _, _, _)) rfl trivial ?_
  refine im_raiG (m := n) (f := xs) rfl (by decide) rfl (by show (119 : Nat) < 1000; decide) hT (by constructor <;> omega) (Int32.ofInt_toInt _).symm ?_
  refine lz_R rfl rfl rfl rfl rfl hm rfl hT ?_
  refine im_gG 2 (y := (1063, _, _, _)) rfl trivial ?_
  exact K _ _ _ hI
set_option maxHeartbeats 4000000 in
theorem lc_14 {n : Nat} {xs : Nat → Int32} {T : List im_T} {QO : ab_O → Prop} {X : cw_X} {v : Nat → Int} {R : Nat → Int → Int} {i : Int} (hn : n ≤ 3072) (hT : T.length < 1000) (h0 : 0 ≤ i) (h6 : i + 6 ≤ n) (h : INV T X v R) (K : ∀ X' v' R', INV T X' v' R' → lzq n xs T QO (1063, [some (mr 1000000), some (mr 0), some (mr 95), some (.inl i)], [], CW X' ++ MZ v' R')) : lzq n xs T QO (530, [some (mr 1000000), some (mr 0), some (mr 95), some (.inl i)], [], CW X ++ MZ v R) := by
  obtain ⟨z, X', v', R', hc, hm, hI⟩ := jn_pass (ro := ab_roL n xs) hT h 
  replace hc := lz_nz hc
  replace hm := lz_nz hm
  refine im_gG 1 (y := (531, _, _, _)) rfl trivial ?_
  refine lz_C rfl rfl rfl rfl rfl hc rfl hT ?_
  refine im_gG 2 (y := (536, _, _, _)) rfl trivial ?_
  refine lz_R rfl rfl rfl rfl rfl hm rfl hT ?_
  refine im_gG 2 (y := (1063, _, _, _)) rfl trivial ?_
  exact K _ _ _ hI
set_option maxHeartbeats 4000000 in
theorem lc_15 {n : Nat} {xs : Nat → Int32} {T : List im_T} {QO : ab_O → Prop} {X : cw_X} {v : Nat → Int} {R : Nat → Int → Int} {i : Int} (hn : n ≤ 3072) (hT : T.length < 1000) (h0 : 0 ≤ i) (h6 : i + 6 ≤ n) (h : INV T X v R) (K : ∀ X' v' R', INV T X' v' R' → lzq n xs T QO (1063, [some (mr 1000000), some (mr 0), some (mr 95), some (.inl i)], [], CW X' ++ MZ v' R')) : lzq n xs T QO (543, [some (mr 1000000), some (mr 0), some (mr 95), some (.inl i)], [], CW X ++ MZ v R) := by
  obtain ⟨z, X', v', R', hc, hm, hI⟩ := jn_lend (ro := ab_roL n xs) hT h (im_irT (xs (i + 1).toNat)) (im_irT (xs (i + 2).toNat)) (im_irT (xs (i + 3).toNat))
  replace hc := lz_nz hc
  replace hm := lz_nz hm
  refine im_gG 5 (y := (548, _, _, _)) rfl trivial ?_
  refine im_raiG (m := n) (f := xs) rfl (by decide) rfl (by show (119 : Nat) < 1000; decide) hT (by constructor <;> omega) (Int32.ofInt_toInt _).symm ?_
  refine im_gG 4 (y := (553, _, _, _)) rfl trivial ?_
  refine im_raiG (m := n) (f := xs) rfl (by decide) rfl (by show (119 : Nat) < 1000; decide) hT (by constructor <;> omega) (Int32.ofInt_toInt _).symm ?_
  refine im_gG 4 (y := (558, _, _, _)) rfl trivial ?_
  refine im_raiG (m := n) (f := xs) rfl (by decide) rfl (by show (119 : Nat) < 1000; decide) hT (by constructor <;> omega) (Int32.ofInt_toInt _).symm ?_
  refine lz_C rfl rfl rfl rfl rfl hc rfl hT ?_
  refine im_gG 6 (y := (568, _, _, _)) rfl trivial ?_
  refine im_raiG (m := n) (f := xs) rfl (by decide) rfl (by show (119 : Nat) < 1000; decide) hT (by constructor <;> omega) (Int32.ofInt_toInt _).symm ?_
  refine im_gG 4 (y := (573, _, _, _)) rfl trivial ?_
  refine im_raiG (m := n) (f := xs) rfl (by decide) rfl (by show (119 : Nat) < 1000; decide) hT (by constructor <;> omega) (Int32.ofInt_toInt _).symm ?_
  refine im_gG 4 (y := (578, _, _, _)) rfl trivial ?_
  refine im_raiG (m := n) (f := xs) rfl (by decide) rfl (by show (119 : Nat) < 1000; decide) hT (by constructor <;> omega) (Int32.ofInt_toInt _).symm ?_
  refine lz_R rfl rfl rfl rfl rfl hm rfl hT ?_
  refine im_gG 2 (y := (1063, _, _, _)) rfl trivial ?_
  exact K _ _ _ hI
set_option maxHeartbeats 4000000 in
theorem lc_16 {n : Nat} {xs : Nat → Int32} {T : List im_T} {QO : ab_O → Prop} {X : cw_X} {v : Nat → Int} {R : Nat → Int → Int} {i : Int} (hn : n ≤ 3072) (hT : T.length < 1000) (h0 : 0 ≤ i) (h6 : i + 6 ≤ n) (h : INV T X v R) (K : ∀ X' v' R', INV T X' v' R' → lzq n xs T QO (1063, [some (mr 1000000), some (mr 0), some (mr 95), some (.inl i)], [], CW X' ++ MZ v' R')) : lzq n xs T QO (586, [some (mr 1000000), some (mr 0), some (mr 95), some (.inl i)], [], CW X ++ MZ v R) := by
  obtain ⟨z, X', v', R', hc, hm, hI⟩ := jn_grow (ro := ab_roL n xs) hT h (im_irT (xs (i + 1).toNat)) (im_irT (xs (i + 2).toNat))
  replace hc := lz_nz hc
  replace hm := lz_nz hm
  refine im_gG 5 (y := (591, _, _, _)) rfl trivial ?_
  refine im_raiG (m := n) (f := xs) rfl (by decide) rfl (by show (119 : Nat) < 1000; decide) hT (by constructor <;> omega) (Int32.ofInt_toInt _).symm ?_
  refine im_gG 4 (y := (596, _, _, _)) rfl trivial ?_
  refine im_raiG (m := n) (f := xs) rfl (by decide) rfl (by show (119 : Nat) < 1000; decide) hT (by constructor <;> omega) (Int32.ofInt_toInt _).symm ?_
  refine lz_C rfl rfl rfl rfl rfl hc rfl hT ?_
  refine im_gG 6 (y := (606, _, _, _)) rfl trivial ?_
  refine im_raiG (m := n) (f := xs) rfl (by decide) rfl (by show (119 : Nat) < 1000; decide) hT (by constructor <;> omega) (Int32.ofInt_toInt _).symm ?_
  refine im_gG 4 (y := (611, _, _, _)) rfl trivial ?_
  refine im_raiG (m := n) (f := xs) rfl (by decide) rfl (by show (119 : Nat) < 1000; decide) hT (by constructor <;> omega) (Int32.ofInt_toInt _).symm ?_
  refine lz_R rfl rfl rfl rfl rfl hm rfl hT ?_
  refine im_gG 2 (y := (1063, _, _, _)) rfl trivial ?_
  exact K _ _ _ hI
set_option maxHeartbeats 4000000 in
theorem lc_17 {n : Nat} {xs : Nat → Int32} {T : List im_T} {QO : ab_O → Prop} {X : cw_X} {v : Nat → Int} {R : Nat → Int → Int} {i : Int} (hn : n ≤ 3072) (hT : T.length < 1000) (h0 : 0 ≤ i) (h6 : i + 6 ≤ n) (h : INV T X v R) (K : ∀ X' v' R', INV T X' v' R' → lzq n xs T QO (1063, [some (mr 1000000), some (mr 0), some (mr 95), some (.inl i)], [], CW X' ++ MZ v' R')) : lzq n xs T QO (619, [some (mr 1000000), some (mr 0), some (mr 95), some (.inl i)], [], CW X ++ MZ v R) := by
  obtain ⟨z, X', v', R', hc, hm, hI⟩ := jn_undo (ro := ab_roL n xs) hT h 
  replace hc := lz_nz hc
  replace hm := lz_nz hm
  refine im_gG 1 (y := (620, _, _, _)) rfl trivial ?_
  refine lz_C rfl rfl rfl rfl rfl hc rfl hT ?_
  refine im_gG 2 (y := (625, _, _, _)) rfl trivial ?_
  refine lz_R rfl rfl rfl rfl rfl hm rfl hT ?_
  refine im_gG 2 (y := (1063, _, _, _)) rfl trivial ?_
  exact K _ _ _ hI
