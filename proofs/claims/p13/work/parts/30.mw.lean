/-! the reference: its cells (refused 1, kept 2, images 3, hasImage 4, aside 5, words 6, tape 7, five 8, code 9, value 10, placed 11, asked 12, overNow 13, left0 14, leftAhead 15, walks0 16, overs0 17, above 18, parts 19, shown 20, walksWas 21, sums 22, drawnMoved 23; status 0, stones0 6, firstWord 8, lastWord 9, isOrders 10, taped 13, fault 14, tokens 18, token 19, leaves 20, bad 21, go 22, goEnd 23, broken 24, inOrders 25, orderDone 27, orderWalked 28, tenBy 30, cameToSea 31, undoMany 34, stopped0 41, orderAt 42, timesOf 43, head 44, sumsAre 45, testIs 46, drawnMany 49, drawnWalking 50, latest 51) -/
def MW (v : Nat → Int) (R : Nat → Int → Int) : im_W := [.inl (9, [.inl (v 0), mr 1, mr 2, mr 3, mr 4, mr 5, .inl (v 6), mr 6, .inl (v 8), .inl (v 9), .inl (v 10), mr 7, mr 8, .inl (v 13), .inl (v 14), mr 9, mr 10, mr 11, .inl (v 18), .inl (v 19), .inl (v 20), .inl (v 21), .inl (v 22), .inl (v 23), .inl (v 24), .inl (v 25), mr 12, .inl (v 27), .inl (v 28), mr 13, .inl (v 30), .inl (v 31), mr 14, mr 15, .inl (v 34), mr 16, mr 17, mr 18, mr 19, mr 20, mr 21, .inl (v 41), .inl (v 42), .inl (v 43), .inl (v 44), .inl (v 45), .inl (v 46), mr 22, mr 23, .inl (v 49), .inl (v 50), .inl (v 51)]), .inr (0, 7, .inl (R 1)), .inr (0, 5721, .inl (R 2)), .inr (0, 11442, .inl (R 3)), .inr (3, 2, .inl (R 4)), .inr (0, 142, .inl (R 5)), .inr (1, 140, .inl (R 6)), .inr (1, 400, .inl (R 7)), .inr (0, 5, .inl (R 8)), .inr (0, 401, .inl (R 9)), .inr (0, 401, .inl (R 10)), .inr (0, 401, .inl (R 11)), .inr (0, 8, .inl (R 12)), .inr (0, 10, .inl (R 13)), .inr (0, 1152, .inl (R 14)), .inr (0, 1152, .inl (R 15)), .inr (0, 10, .inl (R 16)), .inr (0, 10, .inl (R 17)), .inr (0, 10, .inl (R 18)), .inr (2, 198, .inl (R 19)), .inr (1, 990, .inl (R 20)), .inr (0, 10, .inl (R 21)), .inr (2, 2, .inl (R 22)), .inr (0, 71, .inl (R 23))]
def MI : List Nat := [0, 1, 2, 3, 4, 5, 6, 7, 8, 9, 10, 11, 12, 13, 14, 15, 16, 17, 18, 19, 20, 21, 22, 23]
theorem MW_res (v : Nat → Int) (R : Nat → Int → Int) : im_res MI (MW v R) = some (MW v R) := rfl
theorem MW_get (v : Nat → Int) (R : Nat → Int → Int) : im_get (MW v R) MI = some (MW v R) := rfl
theorem MW_len (v : Nat → Int) (R : Nat → Int → Int) : (MW v R).length = 24 := rfl
theorem MI_nd : MI.Nodup := by decide
theorem im_putm_all {is : List Nat} {z : List im_E} (hn : is.Nodup) (hl : z.length = is.length) {w : im_W} (hw : w.length = is.length) (hi : ∀ i, i < w.length → is[i]? = some i) : im_putm is z 0 w = z := by
  apply List.ext_getElem?
  intro i
  rw [im_putm_at, Nat.zero_add]
  by_cases h : i < w.length
  · have hz : i < z.length := by omega
    rw [im_lkp_some hn (hi i h) (List.getElem?_eq_getElem hz), List.getElem?_eq_getElem h, List.getElem?_eq_getElem hz]
    rfl
  · rw [List.getElem?_eq_none (by omega), List.getElem?_eq_none (by omega)]
    rfl
theorem MI_at : ∀ i, i < 24 → MI[i]? = some i := by decide
theorem MW_put (v v' : Nat → Int) (R R' : Nat → Int → Int) : im_putm MI (MW v' R') 0 (MW v R) = MW v' R' := im_putm_all MI_nd rfl rfl (fun i h => MI_at i h)
/-- a call of the reference within itself -/
theorem im_cM {ro : ab_R} {own d : Nat} {ret : Option FieldType} {code : ab_C} {T : List im_T} {Q : Option im_V → im_W → Prop} {v : Nat → Int} {R : Nat → Int → Int} {pc t j : Nat} {i : Instr} {L : im_L} {st as r : List im_V} {K : Option im_V → im_W → Prop} (hc : code pc = some (i, t)) (hca : im_ca own i st (MW v R) = some (j, as, r)) (hct : im_ct ro T d j as (MW v R) K) (h1 : im_rvs MI as = some as) (hT : T.length < 1000) (k : ∀ x w1, K x w1 → ∃ v1 R1, w1 = MW v1 R1 ∧ im_rvo MI x = some x ∧ im_wp ro (ab_Ev ro ab_codes d) own ret code 24 T Q (pc + 3, L, x.toList ++ r, MW v1 R1)) : im_wp ro (ab_Ev ro ab_codes d) own ret code 24 T Q (pc, L, st, MW v R) := by
  refine im_call MI hc hca hct h1 (MW_res v R) (MW_get v R) MI_nd (MW_len v R) (by decide) hT (fun x w1 hK => ?_)
  obtain ⟨v1, R1, rfl, hx, hw⟩ := k x w1 hK
  exact ⟨x, MW v1 R1, MW v1 R1, hx, MW_res v1 R1, MW_put v v1 R R1, hw⟩
theorem im_and_r2 (x y : Int) : im_ir (im_and x y) := by
  unfold im_and
  have h1 := Int32.le_toInt (Int32.ofInt x &&& Int32.ofInt y)
  have h2 := Int32.toInt_lt (Int32.ofInt x &&& Int32.ofInt y)
  exact ⟨by omega, by omega⟩
section Mm
variable {ro : ab_R} {T : List im_T} {d : Nat} {v : Nat → Int} {R : Nat → Int → Int}
set_option maxHeartbeats 8000000 in
theorem m_lies (hd : 1 ≤ d) (hT : T.length < 1000) {x a b : Int} (hx : im_ir x) (ha : im_ir a) (hb : im_ir b) : im_ct ro T d 120 [.inl x, .inl a, .inl b] ([]) (fun r w => r = some (.inl (if a ≤ x ∧ x ≤ b then 1 else 0)) ∧ w = []) := by
  obtain ⟨d, rfl⟩ : ∃ e, d = e + 1 := ⟨d - 1, by omega⟩
  refine im_ct_of (own := 9) (ret := (some .boolean)) (code := ab_k_X9_lies) (nL := 3) (L0 := [some (.inl x), some (.inl a), some (.inl b)]) (n := 0) rfl rfl rfl rfl rfl rfl rfl rfl rfl ?_
  refine im_g 2 (y := (2, _, _, _)) rfl trivial ?_
  refine im_b rfl rfl ⟨(by omega), (by omega), trivial⟩ (fun j1 => ?_) (fun j1 => ?_)
  · refine im_g 1 (y := (15, _, _, _)) rfl trivial ?_
    refine im_r rfl rfl ⟨(by omega), trivial⟩ rfl ?_
    rw [if_neg (by omega)]
    exact ⟨rfl, rfl⟩
  · refine im_g 2 (y := (7, _, _, _)) rfl trivial ?_
    refine im_b rfl rfl ⟨(by omega), (by omega), trivial⟩ (fun j2 => ?_) (fun j2 => ?_)
    · refine im_g 1 (y := (15, _, _, _)) rfl trivial ?_
      refine im_r rfl rfl ⟨(by omega), trivial⟩ rfl ?_
      rw [if_neg (by omega)]
      exact ⟨rfl, rfl⟩
    · refine im_g 2 (y := (15, _, _, _)) rfl trivial ?_
      refine im_r rfl rfl ⟨(by omega), trivial⟩ rfl ?_
      rw [if_pos (by omega)]
      exact ⟨rfl, rfl⟩
set_option maxHeartbeats 8000000 in
theorem m_lesser (hd : 1 ≤ d) (hT : T.length < 1000) {a b : Int} (ha : im_ir a) (hb : im_ir b) : im_ct ro T d 121 [.inl a, .inl b] ([]) (fun r w => r = some (.inl (min a b)) ∧ w = []) := by
  obtain ⟨d, rfl⟩ : ∃ e, d = e + 1 := ⟨d - 1, by omega⟩
  refine im_ct_of (own := 9) (ret := (some .int)) (code := ab_k_X9_lesser) (nL := 2) (L0 := [some (.inl a), some (.inl b)]) (n := 0) rfl rfl rfl rfl rfl rfl rfl rfl rfl ?_
  refine im_g 2 (y := (2, _, _, _)) rfl trivial ?_
  refine im_b rfl rfl ⟨(by omega), (by omega), trivial⟩ (fun j1 => ?_) (fun j1 => ?_)
  · refine im_g 1 (y := (10, _, _, _)) rfl trivial ?_
    refine im_r rfl rfl trivial rfl ?_
    exact ⟨congrArg (fun z => some (Sum.inl z)) (by omega), rfl⟩
  · refine im_g 2 (y := (10, _, _, _)) rfl trivial ?_
    refine im_r rfl rfl trivial rfl ?_
    exact ⟨congrArg (fun z => some (Sum.inl z)) (by omega), rfl⟩
set_option maxHeartbeats 8000000 in
theorem m_greater (hd : 1 ≤ d) (hT : T.length < 1000) {a b : Int} (ha : im_ir a) (hb : im_ir b) : im_ct ro T d 122 [.inl a, .inl b] ([]) (fun r w => r = some (.inl (max a b)) ∧ w = []) := by
  obtain ⟨d, rfl⟩ : ∃ e, d = e + 1 := ⟨d - 1, by omega⟩
  refine im_ct_of (own := 9) (ret := (some .int)) (code := ab_k_X9_greater) (nL := 2) (L0 := [some (.inl a), some (.inl b)]) (n := 0) rfl rfl rfl rfl rfl rfl rfl rfl rfl ?_
  refine im_g 2 (y := (2, _, _, _)) rfl trivial ?_
  refine im_b rfl rfl ⟨(by omega), (by omega), trivial⟩ (fun j1 => ?_) (fun j1 => ?_)
  · refine im_g 1 (y := (10, _, _, _)) rfl trivial ?_
    refine im_r rfl rfl trivial rfl ?_
    exact ⟨congrArg (fun z => some (Sum.inl z)) (by omega), rfl⟩
  · refine im_g 2 (y := (10, _, _, _)) rfl trivial ?_
    refine im_r rfl rfl trivial rfl ?_
    exact ⟨congrArg (fun z => some (Sum.inl z)) (by omega), rfl⟩
set_option maxHeartbeats 8000000 in
theorem m_sizeOf (hd : 1 ≤ d) (hT : T.length < 1000) {a : Int} (ha : -2147483648 < a ∧ a < 2147483648) : im_ct ro T d 123 [.inl a] ([]) (fun r w => r = some (.inl (max a (-a))) ∧ w = []) := by
  obtain ⟨d, rfl⟩ : ∃ e, d = e + 1 := ⟨d - 1, by omega⟩
  refine im_ct_of (own := 9) (ret := (some .int)) (code := ab_k_X9_sizeOf) (nL := 1) (L0 := [some (.inl a)]) (n := 0) rfl rfl rfl rfl rfl rfl rfl rfl rfl ?_
  refine im_g 1 (y := (1, _, _, _)) rfl trivial ?_
  refine im_b rfl rfl ⟨(by omega), trivial⟩ (fun j1 => ?_) (fun j1 => ?_)
  · refine im_g 1 (y := (10, _, _, _)) rfl trivial ?_
    refine im_r rfl rfl trivial rfl ?_
    exact ⟨congrArg (fun z => some (Sum.inl z)) (by omega), rfl⟩
  · refine im_g 3 (y := (10, _, _, _)) rfl trivial ?_
    refine im_r rfl rfl trivial rfl ?_
    exact ⟨congrArg (fun z => some (Sum.inl z)) (by omega), rfl⟩
set_option maxHeartbeats 8000000 in
theorem m_isIn (hd : 1 ≤ d) (hT : T.length < 1000) {a b : Int} : im_ct ro T d 127 [.inl a, .inl b] ([]) (fun r w => r = some (.inl (if im_and (im_shr a b) 1 = 1 then 1 else 0)) ∧ w = []) := by
  obtain ⟨d, rfl⟩ : ∃ e, d = e + 1 := ⟨d - 1, by omega⟩
  refine im_ct_of (own := 9) (ret := (some .boolean)) (code := ab_k_X9_isIn) (nL := 2) (L0 := [some (.inl a), some (.inl b)]) (n := 0) rfl rfl rfl rfl rfl rfl rfl rfl rfl ?_
  refine im_g 6 (y := (6, _, _, _)) rfl trivial ?_
  refine im_b rfl rfl ⟨(by first | exact im_and_r2 _ _ | decide), (by first | exact im_and_r2 _ _ | decide), trivial⟩ (fun j1 => ?_) (fun j1 => ?_)
  · refine im_g 1 (y := (14, _, _, _)) rfl trivial ?_
    refine im_r rfl rfl ⟨(by omega), trivial⟩ rfl ?_
    rw [if_neg j1]
    exact ⟨rfl, rfl⟩
  · refine im_g 2 (y := (14, _, _, _)) rfl trivial ?_
    refine im_r rfl rfl ⟨(by omega), trivial⟩ rfl ?_
    rw [if_pos (Classical.not_not.mp j1)]
    exact ⟨rfl, rfl⟩
set_option maxHeartbeats 8000000 in
theorem m_refuses (hd : 1 ≤ d) (hT : T.length < 1000) {x : Int} (hx : -6 ≤ x ∧ x ≤ -1) : im_ct ro T d 124 [mr 0, .inl x] (MW v R) (fun r w => r = some (.inl x) ∧ w = MW (pl_U v 0 x) (pl_U R 1 (im_up (R 1) (-x) (R 1 (-x) + 1)))) := by
  obtain ⟨d, rfl⟩ : ∃ e, d = e + 1 := ⟨d - 1, by omega⟩
  refine im_ct_of (own := 9) (ret := (some .int)) (code := ab_k_X9_refuses) (nL := 2) (L0 := [some (mr 0), some (.inl x)]) (n := 24) rfl rfl rfl rfl rfl rfl rfl rfl rfl ?_
  refine im_g 13 (y := (17, _, _, _)) rfl ⟨(by omega), (by omega), trivial⟩ ?_
  refine im_r rfl rfl trivial rfl ?_
  exact ⟨rfl, rfl⟩
set_option maxHeartbeats 8000000 in
theorem m_good (hd : 1 ≤ d) (hT : T.length < 1000) {x : Int} : im_ct ro T d 125 [mr 0, .inl x] (MW v R) (fun r w => r = some (.inl x) ∧ w = MW (pl_U v 0 0) R) := by
  obtain ⟨d, rfl⟩ : ∃ e, d = e + 1 := ⟨d - 1, by omega⟩
  refine im_ct_of (own := 9) (ret := (some .int)) (code := ab_k_X9_good) (nL := 2) (L0 := [some (mr 0), some (.inl x)]) (n := 24) rfl rfl rfl rfl rfl rfl rfl rfl rfl ?_
  refine im_g 4 (y := (6, _, _, _)) rfl trivial ?_
  refine im_r rfl rfl trivial rfl ?_
  exact ⟨rfl, rfl⟩
end Mm
