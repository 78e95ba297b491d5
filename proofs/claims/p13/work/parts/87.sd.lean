/-! the reference: parts by days -/
theorem sd_p {h r : Int} (hh : 0 ≤ h ∧ h ≤ 1000000000000) (hr : 0 ≤ r ∧ r ≤ 10) : (0 ≤ h * (10 - r) ∧ h * (10 - r) ≤ 10000000000000) ∧ (0 ≤ h * r ∧ h * r ≤ 10000000000000) ∧ (0 ≤ (h * (10 - r)).tdiv 10 ∧ (h * (10 - r)).tdiv 10 ≤ 100000000000 * (10 - r)) ∧ (0 ≤ (h * r).tdiv 10 ∧ (h * r).tdiv 10 ≤ 100000000000 * r) := by
  have e : r = 0 ∨ r = 1 ∨ r = 2 ∨ r = 3 ∨ r = 4 ∨ r = 5 ∨ r = 6 ∨ r = 7 ∨ r = 8 ∨ r = 9 ∨ r = 10 := by omega
  have t1 : 0 ≤ h * (10 - r) ∧ 0 ≤ h * r := by rcases e with rfl | rfl | rfl | rfl | rfl | rfl | rfl | rfl | rfl | rfl | rfl <;> omega
  rw [Int.tdiv_eq_ediv_of_nonneg t1.1, Int.tdiv_eq_ediv_of_nonneg t1.2]
  rcases e with rfl | rfl | rfl | rfl | rfl | rfl | rfl | rfl | rfl | rfl | rfl <;> omega
theorem sd_m {k n : Int} (hk : 0 ≤ k) (hn : k < n) : (k + 1).tmod n = (if k + 1 = n then 0 else k + 1) := by
  rw [Int.tmod_eq_emod_of_nonneg (by omega)]
  split
  · rename_i c
    rw [c, Int.emod_self]
  · exact Int.emod_eq_of_lt (by omega) (by omega)
theorem sd_2 {m : Int} (h : 0 ≤ m) : m.tmod 2 = 0 ∨ m.tmod 2 = 1 := by
  rw [Int.tmod_eq_emod_of_nonneg h]
  omega
/-- the day's parts so far -/
def SDB (f : Int → Int) (a b r k : Int) : Prop := (∀ i, 0 ≤ i → i < 99 → 0 ≤ f (a + i) ∧ f (a + i) ≤ 1000000000000) ∧ ∀ i, 0 ≤ i → i < 99 → 0 ≤ f (b + i) ∧ f (b + i) ≤ (if i < k then 100000000000 * (10 - r) else 0) + (if 0 < i ∧ i ≤ k then 100000000000 * r else 0)
theorem SDB_1 {f : Int → Int} {x r k A B : Int} (hx : x = 0 ∨ x = 1) (hr : 0 ≤ r ∧ r ≤ 10) (h : SDB f (99 * x) (99 * (1 - x)) r k) (hk : 0 ≤ k ∧ k + 1 < 99) (hA : 0 ≤ A ∧ A ≤ 100000000000 * (10 - r)) (hB : 0 ≤ B ∧ B ≤ 100000000000 * r) : SDB (im_up (im_up f (99 * (1 - x) + k) (f (99 * (1 - x) + k) + A)) (99 * (1 - x) + (k + 1)) (im_up f (99 * (1 - x) + k) (f (99 * (1 - x) + k) + A) (99 * (1 - x) + (k + 1)) + B)) (99 * x) (99 * (1 - x)) r (k + 1) := by
  refine ⟨fun i q1 q2 => ?_, fun i q1 q2 => ?_⟩
  · have t := h.1 i q1 q2
    unfold im_up
    rw [if_neg (by omega), if_neg (by omega)]
    exact t
  · have t0 := h.2 k (by omega) (by omega)
    have t1 := h.2 (k + 1) (by omega) (by omega)
    have t := h.2 i q1 q2
    rw [if_neg (by omega)] at t0
    rw [if_neg (by omega), if_neg (by omega)] at t1
    unfold im_up
    by_cases c1 : i = k + 1
    · subst c1
      rw [if_pos rfl, if_neg (by omega), if_neg (by omega), if_pos (by omega)]
      omega
    · rw [if_neg (by omega)]
      by_cases c2 : i = k
      · subst c2
        rw [if_pos rfl, if_pos (by omega)]
        by_cases c3 : 0 < i
        · rw [if_pos (by omega)] at t0 ⊢
          omega
        · rw [if_neg (by omega)] at t0 ⊢
          omega
      · rw [if_neg (by omega)]
        refine ⟨t.1, ?_⟩
        by_cases c4 : i < k
        · rw [if_pos c4] at t
          rw [if_pos (by omega)]
          by_cases c3 : 0 < i
          · rw [if_pos (by omega)] at t ⊢
            exact t.2
          · rw [if_neg (by omega)] at t ⊢
            exact t.2
        · rw [if_neg c4, if_neg (by omega)] at t
          rw [if_neg (by omega), if_neg (by omega)]
          exact t.2
theorem SDB_2 {f : Int → Int} {x r k A B : Int} (hx : x = 0 ∨ x = 1) (hr : 0 ≤ r ∧ r ≤ 10) (h : SDB f (99 * x) (99 * (1 - x)) r k) (hk : 0 ≤ k ∧ k < 99) (hA : 0 ≤ A ∧ A ≤ 100000000000 * (10 - r)) (hB : 0 ≤ B ∧ B ≤ 100000000000 * r) : ∀ i, 0 ≤ i → i < 198 → 0 ≤ im_up (im_up f (99 * (1 - x) + k) (f (99 * (1 - x) + k) + A)) (99 * (1 - x) + 0) (im_up f (99 * (1 - x) + k) (f (99 * (1 - x) + k) + A) (99 * (1 - x) + 0) + B) i ∧ im_up (im_up f (99 * (1 - x) + k) (f (99 * (1 - x) + k) + A)) (99 * (1 - x) + 0) (im_up f (99 * (1 - x) + k) (f (99 * (1 - x) + k) + A) (99 * (1 - x) + 0) + B) i ≤ 1000000000000 := by
  intro i q1 q2
  have t0 := h.2 k (by omega) (by omega)
  have tz := h.2 0 (by omega) (by omega)
  rw [if_neg (by omega)] at t0
  rw [if_neg (c := 0 < (0 : Int) ∧ _) (by omega)] at tz
  by_cases cs : 0 ≤ i - 99 * x ∧ i - 99 * x < 99
  · have t := h.1 (i - 99 * x) cs.1 cs.2
    rw [show 99 * x + (i - 99 * x) = i by omega] at t
    unfold im_up
    rw [if_neg (by omega), if_neg (by omega)]
    exact t
  · have t := h.2 (i - 99 * (1 - x)) (by omega) (by omega)
    rw [show 99 * (1 - x) + (i - 99 * (1 - x)) = i by omega] at t
    have t2 : f i ≤ 1000000000000 := by
      refine Int.le_trans t.2 ?_
      split <;> split <;> omega
    unfold im_up
    by_cases c1 : i = 99 * (1 - x) + 0
    · rw [if_pos c1]
      by_cases c2 : k = 0
      · subst c2
        rw [if_pos rfl]
        rw [if_neg (by omega)] at t0
        omega
      · rw [if_neg (by omega)]
        rw [if_pos (by omega)] at tz
        omega
    · rw [if_neg c1]
      by_cases c2 : i = 99 * (1 - x) + k
      · rw [if_pos c2]
        rw [if_pos (by omega)] at t0
        omega
      · rw [if_neg c2]
        exact ⟨t.1, t2⟩
theorem SDB_3 {f : Int → Int} {x r n : Int} (hx : x = 0 ∨ x = 1) (hr : 0 ≤ r ∧ r ≤ 10) (h : SDB f (99 * x) (99 * (1 - x)) r n) : ∀ i, 0 ≤ i → i < 198 → 0 ≤ f i ∧ f i ≤ 1000000000000 := by
  intro i q1 q2
  by_cases cs : 0 ≤ i - 99 * x ∧ i - 99 * x < 99
  · have t := h.1 (i - 99 * x) cs.1 cs.2
    rw [show 99 * x + (i - 99 * x) = i by omega] at t
    exact t
  · have t := h.2 (i - 99 * (1 - x)) (by omega) (by omega)
    rw [show 99 * (1 - x) + (i - 99 * (1 - x)) = i by omega] at t
    refine ⟨t.1, Int.le_trans t.2 ?_⟩
    split <;> split <;> omega
section Sd
variable {ro : ab_R} {T : List im_T} {d : Nat} {v : Nat → Int} {R : Nat → Int → Int} {lv : Nat → Int} {L : Nat → Int → Int} {lw : Option im_T}
set_option maxHeartbeats 8000000 in
theorem m_spreads (hd : 1 ≤ d) (hT : T.length < 1000) {n x : Int} (hn : 0 ≤ n ∧ n ≤ 99) (hx : x = 0 ∨ x = 1) (hr : 0 ≤ R 2 108 ∧ R 2 108 ≤ 10) (hb : ∀ i, 0 ≤ i → i < 99 → 0 ≤ R 19 (99 * x + i) ∧ R 19 (99 * x + i) ≤ 1000000000000) : im_ct ro T d 215 [mr 0, .inl n, .inl x] (MW v R) (fun r w => r = none ∧ ∃ R1, w = MW v R1 ∧ (∀ j, j ≠ 19 → R1 j = R j) ∧ ∀ i, 0 ≤ i → i < 198 → 0 ≤ R1 19 i ∧ R1 19 i ≤ 1000000000000) := by
  obtain ⟨d, rfl⟩ : ∃ e, d = e + 1 := ⟨d - 1, by omega⟩
  refine im_ct_of (own := 9) (ret := none) (code := ab_k_X9_spreads) (nL := 7) (L0 := [some (mr 0), some (.inl n), some (.inl x), none, none, none, none]) (n := 24) rfl rfl rfl rfl rfl rfl rfl rfl rfl ?_
  refine im_g 8 (y := (10, _, _, _)) rfl trivial ?_
  have kb : ∀ (q k : Nat), (k : Int) + q = n → ∀ (Rx : Nat → Int → Int) (x5 : Option im_V), (∀ j, j ≠ 19 → Rx j = R j) → SDB (Rx 19) (99 * x) (99 * (1 - x)) (R 2 108) (k : Int) → im_wp ro (ab_Ev ro ab_codes d) 9 none ab_k_X9_spreads 24 T (fun r w => r = none ∧ ∃ R1, w = MW v R1 ∧ (∀ j, j ≠ 19 → R1 j = R j) ∧ ∀ i, 0 ≤ i → i < 198 → 0 ≤ R1 19 i ∧ R1 19 i ≤ 1000000000000) (36, [some (mr 0), some (.inl n), some (.inl x), some (.inl (99 * (1 - x))), some (.inl (k : Int)), x5, none], [], MW v Rx) := by
    intro q
    induction q with
    | zero =>
      intro k hkn Rx x5 hP hS
      refine im_g 2 (y := (39, _, _, _)) rfl trivial ?_
      refine im_bT rfl rfl ⟨(by omega), (by omega), trivial⟩ (by omega) ?_
      refine im_r rfl rfl trivial rfl ?_
      exact ⟨rfl, Rx, rfl, hP, SDB_3 hx hr hS⟩
    | succ q ih =>
      intro k hkn Rx x5 hP hS
      have hh := hS.1 (k : Int) (by omega) (by omega)
      have e2 : Rx 2 108 = R 2 108 := congrFun (hP 2 (by decide)) 108
      have hs := sd_p (r := Rx 2 108) hh (by omega)
      have hdk := hS.2 (k : Int) (by omega) (by omega)
      have hm := sd_m (k := (k : Int)) (n := n) (by omega) (by omega)
      have hu1 : ∀ i, 0 ≤ i → i < 198 → 0 ≤ Rx 19 i ∧ Rx 19 i ≤ 1000000000000 := SDB_3 hx hr hS
      have hs1 := hs
      rw [e2] at hs1
      have hk0 := hu1 (99 * (1 - x) + (k : Int)) (by omega) (by omega)
      by_cases cl : (k : Int) + 1 = n
      · rw [if_pos cl] at hm
        have hD := SDB_2 (A := (Rx 19 (99 * x + (k : Int)) * (10 - Rx 2 108)).tdiv 10) (B := (Rx 19 (99 * x + (k : Int)) * Rx 2 108).tdiv 10) hx hr hS (by omega) (by rw [e2]; exact hs1.2.2.1) (by rw [e2]; exact hs1.2.2.2)
        have hD0 := hu1 (99 * (1 - x) + 0) (by omega) (by omega)
        refine im_g 2 (y := (39, _, _, _)) rfl trivial ?_
        refine im_bF rfl rfl ⟨(by omega), (by omega), trivial⟩ (by omega) ?_
        refine im_g 53 (y := (36, _, _, _)) rfl ⟨(by omega), (by omega), (by omega), (by omega), (by omega), (by omega), (by omega), (by omega), (by omega), (by omega), (by omega), (by omega), (by omega), (by omega), (by omega), (by omega), (by omega), (by omega), trivial⟩ ?_
        refine im_eqs (y := (36, [some (mr 0), some (.inl n), some (.inl x), some (.inl (99 * (1 - x))), some (.inl ((k : Int) + 1)), some (.inr (.inl (Rx 19 (99 * x + (k : Int))))), none], [], MW v (pl_U Rx 19 (im_up (im_up (Rx 19) (99 * (1 - x) + (k : Int)) (Rx 19 (99 * (1 - x) + (k : Int)) + (Rx 19 (99 * x + (k : Int)) * (10 - Rx 2 108)).tdiv 10)) (99 * (1 - x) + 0) (im_up (Rx 19) (99 * (1 - x) + (k : Int)) (Rx 19 (99 * (1 - x) + (k : Int)) + (Rx 19 (99 * x + (k : Int)) * (10 - Rx 2 108)).tdiv 10) (99 * (1 - x) + 0) + (Rx 19 (99 * x + (k : Int)) * Rx 2 108).tdiv 10))))) (by rw [hm]; rfl) ?_
        refine im_g 2 (y := (39, _, _, _)) rfl trivial ?_
        refine im_bT rfl rfl ⟨(by omega), (by omega), trivial⟩ (by omega) ?_
        refine im_r rfl rfl trivial rfl ?_
        exact ⟨rfl, (pl_U Rx 19 (im_up (im_up (Rx 19) (99 * (1 - x) + (k : Int)) (Rx 19 (99 * (1 - x) + (k : Int)) + (Rx 19 (99 * x + (k : Int)) * (10 - Rx 2 108)).tdiv 10)) (99 * (1 - x) + 0) (im_up (Rx 19) (99 * (1 - x) + (k : Int)) (Rx 19 (99 * (1 - x) + (k : Int)) + (Rx 19 (99 * x + (k : Int)) * (10 - Rx 2 108)).tdiv 10) (99 * (1 - x) + 0) + (Rx 19 (99 * x + (k : Int)) * Rx 2 108).tdiv 10))), rfl, (fun j hj => (if_neg hj).trans (hP j hj)), hD⟩
      · rw [if_neg cl] at hm
        have hD := SDB_1 (A := (Rx 19 (99 * x + (k : Int)) * (10 - Rx 2 108)).tdiv 10) (B := (Rx 19 (99 * x + (k : Int)) * Rx 2 108).tdiv 10) hx hr hS (by omega) (by rw [e2]; exact hs1.2.2.1) (by rw [e2]; exact hs1.2.2.2)
        have hD0 := hu1 (99 * (1 - x) + ((k : Int) + 1)) (by omega) (by omega)
        refine im_g 2 (y := (39, _, _, _)) rfl trivial ?_
        refine im_bF rfl rfl ⟨(by omega), (by omega), trivial⟩ (by omega) ?_
        refine im_g 53 (y := (36, _, _, _)) rfl ⟨(by omega), (by omega), (by omega), (by omega), (by omega), (by omega), (by omega), (by omega), (by omega), (by omega), (by omega), (by omega), (by omega), (by omega), (by omega), (by omega), (by omega), (by omega), trivial⟩ ?_
        refine im_eqs (y := (36, [some (mr 0), some (.inl n), some (.inl x), some (.inl (99 * (1 - x))), some (.inl ((k : Int) + 1)), some (.inr (.inl (Rx 19 (99 * x + (k : Int))))), none], [], MW v (pl_U Rx 19 (im_up (im_up (Rx 19) (99 * (1 - x) + (k : Int)) (Rx 19 (99 * (1 - x) + (k : Int)) + (Rx 19 (99 * x + (k : Int)) * (10 - Rx 2 108)).tdiv 10)) (99 * (1 - x) + ((k : Int) + 1)) (im_up (Rx 19) (99 * (1 - x) + (k : Int)) (Rx 19 (99 * (1 - x) + (k : Int)) + (Rx 19 (99 * x + (k : Int)) * (10 - Rx 2 108)).tdiv 10) (99 * (1 - x) + ((k : Int) + 1)) + (Rx 19 (99 * x + (k : Int)) * Rx 2 108).tdiv 10))))) (by rw [hm]; rfl) ?_
        exact ih (k + 1) (by omega) (pl_U Rx 19 (im_up (im_up (Rx 19) (99 * (1 - x) + (k : Int)) (Rx 19 (99 * (1 - x) + (k : Int)) + (Rx 19 (99 * x + (k : Int)) * (10 - Rx 2 108)).tdiv 10)) (99 * (1 - x) + ((k : Int) + 1)) (im_up (Rx 19) (99 * (1 - x) + (k : Int)) (Rx 19 (99 * (1 - x) + (k : Int)) + (Rx 19 (99 * x + (k : Int)) * (10 - Rx 2 108)).tdiv 10) (99 * (1 - x) + ((k : Int) + 1)) + (Rx 19 (99 * x + (k : Int)) * Rx 2 108).tdiv 10))) _ (fun j hj => (if_neg hj).trans (hP j hj)) hD
  have ka : ∀ (q k : Nat), k + q = 99 → ∀ (Rx : Nat → Int → Int), (∀ j, j ≠ 19 → Rx j = R j) → (∀ i, 0 ≤ i → i < 99 → 0 ≤ Rx 19 (99 * x + i) ∧ Rx 19 (99 * x + i) ≤ 1000000000000) → (∀ i, 0 ≤ i → i < (k : Int) → Rx 19 (99 * (1 - x) + i) = 0) → im_wp ro (ab_Ev ro ab_codes d) 9 none ab_k_X9_spreads 24 T (fun r w => r = none ∧ ∃ R1, w = MW v R1 ∧ (∀ j, j ≠ 19 → R1 j = R j) ∧ ∀ i, 0 ≤ i → i < 198 → 0 ≤ R1 19 i ∧ R1 19 i ≤ 1000000000000) (10, [some (mr 0), some (.inl n), some (.inl x), some (.inl (99 * (1 - x))), some (.inl (k : Int)), none, none], [], MW v Rx) := by
    intro q
    induction q with
    | zero =>
      intro k hk9 Rx hP hS1 hS2
      obtain rfl : k = 99 := by omega
      refine im_g 2 (y := (14, _, _, _)) rfl trivial ?_
      refine im_bT rfl rfl ⟨(by omega), (by omega), trivial⟩ (by omega) ?_
      refine im_g 2 (y := (36, _, _, _)) rfl trivial ?_
      refine kb n.toNat 0 (by omega) Rx none hP ⟨hS1, fun i q1 q2 => ?_⟩
      rw [hS2 i q1 q2, if_neg (by omega), if_neg (by omega)]
      decide
    | succ q ih =>
      intro k hk9 Rx hP hS1 hS2
      refine im_g 2 (y := (14, _, _, _)) rfl trivial ?_
      refine im_bF rfl rfl ⟨(by omega), (by omega), trivial⟩ (by omega) ?_
      refine im_g 9 (y := (10, _, _, _)) rfl ⟨(by omega), trivial⟩ ?_
      refine ih (k + 1) (by omega) (pl_U Rx 19 (im_up (Rx 19) (99 * (1 - x) + (k : Int)) 0)) (fun j hj => (if_neg hj).trans (hP j hj)) (fun i q1 q2 => ?_) (fun i q1 q2 => ?_)
      · show 0 ≤ im_up (Rx 19) _ 0 _ ∧ im_up (Rx 19) _ 0 _ ≤ _
        unfold im_up
        rw [if_neg (by omega)]
        exact hS1 i q1 q2
      · show im_up (Rx 19) _ 0 _ = 0
        unfold im_up
        split
        · rfl
        · exact hS2 i q1 (by omega)
  exact ka 99 0 rfl R (fun _ _ => rfl) hb (fun i q1 q2 => absurd q1 (by omega))
end Sd
