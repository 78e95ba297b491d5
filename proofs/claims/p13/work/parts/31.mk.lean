/-! the reference: copies, parishes, the four acts' beginnings -/
theorem im_cpy_0 (f g : Int → Int) (sp dp : Int) : im_cpy f g sp dp ((0 : Nat) : Int) = g := by
  funext j
  unfold im_cpy
  rw [if_neg (by omega)]
theorem im_cpy_s (f g : Int → Int) (sp dp : Int) (m : Nat) : im_cpy f g sp dp ((m + 1 : Nat) : Int) = im_up (im_cpy f g sp dp (m : Int)) (dp + (m : Int)) (f (sp + (m : Int))) := by
  funext j
  unfold im_cpy im_up
  by_cases h : j = dp + (m : Int)
  · rw [if_pos h, if_pos (by omega)]
    congr 1
    omega
  · rw [if_neg h]
    dsimp only
    by_cases h2 : dp ≤ j ∧ j < dp + (m : Int)
    · rw [if_pos h2, if_pos (by omega)]
    · rw [if_neg h2, if_neg (by omega)]
theorem im_cpy_s0 (f g : Int → Int) (dp : Int) (m : Nat) : im_cpy f g 0 dp ((m + 1 : Nat) : Int) = im_up (im_cpy f g 0 dp (m : Int)) (dp + (m : Int)) (f (m : Int)) := by
  rw [im_cpy_s, Int.zero_add]
theorem im_cpy_sd (f g : Int → Int) (sp : Int) (m : Nat) : im_cpy f g sp 0 ((m + 1 : Nat) : Int) = im_up (im_cpy f g sp 0 (m : Int)) (m : Int) (f (sp + (m : Int))) := by
  rw [im_cpy_s, Int.zero_add]
theorem im_cpy_far {f g : Int → Int} {sp dp m j : Int} (h : dp + m ≤ j) : im_cpy f g sp dp m j = g j := by
  unfold im_cpy
  rw [if_neg (by omega)]
/-- a refusal is counted -/
def kp_ref (x : Int) (R : Nat → Int → Int) : Nat → Int → Int := pl_U R 1 (im_up (R 1) (-x) (R 1 (-x) + 1))
def kp_ad3 (u c : Int) (K : Int → Int) : Int → Int := im_up (im_up (im_up K (71 + K 110) u) (0 + K 110) c) (10 + K 110) 0
def kp_ad4 (u c : Int) (K : Int → Int) : Int → Int := im_up (kp_ad3 u c K) (81 + K 110) (if u = -1 then 0 else kp_ad3 u c K (81 + u) + 1)
def kp_add (u c : Int) (K : Int → Int) : Int → Int := im_up (kp_ad4 u c K) 110 (kp_ad4 u c K 110 + 1)
theorem kp_add_110 (u c : Int) (K : Int → Int) (h : 0 ≤ K 110 ∧ K 110 ≤ 9) : kp_add u c K 110 = K 110 + 1 := by
  unfold kp_add kp_ad4 kp_ad3
  rw [im_up_self, im_up_ne _ _ (by omega), im_up_ne _ _ (by omega), im_up_ne _ _ (by omega), im_up_ne _ _ (by omega)]
def km_parish (u c : Int) (v : Nat → Int) (R : Nat → Int → Int) : Int × (Nat → Int) × (Nat → Int → Int) := if (-1 ≤ u ∧ u ≤ R 2 110 - 1) ∧ (0 ≤ c ∧ c ≤ 999) then (if R 2 110 = 10 then (-5, pl_U v 0 (-5), kp_ref (-5) R) else (R 2 110, pl_U (pl_U v 34 0) 0 0, pl_U R 2 (kp_add u c (R 2)))) else (-1, pl_U v 0 (-1), kp_ref (-1) R)
section Mk
variable {ro : ab_R} {T : List im_T} {d : Nat} {v : Nat → Int} {R : Nat → Int → Int}
set_option maxHeartbeats 8000000 in
theorem m_laysAside (hd : 1 ≤ d) (hT : T.length < 1000) {k : Int} (hk : 0 ≤ k ∧ k ≤ 1) : im_ct ro T d 129 [mr 0, .inl k] (MW v R) (fun r w => r = none ∧ w = MW v (pl_U R 5 (im_cpy (R 2) (R 5) 0 (71 * k) 71))) := by
  obtain ⟨d, rfl⟩ : ∃ e, d = e + 1 := ⟨d - 1, by omega⟩
  refine im_ct_of (own := 9) (ret := none) (code := ab_k_X9_laysAside) (nL := 3) (L0 := [some (mr 0), some (.inl k), none]) (n := 24) rfl rfl rfl rfl rfl rfl rfl rfl rfl ?_
  refine im_g 2 (y := (2, _, _, _)) rfl trivial ?_
  refine im_eqs (y := (2, [some (mr 0), some (.inl k), some (.inl ((0 : Nat) : Int))], [], MW v (pl_U R 5 (im_cpy (R 2) (R 5) (0) (71 * k) ((0 : Nat) : Int))))) (by rw [im_cpy_0]; rfl) ?_
  refine im_for 71 (fun m => (2, [some (mr 0), some (.inl k), some (.inl (m : Int))], [], MW v (pl_U R 5 (im_cpy (R 2) (R 5) (0) (71 * k) (m : Int))))) (fun m hm ih => ?_) ?_
  · refine im_g 2 (y := (5, _, _, _)) rfl trivial ?_
    refine im_bF rfl rfl ⟨(by omega), (by omega), trivial⟩ (by omega) ?_
    refine im_g 14 (y := (2, _, _, _)) rfl ⟨(by omega), (by omega), trivial⟩ ?_
    rw [im_cpy_s0] at ih
    exact ih
  · refine im_g 2 (y := (5, _, _, _)) rfl trivial ?_
    refine im_bT rfl rfl ⟨(by omega), (by omega), trivial⟩ (by omega) ?_
    refine im_r rfl rfl trivial rfl ?_
    exact ⟨rfl, rfl⟩
set_option maxHeartbeats 8000000 in
theorem m_takesBack (hd : 1 ≤ d) (hT : T.length < 1000) {k : Int} (hk : 0 ≤ k ∧ k ≤ 1) : im_ct ro T d 130 [mr 0, .inl k] (MW v R) (fun r w => r = none ∧ w = MW v (pl_U R 2 (im_cpy (R 5) (R 2) (71 * k) 0 71))) := by
  obtain ⟨d, rfl⟩ : ∃ e, d = e + 1 := ⟨d - 1, by omega⟩
  refine im_ct_of (own := 9) (ret := none) (code := ab_k_X9_takesBack) (nL := 3) (L0 := [some (mr 0), some (.inl k), none]) (n := 24) rfl rfl rfl rfl rfl rfl rfl rfl rfl ?_
  refine im_g 2 (y := (2, _, _, _)) rfl trivial ?_
  refine im_eqs (y := (2, [some (mr 0), some (.inl k), some (.inl ((0 : Nat) : Int))], [], MW v (pl_U R 2 (im_cpy (R 5) (R 2) (71 * k) (0) ((0 : Nat) : Int))))) (by rw [im_cpy_0]; rfl) ?_
  refine im_for 71 (fun m => (2, [some (mr 0), some (.inl k), some (.inl (m : Int))], [], MW v (pl_U R 2 (im_cpy (R 5) (R 2) (71 * k) (0) (m : Int))))) (fun m hm ih => ?_) ?_
  · refine im_g 2 (y := (5, _, _, _)) rfl trivial ?_
    refine im_bF rfl rfl ⟨(by omega), (by omega), trivial⟩ (by omega) ?_
    refine im_g 14 (y := (2, _, _, _)) rfl ⟨(by omega), (by omega), trivial⟩ ?_
    rw [im_cpy_sd] at ih
    exact ih
  · refine im_g 2 (y := (5, _, _, _)) rfl trivial ?_
    refine im_bT rfl rfl ⟨(by omega), (by omega), trivial⟩ (by omega) ?_
    refine im_r rfl rfl trivial rfl ?_
    exact ⟨rfl, rfl⟩
set_option maxHeartbeats 8000000 in
theorem m_settled (hd : 2 ≤ d) (hT : T.length < 1000) {x : Int} : im_ct ro T d 126 [mr 0, .inl x] (MW v R) (fun r w => r = some (.inl x) ∧ w = MW (pl_U (pl_U v 34 0) 0 0) R) := by
  obtain ⟨d, rfl⟩ : ∃ e, d = e + 1 := ⟨d - 1, by omega⟩
  refine im_ct_of (own := 9) (ret := (some .int)) (code := ab_k_X9_settled) (nL := 2) (L0 := [some (mr 0), some (.inl x)]) (n := 24) rfl rfl rfl rfl rfl rfl rfl rfl rfl ?_
  refine im_g 5 (y := (7, _, _, _)) rfl trivial ?_
  refine im_cM rfl rfl (m_good (v := pl_U v 34 0) (R := R) (x := x) (by omega) hT) rfl hT (fun v1 w1 hq => ?_)
  obtain ⟨rfl, rfl⟩ := hq
  refine ⟨(pl_U (pl_U v 34 0) 0 0), R, rfl, rfl, ?_⟩
  refine im_r rfl rfl trivial rfl ?_
  exact ⟨rfl, rfl⟩
set_option maxHeartbeats 8000000 in
theorem m_isParish (hd : 2 ≤ d) (hT : T.length < 1000) {p : Int} (hp : im_ir p) (h1 : 0 ≤ R 2 110 ∧ R 2 110 ≤ 10) : im_ct ro T d 133 [mr 0, .inl p] (MW v R) (fun r w => r = some (.inl (if 0 ≤ p ∧ p ≤ R 2 110 - 1 then 1 else 0)) ∧ w = MW v R) := by
  obtain ⟨d, rfl⟩ : ∃ e, d = e + 1 := ⟨d - 1, by omega⟩
  refine im_ct_of (own := 9) (ret := (some .boolean)) (code := ab_k_X9_isParish) (nL := 2) (L0 := [some (mr 0), some (.inl p)]) (n := 24) rfl rfl rfl rfl rfl rfl rfl rfl rfl ?_
  refine im_g 8 (y := (11, _, _, _)) rfl ⟨(by omega), trivial⟩ ?_
  refine im_call [] rfl rfl (m_lies (x := p) (a := 0) (b := R 2 110 - 1) (by omega) hT (by omega) (by omega) (by omega)) rfl rfl rfl (by decide) rfl (by decide) hT (fun v1 w1 hq => ?_)
  obtain ⟨rfl, rfl⟩ := hq
  refine ⟨_, _, MW v R, rfl, rfl, rfl, ?_⟩
  refine im_r rfl rfl ⟨(by omega), trivial⟩ rfl ?_
  exact ⟨rfl, rfl⟩
set_option maxHeartbeats 8000000 in
theorem m_canParish (hd : 2 ≤ d) (hT : T.length < 1000) {p c : Int} (hp : im_ir p) (hc : im_ir c) (h1 : 0 ≤ R 2 110 ∧ R 2 110 ≤ 10) : im_ct ro T d 134 [mr 0, .inl p, .inl c] (MW v R) (fun r w => r = some (.inl (if (-1 ≤ p ∧ p ≤ R 2 110 - 1) ∧ (0 ≤ c ∧ c ≤ 999) then 1 else 0)) ∧ w = MW v R) := by
  obtain ⟨d, rfl⟩ : ∃ e, d = e + 1 := ⟨d - 1, by omega⟩
  refine im_ct_of (own := 9) (ret := (some .boolean)) (code := ab_k_X9_canParish) (nL := 3) (L0 := [some (mr 0), some (.inl p), some (.inl c)]) (n := 24) rfl rfl rfl rfl rfl rfl rfl rfl rfl ?_
  refine im_g 8 (y := (11, _, _, _)) rfl ⟨(by omega), trivial⟩ ?_
  refine im_call [] rfl rfl (m_lies (x := p) (a := -1) (b := R 2 110 - 1) (by omega) hT (by omega) (by omega) (by omega)) rfl rfl rfl (by decide) rfl (by decide) hT (fun v1 w1 hq => ?_)
  obtain ⟨rfl, rfl⟩ := hq
  refine ⟨_, _, MW v R, rfl, rfl, rfl, ?_⟩
  refine im_b rfl rfl ⟨(by omega), trivial⟩ (fun j1 => ?_) (fun j1 => ?_)
  · refine im_g 1 (y := (33, _, _, _)) rfl trivial ?_
    refine im_r rfl rfl ⟨(by omega), trivial⟩ rfl ?_
    rw [if_neg (by omega)]
    exact ⟨rfl, rfl⟩
  · refine im_g 3 (y := (22, _, _, _)) rfl trivial ?_
    refine im_call [] rfl rfl (m_lies (x := c) (a := 0) (b := 999) (by omega) hT (by omega) (by omega) (by omega)) rfl rfl rfl (by decide) rfl (by decide) hT (fun v1 w1 hq => ?_)
    obtain ⟨rfl, rfl⟩ := hq
    refine ⟨_, _, MW v R, rfl, rfl, rfl, ?_⟩
    refine im_b rfl rfl ⟨(by omega), trivial⟩ (fun j2 => ?_) (fun j2 => ?_)
    · refine im_g 1 (y := (33, _, _, _)) rfl trivial ?_
      refine im_r rfl rfl ⟨(by omega), trivial⟩ rfl ?_
      rw [if_neg (by omega)]
      exact ⟨rfl, rfl⟩
    · refine im_g 2 (y := (33, _, _, _)) rfl trivial ?_
      refine im_r rfl rfl ⟨(by omega), trivial⟩ rfl ?_
      rw [if_pos (by omega)]
      exact ⟨rfl, rfl⟩
set_option maxHeartbeats 8000000 in
theorem m_addsParish (hd : 1 ≤ d) (hT : T.length < 1000) {u c : Int} (hu : -1 ≤ u ∧ u < R 2 110) (h1 : 0 ≤ R 2 110 ∧ R 2 110 ≤ 9) : im_ct ro T d 135 [mr 0, .inl u, .inl c] (MW v R) (fun r w => r = none ∧ w = MW v (pl_U R 2 (kp_add u c (R 2)))) := by
  obtain ⟨d, rfl⟩ : ∃ e, d = e + 1 := ⟨d - 1, by omega⟩
  refine im_ct_of (own := 9) (ret := none) (code := ab_k_X9_addsParish) (nL := 4) (L0 := [some (mr 0), some (.inl u), some (.inl c), none]) (n := 24) rfl rfl rfl rfl rfl rfl rfl rfl rfl ?_
  refine im_g 33 (y := (47, _, _, _)) rfl ⟨(by omega), (by omega), (by omega), (by omega), trivial⟩ ?_
  refine im_b rfl rfl ⟨(by omega), (by omega), trivial⟩ (fun j1 => ?_) (fun j1 => ?_)
  · refine im_g 17 (y := (77, _, _, _)) rfl ⟨(by omega), (by omega), (by omega), (by omega), trivial⟩ ?_
    refine im_r rfl rfl trivial rfl ?_
    have e : kp_ad4 u c (R 2) = im_up (kp_ad3 u c (R 2)) (81 + R 2 110) (kp_ad3 u c (R 2) (81 + u) + 1) := by
      unfold kp_ad4
      rw [if_neg (by omega)]
    unfold kp_add
    rw [e]
    exact ⟨rfl, rfl⟩
  · refine im_g 11 (y := (77, _, _, _)) rfl ⟨(by omega), (by omega), (by omega), trivial⟩ ?_
    refine im_r rfl rfl trivial rfl ?_
    have e : kp_ad4 u c (R 2) = im_up (kp_ad3 u c (R 2)) (81 + R 2 110) (0) := by
      unfold kp_ad4
      rw [if_pos (by omega)]
    unfold kp_add
    rw [e]
    exact ⟨rfl, rfl⟩
set_option maxHeartbeats 8000000 in
theorem m_parish (hd : 3 ≤ d) (hT : T.length < 1000) {u c : Int} (hu : im_ir u) (hc : im_ir c) (h1 : 0 ≤ R 2 110 ∧ R 2 110 ≤ 10) : im_ct ro T d 136 [mr 0, .inl u, .inl c] (MW v R) (fun r w => r = some (.inl (km_parish u c v R).1) ∧ w = MW (km_parish u c v R).2.1 (km_parish u c v R).2.2) := by
  obtain ⟨d, rfl⟩ : ∃ e, d = e + 1 := ⟨d - 1, by omega⟩
  refine im_ct_of (own := 9) (ret := (some .int)) (code := ab_k_X9_parish) (nL := 3) (L0 := [some (mr 0), some (.inl u), some (.inl c)]) (n := 24) rfl rfl rfl rfl rfl rfl rfl rfl rfl ?_
  refine im_g 3 (y := (3, _, _, _)) rfl trivial ?_
  refine im_cM rfl rfl (m_canParish (v := v) (R := R) (p := u) (c := c) (by omega) hT hu hc h1) rfl hT (fun v1 w1 hq => ?_)
  obtain ⟨rfl, rfl⟩ := hq
  refine ⟨v, R, rfl, rfl, ?_⟩
  refine im_b rfl rfl ⟨(by omega), trivial⟩ (fun j1 => ?_) (fun j1 => ?_)
  · refine im_g 5 (y := (24, _, _, _)) rfl ⟨(by omega), trivial⟩ ?_
    refine im_b rfl rfl ⟨(by omega), (by omega), trivial⟩ (fun j2 => ?_) (fun j2 => ?_)
    · refine im_g 3 (y := (37, _, _, _)) rfl trivial ?_
      refine im_cM rfl rfl (m_addsParish (v := v) (R := R) (u := u) (c := c) (by omega) hT (by omega) (by omega)) rfl hT (fun v1 w1 hq => ?_)
      obtain ⟨rfl, rfl⟩ := hq
      refine ⟨v, (pl_U R 2 (kp_add u c (R 2))), rfl, rfl, ?_⟩
      have e1 := kp_add_110 u c (R 2) (by omega)
      refine im_g 7 (y := (50, _, _, _)) rfl ⟨(by omega), trivial⟩ ?_
      refine im_cM rfl rfl (m_settled (v := v) (R := pl_U R 2 (kp_add u c (R 2))) (x := kp_add u c (R 2) 110 - 1) (by omega) hT) rfl hT (fun v1 w1 hq => ?_)
      obtain ⟨rfl, rfl⟩ := hq
      refine ⟨(pl_U (pl_U v 34 0) 0 0), (pl_U R 2 (kp_add u c (R 2))), rfl, rfl, ?_⟩
      refine im_r rfl rfl trivial rfl ?_
      unfold km_parish
      rw [if_pos (by omega), if_neg (by omega)]
      exact ⟨congrArg (fun z => some (Sum.inl z)) (by omega), rfl⟩
    · refine im_g 2 (y := (30, _, _, _)) rfl trivial ?_
      refine im_cM rfl rfl (m_refuses (v := v) (R := R) (x := -5) (by omega) hT (by decide)) rfl hT (fun v1 w1 hq => ?_)
      obtain ⟨rfl, rfl⟩ := hq
      refine ⟨(pl_U v 0 (-5)), (kp_ref (-5) R), rfl, rfl, ?_⟩
      refine im_r rfl rfl trivial rfl ?_
      unfold km_parish
      rw [if_pos (by omega), if_pos (by omega)]
      exact ⟨rfl, rfl⟩
  · refine im_g 2 (y := (11, _, _, _)) rfl trivial ?_
    refine im_cM rfl rfl (m_refuses (v := v) (R := R) (x := -1) (by omega) hT (by decide)) rfl hT (fun v1 w1 hq => ?_)
    obtain ⟨rfl, rfl⟩ := hq
    refine ⟨(pl_U v 0 (-1)), (kp_ref (-1) R), rfl, rfl, ?_⟩
    refine im_r rfl rfl trivial rfl ?_
    unfold km_parish
    rw [if_neg (by omega)]
    exact ⟨rfl, rfl⟩
end Mk
