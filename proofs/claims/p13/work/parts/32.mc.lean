/-! the reference: terms, images, what is heard, undone -/
def ti_ok (what x : Int) : Bool := decide ((what = 0 ∧ 0 ≤ x ∧ x ≤ 999) ∨ (what = 1 ∧ 2 ≤ x ∧ x ≤ 99) ∨ (what = 2 ∧ 0 ≤ x ∧ x ≤ 10) ∨ (what = 3 ∧ 0 ≤ x ∧ x ≤ 9))
abbrev km_Q : Type := Int × (Nat → Int) × (Nat → Int → Int)
def km_refu (x : Int) (v : Nat → Int) (R : Nat → Int → Int) : km_Q := (x, pl_U v 0 x, kp_ref x R)
def ti_at (what : Int) : Int := if what = 0 then 70 else 107 + what - 1
def km_terms (what x : Int) (v : Nat → Int) (R : Nat → Int → Int) : km_Q := if ti_ok what x = true then (R 2 (ti_at what), pl_U (pl_U v 34 0) 0 0, pl_U R 2 (im_up (R 2) (ti_at what) x)) else km_refu (-1) v R
def km_image (k : Int) (v : Nat → Int) (R : Nat → Int → Int) : km_Q := if 0 ≤ k ∧ k ≤ 1 then (0, pl_U v 0 0, pl_U (pl_U R 3 (im_cpy (R 2) (R 3) 0 (5721 * k) 5721)) 4 (im_up (R 4) k 1)) else km_refu (-1) v R
def km_back (k : Int) (v : Nat → Int) (R : Nat → Int → Int) : km_Q := if 0 ≤ k ∧ k ≤ 1 then (if R 4 k = 0 then km_refu (-2) v R else (0, pl_U (pl_U v 34 0) 0 0, pl_U R 2 (im_cpy (R 3) (R 2) (5721 * k) 0 5721))) else km_refu (-1) v R
def kp_hear (p x : Int) (K : Int → Int) : Int → Int := im_up (im_up (im_up K (91 + 2 * K 111) p) (91 + 2 * K 111 + 1) x) 111 (im_up (im_up K (91 + 2 * K 111) p) (91 + 2 * K 111 + 1) x 111 + 1)
def km_hear (p x : Int) (v : Nat → Int) (R : Nat → Int → Int) : km_Q := if 0 ≤ x ∧ x ≤ 98 then (if 0 ≤ p ∧ p ≤ R 2 110 - 1 then (if R 2 111 = 8 then km_refu (-5) v R else (R 2 111 + 1, pl_U v 0 0, pl_U R 2 (kp_hear p x (R 2)))) else km_refu (-2) v R) else km_refu (-1) v R
def km_force (k : Int) (v : Nat → Int) (R : Nat → Int → Int) : km_Q := if -1 ≤ k ∧ k ≤ R 2 112 - 1 then (R 2 113, pl_U v 0 0, pl_U R 2 (im_up (R 2) 113 k)) else km_refu (-2) v R
def km_undo (v : Nat → Int) (R : Nat → Int → Int) : km_Q := if v 34 = 0 then km_refu (-3) v R else (R 14 (72 * (v 34 - 1) + 71), pl_U (pl_U v 34 (v 34 - 1)) 0 0, pl_U R 2 (im_cpy (R 14) (R 2) (72 * (v 34 - 1)) 0 71))
theorem ti_iff {what x : Int} : ti_ok what x = true ↔ ((what = 0 ∧ 0 ≤ x ∧ x ≤ 999) ∨ (what = 1 ∧ 2 ≤ x ∧ x ≤ 99) ∨ (what = 2 ∧ 0 ≤ x ∧ x ≤ 10) ∨ (what = 3 ∧ 0 ≤ x ∧ x ≤ 9)) := by
  unfold ti_ok
  rw [decide_eq_true_eq]
section Mc
variable {ro : ab_R} {T : List im_T} {d : Nat} {v : Nat → Int} {R : Nat → Int → Int}
set_option maxHeartbeats 8000000 in
theorem m_isTerm (hd : 2 ≤ d) (hT : T.length < 1000) {what x : Int} (hw : im_ir what) (hx : im_ir x) : im_ct ro T d 140 [.inl what, .inl x] ([]) (fun r w => r = some (.inl (if ti_ok what x = true then 1 else 0)) ∧ w = []) := by
  obtain ⟨d, rfl⟩ : ∃ e, d = e + 1 := ⟨d - 1, by omega⟩
  refine im_ct_of (own := 9) (ret := (some .boolean)) (code := ab_k_X9_isTerm) (nL := 2) (L0 := [some (.inl what), some (.inl x)]) (n := 0) rfl rfl rfl rfl rfl rfl rfl rfl rfl ?_
  refine im_g 1 (y := (1, _, _, _)) rfl trivial ?_
  have hk : what = 0 ∨ what = 1 ∨ what = 2 ∨ what = 3 ∨ (what < 0 ∨ 3 < what) := by omega
  rcases hk with rfl | rfl | rfl | rfl | hk
  · refine im_sw (tgt := 32) rfl (by decide) (by decide) (Or.inr ⟨_, rfl, by decide⟩) (by decide) ?_
    refine im_g 3 (y := (37, _, _, _)) rfl trivial ?_
    refine im_call [] rfl rfl (m_lies (x := x) (a := 0) (b := 999) (by omega) hT (by omega) (by omega) (by omega)) rfl rfl rfl (by decide) rfl (by decide) hT (fun v1 w1 hq => ?_)
    obtain ⟨rfl, rfl⟩ := hq
    refine ⟨_, _, [], rfl, rfl, rfl, ?_⟩
    refine im_r rfl rfl ⟨(by omega), trivial⟩ rfl ?_
    exact ⟨congrArg (fun z => some (Sum.inl z)) (by by_cases hh : (0 ≤ x ∧ x ≤ 999); rw [if_pos hh, if_pos (by rw [ti_iff]; omega)]; rw [if_neg hh, if_neg (by rw [ti_iff]; omega)]), rfl⟩
  · refine im_sw (tgt := 41) rfl (by decide) (by decide) (Or.inr ⟨_, rfl, by decide⟩) (by decide) ?_
    refine im_g 3 (y := (45, _, _, _)) rfl trivial ?_
    refine im_call [] rfl rfl (m_lies (x := x) (a := 2) (b := 99) (by omega) hT (by omega) (by omega) (by omega)) rfl rfl rfl (by decide) rfl (by decide) hT (fun v1 w1 hq => ?_)
    obtain ⟨rfl, rfl⟩ := hq
    refine ⟨_, _, [], rfl, rfl, rfl, ?_⟩
    refine im_r rfl rfl ⟨(by omega), trivial⟩ rfl ?_
    exact ⟨congrArg (fun z => some (Sum.inl z)) (by by_cases hh : (2 ≤ x ∧ x ≤ 99); rw [if_pos hh, if_pos (by rw [ti_iff]; omega)]; rw [if_neg hh, if_neg (by rw [ti_iff]; omega)]), rfl⟩
  · refine im_sw (tgt := 49) rfl (by decide) (by decide) (Or.inr ⟨_, rfl, by decide⟩) (by decide) ?_
    refine im_g 3 (y := (53, _, _, _)) rfl trivial ?_
    refine im_call [] rfl rfl (m_lies (x := x) (a := 0) (b := 10) (by omega) hT (by omega) (by omega) (by omega)) rfl rfl rfl (by decide) rfl (by decide) hT (fun v1 w1 hq => ?_)
    obtain ⟨rfl, rfl⟩ := hq
    refine ⟨_, _, [], rfl, rfl, rfl, ?_⟩
    refine im_r rfl rfl ⟨(by omega), trivial⟩ rfl ?_
    exact ⟨congrArg (fun z => some (Sum.inl z)) (by by_cases hh : (0 ≤ x ∧ x ≤ 10); rw [if_pos hh, if_pos (by rw [ti_iff]; omega)]; rw [if_neg hh, if_neg (by rw [ti_iff]; omega)]), rfl⟩
  · refine im_sw (tgt := 57) rfl (by decide) (by decide) (Or.inr ⟨_, rfl, by decide⟩) (by decide) ?_
    refine im_g 3 (y := (61, _, _, _)) rfl trivial ?_
    refine im_call [] rfl rfl (m_lies (x := x) (a := 0) (b := 9) (by omega) hT (by omega) (by omega) (by omega)) rfl rfl rfl (by decide) rfl (by decide) hT (fun v1 w1 hq => ?_)
    obtain ⟨rfl, rfl⟩ := hq
    refine ⟨_, _, [], rfl, rfl, rfl, ?_⟩
    refine im_r rfl rfl ⟨(by omega), trivial⟩ rfl ?_
    exact ⟨congrArg (fun z => some (Sum.inl z)) (by by_cases hh : (0 ≤ x ∧ x ≤ 9); rw [if_pos hh, if_pos (by rw [ti_iff]; omega)]; rw [if_neg hh, if_neg (by rw [ti_iff]; omega)]), rfl⟩
  · refine im_sw (tgt := 65) rfl (by omega) (by decide) (Or.inl hk) (by unfold im_ts; rw [if_pos hk]; rfl) ?_
    refine im_g 1 (y := (66, _, _, _)) rfl trivial ?_
    refine im_r rfl rfl ⟨(by omega), trivial⟩ rfl ?_
    rw [if_neg (by rw [ti_iff]; omega)]
    exact ⟨rfl, rfl⟩
set_option maxHeartbeats 8000000 in
theorem m_terms (hd : 3 ≤ d) (hT : T.length < 1000) {what x : Int} (hw : im_ir what) (hx : im_ir x) : im_ct ro T d 141 [mr 0, .inl what, .inl x] (MW v R) (fun r w => r = some (.inl (km_terms what x v R).1) ∧ w = MW (km_terms what x v R).2.1 (km_terms what x v R).2.2) := by
  obtain ⟨d, rfl⟩ : ∃ e, d = e + 1 := ⟨d - 1, by omega⟩
  refine im_ct_of (own := 9) (ret := (some .int)) (code := ab_k_X9_terms) (nL := 5) (L0 := [some (mr 0), some (.inl what), some (.inl x), none, none]) (n := 24) rfl rfl rfl rfl rfl rfl rfl rfl rfl ?_
  refine im_g 2 (y := (2, _, _, _)) rfl trivial ?_
  refine im_call [] rfl rfl (m_isTerm (what := what) (x := x) (by omega) hT hw hx) rfl rfl rfl (by decide) rfl (by decide) hT (fun v1 w1 hq => ?_)
  obtain ⟨rfl, rfl⟩ := hq
  refine ⟨_, _, MW v R, rfl, rfl, rfl, ?_⟩
  refine im_b rfl rfl ⟨(by omega), trivial⟩ (fun j1 => ?_) (fun j1 => ?_)
  · have c5 : ti_ok what x = true := by
      by_cases hh : ti_ok what x = true
      · exact hh
      · rw [if_neg hh] at j1; exact absurd rfl j1
    clear j1
    refine im_g 1 (y := (15, _, _, _)) rfl trivial ?_
    have hr := c5
    rw [ti_iff] at hr
    refine im_b rfl rfl ⟨(by omega), trivial⟩ (fun j2 => ?_) (fun j2 => ?_)
    · refine im_g 18 (y := (48, _, _, _)) rfl ⟨(by omega), (by omega), trivial⟩ ?_
      refine im_cM rfl rfl (m_settled (v := v) (R := (pl_U R 2 (im_up (R 2) (107 + what - 1) x))) (x := R 2 (107 + what - 1)) (by omega) hT) rfl hT (fun v1 w1 hq => ?_)
      obtain ⟨rfl, rfl⟩ := hq
      refine ⟨(pl_U (pl_U v 34 0) 0 0), (pl_U R 2 (im_up (R 2) (107 + what - 1) x)), rfl, rfl, ?_⟩
      refine im_r rfl rfl trivial rfl ?_
      unfold km_terms
      rw [if_pos c5]
      have e : ti_at what = (107 + what - 1) := if_neg (by omega)
      rw [e]
      exact ⟨rfl, rfl⟩
    · refine im_g 15 (y := (48, _, _, _)) rfl ⟨(by omega), (by omega), trivial⟩ ?_
      refine im_cM rfl rfl (m_settled (v := v) (R := (pl_U R 2 (im_up (R 2) 70 x))) (x := R 2 70) (by omega) hT) rfl hT (fun v1 w1 hq => ?_)
      obtain ⟨rfl, rfl⟩ := hq
      refine ⟨(pl_U (pl_U v 34 0) 0 0), (pl_U R 2 (im_up (R 2) 70 x)), rfl, rfl, ?_⟩
      refine im_r rfl rfl trivial rfl ?_
      unfold km_terms
      rw [if_pos c5]
      have e : ti_at what = 70 := if_pos (by omega)
      rw [e]
      exact ⟨rfl, rfl⟩
  · have c5 : ¬ (ti_ok what x = true) := by
      intro hh
      rw [if_pos hh] at j1
      exact j1 (by decide)
    clear j1
    refine im_g 2 (y := (10, _, _, _)) rfl trivial ?_
    refine im_cM rfl rfl (m_refuses (v := v) (R := R) (x := -1) (by omega) hT (by decide)) rfl hT (fun v1 w1 hq => ?_)
    obtain ⟨rfl, rfl⟩ := hq
    refine ⟨(pl_U v 0 (-1)), (kp_ref (-1) R), rfl, rfl, ?_⟩
    refine im_r rfl rfl trivial rfl ?_
    unfold km_terms
    rw [if_neg c5]
    exact ⟨rfl, rfl⟩
set_option maxHeartbeats 8000000 in
theorem m_image (hd : 2 ≤ d) (hT : T.length < 1000) {k : Int} (hk : im_ir k) : im_ct ro T d 131 [mr 0, .inl k] (MW v R) (fun r w => r = some (.inl (km_image k v R).1) ∧ w = MW (km_image k v R).2.1 (km_image k v R).2.2) := by
  obtain ⟨d, rfl⟩ : ∃ e, d = e + 1 := ⟨d - 1, by omega⟩
  refine im_ct_of (own := 9) (ret := (some .int)) (code := ab_k_X9_image) (nL := 3) (L0 := [some (mr 0), some (.inl k), none]) (n := 24) rfl rfl rfl rfl rfl rfl rfl rfl rfl ?_
  refine im_g 3 (y := (3, _, _, _)) rfl trivial ?_
  refine im_call [] rfl rfl (m_lies (x := k) (a := 0) (b := 1) (by omega) hT (by omega) (by omega) (by omega)) rfl rfl rfl (by decide) rfl (by decide) hT (fun v1 w1 hq => ?_)
  obtain ⟨rfl, rfl⟩ := hq
  refine ⟨_, _, MW v R, rfl, rfl, rfl, ?_⟩
  refine im_b rfl rfl ⟨(by omega), trivial⟩ (fun j1 => ?_) (fun j1 => ?_)
  · have c6 : 0 ≤ k ∧ k ≤ 1 := by
      by_cases hh : 0 ≤ k ∧ k ≤ 1
      · exact hh
      · rw [if_neg hh] at j1; exact absurd rfl j1
    clear j1
    refine im_g 2 (y := (17, _, _, _)) rfl trivial ?_
    refine im_eqs (y := (17, [some (mr 0), some (.inl k), some (.inl ((0 : Nat) : Int))], [], MW v (pl_U R 3 (im_cpy (R 2) (R 3) (0) (5721 * k) ((0 : Nat) : Int))))) (by rw [im_cpy_0]; rfl) ?_
    refine im_for 5721 (fun m => (17, [some (mr 0), some (.inl k), some (.inl (m : Int))], [], MW v (pl_U R 3 (im_cpy (R 2) (R 3) (0) (5721 * k) (m : Int))))) (fun m hm ih => ?_) ?_
    · refine im_g 2 (y := (21, _, _, _)) rfl trivial ?_
      refine im_bF rfl rfl ⟨(by omega), (by omega), trivial⟩ (by omega) ?_
      refine im_g 14 (y := (17, _, _, _)) rfl ⟨(by omega), (by omega), trivial⟩ ?_
      rw [im_cpy_s0] at ih
      exact ih
    · refine im_g 2 (y := (21, _, _, _)) rfl trivial ?_
      refine im_bT rfl rfl ⟨(by omega), (by omega), trivial⟩ (by omega) ?_
      refine im_g 7 (y := (57, _, _, _)) rfl ⟨(by omega), (by omega), trivial⟩ ?_
      refine im_cM rfl rfl (m_good (v := v) (R := (pl_U (pl_U R 3 (im_cpy (R 2) (R 3) 0 (5721 * k) 5721)) 4 (im_up (R 4) k 1))) (x := 0) (by omega) hT) rfl hT (fun v1 w1 hq => ?_)
      obtain ⟨rfl, rfl⟩ := hq
      refine ⟨(pl_U v 0 0), (pl_U (pl_U R 3 (im_cpy (R 2) (R 3) 0 (5721 * k) 5721)) 4 (im_up (R 4) k 1)), rfl, rfl, ?_⟩
      refine im_r rfl rfl trivial rfl ?_
      unfold km_image
      rw [if_pos c6]
      exact ⟨rfl, rfl⟩
  · have c6 : ¬ (0 ≤ k ∧ k ≤ 1) := by
      intro hh
      rw [if_pos hh] at j1
      exact j1 (by decide)
    clear j1
    refine im_g 2 (y := (11, _, _, _)) rfl trivial ?_
    refine im_cM rfl rfl (m_refuses (v := v) (R := R) (x := -1) (by omega) hT (by decide)) rfl hT (fun v1 w1 hq => ?_)
    obtain ⟨rfl, rfl⟩ := hq
    refine ⟨(pl_U v 0 (-1)), (kp_ref (-1) R), rfl, rfl, ?_⟩
    refine im_r rfl rfl trivial rfl ?_
    unfold km_image
    rw [if_neg c6]
    exact ⟨rfl, rfl⟩
set_option maxHeartbeats 8000000 in
theorem m_back (hd : 3 ≤ d) (hT : T.length < 1000) {k : Int} (hk : im_ir k) (hi : ∀ j, 0 ≤ R 4 j ∧ R 4 j ≤ 1) : im_ct ro T d 132 [mr 0, .inl k] (MW v R) (fun r w => r = some (.inl (km_back k v R).1) ∧ w = MW (km_back k v R).2.1 (km_back k v R).2.2) := by
  obtain ⟨d, rfl⟩ : ∃ e, d = e + 1 := ⟨d - 1, by omega⟩
  refine im_ct_of (own := 9) (ret := (some .int)) (code := ab_k_X9_back) (nL := 3) (L0 := [some (mr 0), some (.inl k), none]) (n := 24) rfl rfl rfl rfl rfl rfl rfl rfl rfl ?_
  refine im_g 3 (y := (3, _, _, _)) rfl trivial ?_
  refine im_call [] rfl rfl (m_lies (x := k) (a := 0) (b := 1) (by omega) hT (by omega) (by omega) (by omega)) rfl rfl rfl (by decide) rfl (by decide) hT (fun v1 w1 hq => ?_)
  obtain ⟨rfl, rfl⟩ := hq
  refine ⟨_, _, MW v R, rfl, rfl, rfl, ?_⟩
  refine im_b rfl rfl ⟨(by omega), trivial⟩ (fun j1 => ?_) (fun j1 => ?_)
  · have c6 : 0 ≤ k ∧ k ≤ 1 := by
      by_cases hh : 0 ≤ k ∧ k ≤ 1
      · exact hh
      · rw [if_neg hh] at j1; exact absurd rfl j1
    clear j1
    have hik := hi k
    refine im_g 4 (y := (21, _, _, _)) rfl ⟨(by omega), trivial⟩ ?_
    refine im_b rfl rfl ⟨(by omega), trivial⟩ (fun j2 => ?_) (fun j2 => ?_)
    · refine im_g 2 (y := (33, _, _, _)) rfl trivial ?_
      refine im_eqs (y := (33, [some (mr 0), some (.inl k), some (.inl ((0 : Nat) : Int))], [], MW v (pl_U R 2 (im_cpy (R 3) (R 2) (5721 * k) (0) ((0 : Nat) : Int))))) (by rw [im_cpy_0]; rfl) ?_
      refine im_for 5721 (fun m => (33, [some (mr 0), some (.inl k), some (.inl (m : Int))], [], MW v (pl_U R 2 (im_cpy (R 3) (R 2) (5721 * k) (0) (m : Int))))) (fun m hm ih => ?_) ?_
      · refine im_g 2 (y := (37, _, _, _)) rfl trivial ?_
        refine im_bF rfl rfl ⟨(by omega), (by omega), trivial⟩ (by omega) ?_
        refine im_g 14 (y := (33, _, _, _)) rfl ⟨(by omega), (by omega), trivial⟩ ?_
        rw [im_cpy_sd] at ih
        exact ih
      · refine im_g 2 (y := (37, _, _, _)) rfl trivial ?_
        refine im_bT rfl rfl ⟨(by omega), (by omega), trivial⟩ (by omega) ?_
        refine im_g 2 (y := (66, _, _, _)) rfl trivial ?_
        refine im_cM rfl rfl (m_settled (v := v) (R := (pl_U R 2 (im_cpy (R 3) (R 2) (5721 * k) 0 5721))) (x := 0) (by omega) hT) rfl hT (fun v1 w1 hq => ?_)
        obtain ⟨rfl, rfl⟩ := hq
        refine ⟨(pl_U (pl_U v 34 0) 0 0), (pl_U R 2 (im_cpy (R 3) (R 2) (5721 * k) 0 5721)), rfl, rfl, ?_⟩
        refine im_r rfl rfl trivial rfl ?_
        unfold km_back
        rw [if_pos c6, if_neg (by omega)]
        exact ⟨rfl, rfl⟩
    · refine im_g 2 (y := (27, _, _, _)) rfl trivial ?_
      refine im_cM rfl rfl (m_refuses (v := v) (R := R) (x := -2) (by omega) hT (by decide)) rfl hT (fun v1 w1 hq => ?_)
      obtain ⟨rfl, rfl⟩ := hq
      refine ⟨(pl_U v 0 (-2)), (kp_ref (-2) R), rfl, rfl, ?_⟩
      refine im_r rfl rfl trivial rfl ?_
      unfold km_back
      rw [if_pos c6, if_pos (by omega)]
      exact ⟨rfl, rfl⟩
  · have c6 : ¬ (0 ≤ k ∧ k ≤ 1) := by
      intro hh
      rw [if_pos hh] at j1
      exact j1 (by decide)
    clear j1
    refine im_g 2 (y := (11, _, _, _)) rfl trivial ?_
    refine im_cM rfl rfl (m_refuses (v := v) (R := R) (x := -1) (by omega) hT (by decide)) rfl hT (fun v1 w1 hq => ?_)
    obtain ⟨rfl, rfl⟩ := hq
    refine ⟨(pl_U v 0 (-1)), (kp_ref (-1) R), rfl, rfl, ?_⟩
    refine im_r rfl rfl trivial rfl ?_
    unfold km_back
    rw [if_neg c6]
    exact ⟨rfl, rfl⟩
set_option maxHeartbeats 8000000 in
theorem m_end (hd : 2 ≤ d) (hT : T.length < 1000) {n : Int} (hn : im_ir n) (h1 : 0 ≤ v 13 ∧ v 13 ≤ 400) : im_ct ro T d 145 [mr 0, .inl n] (MW v R) (fun r w => r = some (.inl (if 0 ≤ n ∧ n ≤ v 13 then n else -1)) ∧ w = MW (if 0 ≤ n ∧ n ≤ v 13 then pl_U v 13 n else v) R) := by
  obtain ⟨d, rfl⟩ : ∃ e, d = e + 1 := ⟨d - 1, by omega⟩
  refine im_ct_of (own := 9) (ret := (some .int)) (code := ab_k_X9_end) (nL := 2) (L0 := [some (mr 0), some (.inl n)]) (n := 24) rfl rfl rfl rfl rfl rfl rfl rfl rfl ?_
  refine im_g 4 (y := (6, _, _, _)) rfl trivial ?_
  refine im_call [] rfl rfl (m_lies (x := n) (a := 0) (b := v 13) (by omega) hT (by omega) (by omega) (by omega)) rfl rfl rfl (by decide) rfl (by decide) hT (fun v1 w1 hq => ?_)
  obtain ⟨rfl, rfl⟩ := hq
  refine ⟨_, _, MW v R, rfl, rfl, rfl, ?_⟩
  refine im_b rfl rfl ⟨(by omega), trivial⟩ (fun j1 => ?_) (fun j1 => ?_)
  · have c9 : 0 ≤ n ∧ n ≤ v 13 := by
      by_cases hh : 0 ≤ n ∧ n ≤ v 13
      · exact hh
      · rw [if_neg hh] at j1; exact absurd rfl j1
    clear j1
    refine im_g 4 (y := (20, _, _, _)) rfl trivial ?_
    refine im_r rfl rfl trivial rfl ?_
    rw [if_pos c9, if_pos c9]
    exact ⟨rfl, rfl⟩
  · have c9 : ¬ (0 ≤ n ∧ n ≤ v 13) := by
      intro hh
      rw [if_pos hh] at j1
      exact j1 (by decide)
    clear j1
    refine im_g 1 (y := (13, _, _, _)) rfl trivial ?_
    refine im_r rfl rfl trivial rfl ?_
    rw [if_neg c9, if_neg c9]
    exact ⟨rfl, rfl⟩
set_option maxHeartbeats 8000000 in
theorem m_hear (hd : 3 ≤ d) (hT : T.length < 1000) {p x : Int} (hp : im_ir p) (hx : im_ir x) (h1 : 0 ≤ R 2 110 ∧ R 2 110 ≤ 10) (h2 : 0 ≤ R 2 111 ∧ R 2 111 ≤ 8) : im_ct ro T d 218 [mr 0, .inl p, .inl x] (MW v R) (fun r w => r = some (.inl (km_hear p x v R).1) ∧ w = MW (km_hear p x v R).2.1 (km_hear p x v R).2.2) := by
  obtain ⟨d, rfl⟩ : ∃ e, d = e + 1 := ⟨d - 1, by omega⟩
  refine im_ct_of (own := 9) (ret := (some .int)) (code := ab_k_X9_hear) (nL := 4) (L0 := [some (mr 0), some (.inl p), some (.inl x), none]) (n := 24) rfl rfl rfl rfl rfl rfl rfl rfl rfl ?_
  refine im_g 3 (y := (4, _, _, _)) rfl trivial ?_
  refine im_call [] rfl rfl (m_lies (x := x) (a := 0) (b := 98) (by omega) hT (by omega) (by omega) (by omega)) rfl rfl rfl (by decide) rfl (by decide) hT (fun v1 w1 hq => ?_)
  obtain ⟨rfl, rfl⟩ := hq
  refine ⟨_, _, MW v R, rfl, rfl, rfl, ?_⟩
  refine im_b rfl rfl ⟨(by omega), trivial⟩ (fun j1 => ?_) (fun j1 => ?_)
  · have c7 : 0 ≤ x ∧ x ≤ 98 := by
      by_cases hh : 0 ≤ x ∧ x ≤ 98
      · exact hh
      · rw [if_neg hh] at j1; exact absurd rfl j1
    clear j1
    refine im_g 2 (y := (18, _, _, _)) rfl trivial ?_
    refine im_cM rfl rfl (m_isParish (v := v) (R := R) (p := p) (by omega) hT (by omega) h1) rfl hT (fun v1 w1 hq => ?_)
    obtain ⟨rfl, rfl⟩ := hq
    refine ⟨v, R, rfl, rfl, ?_⟩
    refine im_b rfl rfl ⟨(by omega), trivial⟩ (fun j2 => ?_) (fun j2 => ?_)
    · have c21 : 0 ≤ p ∧ p ≤ R 2 110 - 1 := by
        by_cases hh : 0 ≤ p ∧ p ≤ R 2 110 - 1
        · exact hh
        · rw [if_neg hh] at j2; exact absurd rfl j2
      clear j2
      refine im_g 7 (y := (42, _, _, _)) rfl ⟨(by omega), trivial⟩ ?_
      refine im_b rfl rfl ⟨(by omega), (by omega), trivial⟩ (fun j3 => ?_) (fun j3 => ?_)
      · refine im_g 32 (y := (93, _, _, _)) rfl ⟨(by omega), (by omega), (by omega), (by omega), trivial⟩ ?_
        refine im_cM rfl rfl (m_good (v := v) (R := (pl_U R 2 (kp_hear p x (R 2)))) (x := R 2 111 + 1) (by omega) hT) rfl hT (fun v1 w1 hq => ?_)
        obtain ⟨rfl, rfl⟩ := hq
        refine ⟨(pl_U v 0 0), (pl_U R 2 (kp_hear p x (R 2))), rfl, rfl, ?_⟩
        refine im_r rfl rfl trivial rfl ?_
        unfold km_hear
        rw [if_pos c7, if_pos c21, if_neg (by omega)]
        exact ⟨rfl, rfl⟩
      · refine im_g 2 (y := (48, _, _, _)) rfl trivial ?_
        refine im_cM rfl rfl (m_refuses (v := v) (R := R) (x := -5) (by omega) hT (by decide)) rfl hT (fun v1 w1 hq => ?_)
        obtain ⟨rfl, rfl⟩ := hq
        refine ⟨(pl_U v 0 (-5)), (kp_ref (-5) R), rfl, rfl, ?_⟩
        refine im_r rfl rfl trivial rfl ?_
        unfold km_hear
        rw [if_pos c7, if_pos c21, if_pos (by omega)]
        exact ⟨rfl, rfl⟩
    · have c21 : ¬ (0 ≤ p ∧ p ≤ R 2 110 - 1) := by
        intro hh
        rw [if_pos hh] at j2
        exact j2 (by decide)
      clear j2
      refine im_g 2 (y := (27, _, _, _)) rfl trivial ?_
      refine im_cM rfl rfl (m_refuses (v := v) (R := R) (x := -2) (by omega) hT (by decide)) rfl hT (fun v1 w1 hq => ?_)
      obtain ⟨rfl, rfl⟩ := hq
      refine ⟨(pl_U v 0 (-2)), (kp_ref (-2) R), rfl, rfl, ?_⟩
      refine im_r rfl rfl trivial rfl ?_
      unfold km_hear
      rw [if_pos c7, if_neg c21]
      exact ⟨rfl, rfl⟩
  · have c7 : ¬ (0 ≤ x ∧ x ≤ 98) := by
      intro hh
      rw [if_pos hh] at j1
      exact j1 (by decide)
    clear j1
    refine im_g 2 (y := (12, _, _, _)) rfl trivial ?_
    refine im_cM rfl rfl (m_refuses (v := v) (R := R) (x := -1) (by omega) hT (by decide)) rfl hT (fun v1 w1 hq => ?_)
    obtain ⟨rfl, rfl⟩ := hq
    refine ⟨(pl_U v 0 (-1)), (kp_ref (-1) R), rfl, rfl, ?_⟩
    refine im_r rfl rfl trivial rfl ?_
    unfold km_hear
    rw [if_neg c7]
    exact ⟨rfl, rfl⟩
set_option maxHeartbeats 8000000 in
theorem m_forget (hd : 1 ≤ d) (hT : T.length < 1000)  : im_ct ro T d 219 [mr 0] (MW v R) (fun r w => r = some (.inl (R 2 111)) ∧ w = MW v (pl_U R 2 (im_up (R 2) 111 0))) := by
  obtain ⟨d, rfl⟩ : ∃ e, d = e + 1 := ⟨d - 1, by omega⟩
  refine im_ct_of (own := 9) (ret := (some .int)) (code := ab_k_X9_forget) (nL := 2) (L0 := [some (mr 0), none]) (n := 24) rfl rfl rfl rfl rfl rfl rfl rfl rfl ?_
  refine im_g 11 (y := (17, _, _, _)) rfl ⟨(by omega), (by omega), trivial⟩ ?_
  refine im_r rfl rfl trivial rfl ?_
  exact ⟨rfl, rfl⟩
set_option maxHeartbeats 8000000 in
theorem m_stones (hd : 1 ≤ d) (hT : T.length < 1000)  : im_ct ro T d 143 [mr 0] (MW v R) (fun r w => r = some (.inl (v 6)) ∧ w = MW v R) := by
  obtain ⟨d, rfl⟩ : ∃ e, d = e + 1 := ⟨d - 1, by omega⟩
  refine im_ct_of (own := 9) (ret := (some .int)) (code := ab_k_X9_stones) (nL := 1) (L0 := [some (mr 0)]) (n := 24) rfl rfl rfl rfl rfl rfl rfl rfl rfl ?_
  refine im_g 2 (y := (4, _, _, _)) rfl trivial ?_
  refine im_r rfl rfl trivial rfl ?_
  exact ⟨rfl, rfl⟩
set_option maxHeartbeats 8000000 in
theorem m_fault (hd : 1 ≤ d) (hT : T.length < 1000)  : im_ct ro T d 170 [mr 0] (MW v R) (fun r w => r = some (.inl (v 14)) ∧ w = MW v R) := by
  obtain ⟨d, rfl⟩ : ∃ e, d = e + 1 := ⟨d - 1, by omega⟩
  refine im_ct_of (own := 9) (ret := (some .int)) (code := ab_k_X9_fault) (nL := 1) (L0 := [some (mr 0)]) (n := 24) rfl rfl rfl rfl rfl rfl rfl rfl rfl ?_
  refine im_g 2 (y := (4, _, _, _)) rfl trivial ?_
  refine im_r rfl rfl trivial rfl ?_
  exact ⟨rfl, rfl⟩
set_option maxHeartbeats 8000000 in
theorem m_stopped (hd : 1 ≤ d) (hT : T.length < 1000)  : im_ct ro T d 228 [mr 0] (MW v R) (fun r w => r = some (.inl (v 41)) ∧ w = MW v R) := by
  obtain ⟨d, rfl⟩ : ∃ e, d = e + 1 := ⟨d - 1, by omega⟩
  refine im_ct_of (own := 9) (ret := (some .int)) (code := ab_k_X9_stopped) (nL := 1) (L0 := [some (mr 0)]) (n := 24) rfl rfl rfl rfl rfl rfl rfl rfl rfl ?_
  refine im_g 2 (y := (4, _, _, _)) rfl trivial ?_
  refine im_r rfl rfl trivial rfl ?_
  exact ⟨rfl, rfl⟩
set_option maxHeartbeats 8000000 in
theorem m_status (hd : 1 ≤ d) (hT : T.length < 1000)  : im_ct ro T d 239 [mr 0] (MW v R) (fun r w => r = some (.inl (v 0)) ∧ w = MW v R) := by
  obtain ⟨d, rfl⟩ : ∃ e, d = e + 1 := ⟨d - 1, by omega⟩
  refine im_ct_of (own := 9) (ret := (some .int)) (code := ab_k_X9_status) (nL := 1) (L0 := [some (mr 0)]) (n := 24) rfl rfl rfl rfl rfl rfl rfl rfl rfl ?_
  refine im_g 2 (y := (4, _, _, _)) rfl trivial ?_
  refine im_r rfl rfl trivial rfl ?_
  exact ⟨rfl, rfl⟩
set_option maxHeartbeats 8000000 in
theorem m_group (hd : 2 ≤ d) (hT : T.length < 1000) {k a : Int} (hk : im_ir k) (ha : im_ir a) (h1 : 0 ≤ R 2 68 ∧ R 2 68 ≤ 16) : im_ct ro T d 139 [mr 0, .inl k, .inl a] (MW v R) (fun r w => r = some (.inl (if (0 ≤ k ∧ k ≤ R 2 68 - 1) ∧ (0 ≤ a ∧ a ≤ 2) then R 2 (20 + 3 * k + a) else -1)) ∧ w = MW v R) := by
  obtain ⟨d, rfl⟩ : ∃ e, d = e + 1 := ⟨d - 1, by omega⟩
  refine im_ct_of (own := 9) (ret := (some .int)) (code := ab_k_X9_group) (nL := 3) (L0 := [some (mr 0), some (.inl k), some (.inl a)]) (n := 24) rfl rfl rfl rfl rfl rfl rfl rfl rfl ?_
  refine im_g 8 (y := (11, _, _, _)) rfl ⟨(by omega), trivial⟩ ?_
  refine im_call [] rfl rfl (m_lies (x := k) (a := 0) (b := R 2 68 - 1) (by omega) hT (by omega) (by omega) (by omega)) rfl rfl rfl (by decide) rfl (by decide) hT (fun v1 w1 hq => ?_)
  obtain ⟨rfl, rfl⟩ := hq
  refine ⟨_, _, MW v R, rfl, rfl, rfl, ?_⟩
  refine im_b rfl rfl ⟨(by omega), trivial⟩ (fun j1 => ?_) (fun j1 => ?_)
  · have c14 : ¬ (0 ≤ k ∧ k ≤ R 2 68 - 1) := by
      intro hh
      rw [if_pos hh] at j1
      exact absurd j1 (by decide)
    clear j1
    refine im_g 1 (y := (43, _, _, _)) rfl trivial ?_
    refine im_r rfl rfl trivial rfl ?_
    rw [if_neg (fun z => c14 z.1)]
    exact ⟨rfl, rfl⟩
  · have c14 : 0 ≤ k ∧ k ≤ R 2 68 - 1 := by
      by_cases hh : 0 ≤ k ∧ k ≤ R 2 68 - 1
      · exact hh
      · rw [if_neg hh] at j1; exact absurd rfl j1
    clear j1
    refine im_g 3 (y := (20, _, _, _)) rfl trivial ?_
    refine im_call [] rfl rfl (m_lies (x := a) (a := 0) (b := 2) (by omega) hT (by omega) (by omega) (by omega)) rfl rfl rfl (by decide) rfl (by decide) hT (fun v1 w1 hq => ?_)
    obtain ⟨rfl, rfl⟩ := hq
    refine ⟨_, _, MW v R, rfl, rfl, rfl, ?_⟩
    refine im_b rfl rfl ⟨(by omega), trivial⟩ (fun j2 => ?_) (fun j2 => ?_)
    · have c23 : ¬ (0 ≤ a ∧ a ≤ 2) := by
        intro hh
        rw [if_pos hh] at j2
        exact absurd j2 (by decide)
      clear j2
      refine im_g 1 (y := (43, _, _, _)) rfl trivial ?_
      refine im_r rfl rfl trivial rfl ?_
      rw [if_neg (fun z => c23 z.2)]
      exact ⟨rfl, rfl⟩
    · have c23 : 0 ≤ a ∧ a ≤ 2 := by
        by_cases hh : 0 ≤ a ∧ a ≤ 2
        · exact hh
        · rw [if_neg hh] at j2; exact absurd rfl j2
      clear j2
      refine im_g 11 (y := (43, _, _, _)) rfl ⟨(by omega), trivial⟩ ?_
      refine im_r rfl rfl trivial rfl ?_
      rw [if_pos ⟨c14, c23⟩]
      exact ⟨rfl, rfl⟩
set_option maxHeartbeats 8000000 in
theorem m_force (hd : 2 ≤ d) (hT : T.length < 1000) {k : Int} (hk : im_ir k) (h1 : 0 ≤ R 2 112 ∧ R 2 112 ≤ 6) : im_ct ro T d 171 [mr 0, .inl k] (MW v R) (fun r w => r = some (.inl (km_force k v R).1) ∧ w = MW (km_force k v R).2.1 (km_force k v R).2.2) := by
  obtain ⟨d, rfl⟩ : ∃ e, d = e + 1 := ⟨d - 1, by omega⟩
  refine im_ct_of (own := 9) (ret := (some .int)) (code := ab_k_X9_force) (nL := 3) (L0 := [some (mr 0), some (.inl k), none]) (n := 24) rfl rfl rfl rfl rfl rfl rfl rfl rfl ?_
  refine im_g 8 (y := (11, _, _, _)) rfl ⟨(by omega), trivial⟩ ?_
  refine im_call [] rfl rfl (m_lies (x := k) (a := -1) (b := R 2 112 - 1) (by omega) hT (by omega) (by omega) (by omega)) rfl rfl rfl (by decide) rfl (by decide) hT (fun v1 w1 hq => ?_)
  obtain ⟨rfl, rfl⟩ := hq
  refine ⟨_, _, MW v R, rfl, rfl, rfl, ?_⟩
  refine im_b rfl rfl ⟨(by omega), trivial⟩ (fun j1 => ?_) (fun j1 => ?_)
  · have c14 : -1 ≤ k ∧ k ≤ R 2 112 - 1 := by
      by_cases hh : -1 ≤ k ∧ k ≤ R 2 112 - 1
      · exact hh
      · rw [if_neg hh] at j1; exact absurd rfl j1
    clear j1
    refine im_g 12 (y := (42, _, _, _)) rfl ⟨(by omega), (by omega), trivial⟩ ?_
    refine im_cM rfl rfl (m_good (v := v) (R := (pl_U R 2 (im_up (R 2) 113 k))) (x := R 2 113) (by omega) hT) rfl hT (fun v1 w1 hq => ?_)
    obtain ⟨rfl, rfl⟩ := hq
    refine ⟨(pl_U v 0 0), (pl_U R 2 (im_up (R 2) 113 k)), rfl, rfl, ?_⟩
    refine im_r rfl rfl trivial rfl ?_
    unfold km_force
    rw [if_pos c14]
    exact ⟨rfl, rfl⟩
  · have c14 : ¬ (-1 ≤ k ∧ k ≤ R 2 112 - 1) := by
      intro hh
      rw [if_pos hh] at j1
      exact j1 (by decide)
    clear j1
    refine im_g 2 (y := (20, _, _, _)) rfl trivial ?_
    refine im_cM rfl rfl (m_refuses (v := v) (R := R) (x := -2) (by omega) hT (by decide)) rfl hT (fun v1 w1 hq => ?_)
    obtain ⟨rfl, rfl⟩ := hq
    refine ⟨(pl_U v 0 (-2)), (kp_ref (-2) R), rfl, rfl, ?_⟩
    refine im_r rfl rfl trivial rfl ?_
    unfold km_force
    rw [if_neg c14]
    exact ⟨rfl, rfl⟩
set_option maxHeartbeats 8000000 in
theorem m_goodOr (hd : 2 ≤ d) (hT : T.length < 1000) {x : Int} (hx : -6 ≤ x ∧ x ≤ 100000) : im_ct ro T d 197 [mr 0, .inl x] (MW v R) (fun r w => r = some (.inl x) ∧ w = MW (pl_U v 0 (if x < 0 then x else 0)) (if x < 0 then kp_ref x R else R)) := by
  obtain ⟨d, rfl⟩ : ∃ e, d = e + 1 := ⟨d - 1, by omega⟩
  refine im_ct_of (own := 9) (ret := (some .int)) (code := ab_k_X9_goodOr) (nL := 2) (L0 := [some (mr 0), some (.inl x)]) (n := 24) rfl rfl rfl rfl rfl rfl rfl rfl rfl ?_
  refine im_g 1 (y := (1, _, _, _)) rfl trivial ?_
  refine im_b rfl rfl ⟨(by omega), trivial⟩ (fun j1 => ?_) (fun j1 => ?_)
  · refine im_g 2 (y := (14, _, _, _)) rfl trivial ?_
    refine im_cM rfl rfl (m_good (v := v) (R := R) (x := x) (by omega) hT) rfl hT (fun v1 w1 hq => ?_)
    obtain ⟨rfl, rfl⟩ := hq
    refine ⟨(pl_U v 0 0), R, rfl, rfl, ?_⟩
    refine im_r rfl rfl trivial rfl ?_
    rw [if_neg (by omega), if_neg (by omega)]
    exact ⟨rfl, rfl⟩
  · refine im_g 2 (y := (6, _, _, _)) rfl trivial ?_
    refine im_cM rfl rfl (m_refuses (v := v) (R := R) (x := x) (by omega) hT (by omega)) rfl hT (fun v1 w1 hq => ?_)
    obtain ⟨rfl, rfl⟩ := hq
    refine ⟨(pl_U v 0 x), (kp_ref x R), rfl, rfl, ?_⟩
    refine im_g 1 (y := (17, _, _, _)) rfl trivial ?_
    refine im_r rfl rfl trivial rfl ?_
    rw [if_pos (by omega), if_pos (by omega)]
    exact ⟨rfl, rfl⟩
set_option maxHeartbeats 8000000 in
theorem m_undo (hd : 2 ≤ d) (hT : T.length < 1000) (h1 : 0 ≤ v 34 ∧ v 34 ≤ 16) : im_ct ro T d 196 [mr 0] (MW v R) (fun r w => r = some (.inl (km_undo v R).1) ∧ w = MW (km_undo v R).2.1 (km_undo v R).2.2) := by
  obtain ⟨d, rfl⟩ : ∃ e, d = e + 1 := ⟨d - 1, by omega⟩
  refine im_ct_of (own := 9) (ret := (some .int)) (code := ab_k_X9_undo) (nL := 3) (L0 := [some (mr 0), none, none]) (n := 24) rfl rfl rfl rfl rfl rfl rfl rfl rfl ?_
  refine im_g 2 (y := (4, _, _, _)) rfl trivial ?_
  refine im_b rfl rfl ⟨(by omega), trivial⟩ (fun j1 => ?_) (fun j1 => ?_)
  · refine im_g 13 (y := (34, _, _, _)) rfl trivial ?_
    refine im_eqs (y := (34, [some (mr 0), some (.inl (72 * (v 34 - 1))), some (.inl ((0 : Nat) : Int))], [], MW (pl_U v 34 (v 34 - 1)) (pl_U R 2 (im_cpy (R 14) (R 2) (72 * (v 34 - 1)) (0) ((0 : Nat) : Int))))) (by rw [im_cpy_0]; rfl) ?_
    refine im_for 71 (fun m => (34, [some (mr 0), some (.inl (72 * (v 34 - 1))), some (.inl (m : Int))], [], MW (pl_U v 34 (v 34 - 1)) (pl_U R 2 (im_cpy (R 14) (R 2) (72 * (v 34 - 1)) (0) (m : Int))))) (fun m hm ih => ?_) ?_
    · refine im_g 2 (y := (37, _, _, _)) rfl trivial ?_
      refine im_bF rfl rfl ⟨(by omega), (by omega), trivial⟩ (by omega) ?_
      refine im_g 12 (y := (34, _, _, _)) rfl ⟨(by omega), (by omega), trivial⟩ ?_
      rw [im_cpy_sd] at ih
      exact ih
    · refine im_g 2 (y := (37, _, _, _)) rfl trivial ?_
      refine im_bT rfl rfl ⟨(by omega), (by omega), trivial⟩ (by omega) ?_
      refine im_g 7 (y := (70, _, _, _)) rfl ⟨(by omega), trivial⟩ ?_
      refine im_cM rfl rfl (m_good (v := (pl_U v 34 (v 34 - 1))) (R := (pl_U R 2 (im_cpy (R 14) (R 2) (72 * (v 34 - 1)) 0 71))) (x := R 14 (72 * (v 34 - 1) + 71)) (by omega) hT) rfl hT (fun v1 w1 hq => ?_)
      obtain ⟨rfl, rfl⟩ := hq
      refine ⟨(pl_U (pl_U v 34 (v 34 - 1)) 0 0), (pl_U R 2 (im_cpy (R 14) (R 2) (72 * (v 34 - 1)) 0 71)), rfl, rfl, ?_⟩
      refine im_r rfl rfl trivial rfl ?_
      unfold km_undo
      rw [if_neg (by omega)]
      exact ⟨rfl, rfl⟩
  · refine im_g 2 (y := (10, _, _, _)) rfl trivial ?_
    refine im_cM rfl rfl (m_refuses (v := v) (R := R) (x := -3) (by omega) hT (by decide)) rfl hT (fun v1 w1 hq => ?_)
    obtain ⟨rfl, rfl⟩ := hq
    refine ⟨(pl_U v 0 (-3)), (kp_ref (-3) R), rfl, rfl, ?_⟩
    refine im_r rfl rfl trivial rfl ?_
    unfold km_undo
    rw [if_pos (by omega)]
    exact ⟨rfl, rfl⟩
end Mc
