/-! texts, machines, courts: walked -/
section Mw
variable {ro : ab_R} {T : List im_T} {d : Nat}
set_option maxHeartbeats 8000000 in
theorem c_bounded (hd : 1 ≤ d) (hT : T.length < 1000) {x a b : Int} (hx : im_ir x) (ha : im_ir a) (hb : im_ir b) : im_ct ro T d 119 [.inl x, .inl a, .inl b] ([]) (fun r w => r = some (.inl (if x < a then a else if b < x then b else x)) ∧ w = []) := by
  obtain ⟨d, rfl⟩ : ∃ e, d = e + 1 := ⟨d - 1, by omega⟩
  refine im_ct_of (own := 8) (ret := (some .int)) (code := ab_k_X8_bounded) (nL := 3) (L0 := [some (.inl x), some (.inl a), some (.inl b)]) (n := 0) rfl rfl rfl rfl rfl rfl rfl rfl rfl ?_
  refine im_g 2 (y := (2, _, _, _)) rfl trivial ?_
  refine im_b rfl rfl ⟨(by omega), (by omega), trivial⟩ (fun j1 => ?_) (fun j1 => ?_)
  · refine im_g 2 (y := (11, _, _, _)) rfl trivial ?_
    refine im_b rfl rfl ⟨(by omega), (by omega), trivial⟩ (fun j2 => ?_) (fun j2 => ?_)
    · refine im_g 1 (y := (19, _, _, _)) rfl trivial ?_
      refine im_r rfl rfl trivial rfl ?_
      rw [if_neg (by omega), if_neg (by omega)]
      exact ⟨rfl, rfl⟩
    · refine im_g 2 (y := (19, _, _, _)) rfl trivial ?_
      refine im_r rfl rfl trivial rfl ?_
      rw [if_neg (by omega), if_pos (by omega)]
      exact ⟨rfl, rfl⟩
  · refine im_g 2 (y := (19, _, _, _)) rfl trivial ?_
    refine im_r rfl rfl trivial rfl ?_
    rw [if_pos (by omega)]
    exact ⟨rfl, rfl⟩
set_option maxHeartbeats 8000000 in
theorem c_part (hd : 1 ≤ d) (hT : T.length < 1000) {u : Int × Int × Int} {cl kl : Nat} {c k : Int → Int} {a f : Int} (ha : 0 ≤ a ∧ a ≤ 1000) (hf : 0 ≤ f ∧ f ≤ 4) (hkl : kl ≤ 1000) : im_ct ro T d 77 [mr 0, .inl a, .inl f] (XC 0 u cl c kl k) (fun r w => r = some (.inl (tx_part kl k a f)) ∧ w = XC 0 u cl c kl k) := by
  obtain ⟨d, rfl⟩ : ∃ e, d = e + 1 := ⟨d - 1, by omega⟩
  refine im_ct_of (own := 7) (ret := (some .int)) (code := ab_k_X7_part) (nL := 4) (L0 := [some (mr 0), some (.inl a), some (.inl f), none]) (n := 3) rfl rfl rfl rfl rfl rfl rfl rfl rfl ?_
  refine im_g 7 (y := (7, _, _, _)) rfl trivial ?_
  refine im_bF rfl rfl ⟨(by omega), trivial⟩ (by omega) ?_
  refine im_g 4 (y := (16, _, _, _)) rfl trivial ?_
  refine im_b rfl rfl ⟨(by omega), (by omega), trivial⟩ (fun j1 => ?_) (fun j1 => ?_)
  · refine im_g 1 (y := (29, _, _, _)) rfl trivial ?_
    refine im_r rfl rfl trivial rfl ?_
    unfold tx_part
    rw [if_neg (by omega)]
    exact ⟨rfl, rfl⟩
  · refine im_g 5 (y := (29, _, _, _)) rfl ⟨(by omega), trivial⟩ ?_
    refine im_r rfl rfl trivial rfl ?_
    unfold tx_part
    rw [if_pos (by omega)]
    exact ⟨rfl, rfl⟩
set_option maxHeartbeats 8000000 in
theorem c_walkers (hd : 1 ≤ d) (hT : T.length < 1000) {v : Nat → Int} {b : Int} {s wd : Int → Int} : im_ct ro T d 1 [mr 0] (CC 0 v b s wd) (fun r w => r = some (.inl (v 1 - v 2)) ∧ w = CC 0 v b s wd) := by
  obtain ⟨d, rfl⟩ : ∃ e, d = e + 1 := ⟨d - 1, by omega⟩
  refine im_ct_of (own := 0) (ret := (some .int)) (code := ab_k_X0_walkers) (nL := 1) (L0 := [some (mr 0)]) (n := 4) rfl rfl rfl rfl rfl rfl rfl rfl rfl ?_
  refine im_g 5 (y := (9, _, _, _)) rfl trivial ?_
  refine im_r rfl rfl trivial rfl ?_
  exact ⟨rfl, rfl⟩
set_option maxHeartbeats 8000000 in
theorem c_combined (hd : 1 ≤ d) (hT : T.length < 1000) {w0 a b : Int} (hw0 : 3 ≤ w0 ∧ w0 ≤ 10) (ha : -1000001000 ≤ a ∧ a ≤ 1000001000) (hb : -1000001000 ≤ b ∧ b ≤ 1000001000) {s : Int → Int} : im_ct ro T d 19 [mr 0, .inl w0, .inr (.inl a), .inr (.inl b)] (MC 0 0 s) (fun r w => r = some (.inl (mc_cb w0 a b).1) ∧ w = MC 0 (mc_cb w0 a b).2 s) := by
  obtain ⟨d, rfl⟩ : ∃ e, d = e + 1 := ⟨d - 1, by omega⟩
  have hm := im_mulb ha hb
  have hd1 := im_tdivb (b := b) ha
  have hd2 := im_tmodb (b := b) ha
  refine im_ct_of (own := 2) (ret := (some .int)) (code := ab_k_X2_combined) (nL := 8) (L0 := [some (mr 0), some (.inl w0), some (.inr (.inl a)), none, some (.inr (.inl b)), none, none, none]) (n := 2) rfl rfl rfl rfl rfl rfl rfl rfl rfl ?_
  refine im_g 3 (y := (4, _, _, _)) rfl trivial ?_
  have hw : w0 = 3 ∨ w0 = 4 ∨ w0 = 5 ∨ w0 = 6 ∨ w0 = 7 ∨ w0 = 8 ∨ w0 = 9 ∨ w0 = 10 := by omega
  rcases hw with rfl | rfl | rfl | rfl | rfl | rfl | rfl | rfl
  · refine im_sw (tgt := 52) rfl (by omega) (by decide) (Or.inr ⟨_, rfl, by decide⟩) (by decide) ?_
    refine im_g 8 (y := (158, _, _, _)) rfl ⟨(by omega), (by omega), trivial⟩ ?_
    refine im_b rfl rfl ⟨(by exact im_cmp_ir _ _), trivial⟩ (fun j1 => ?_) (fun j1 => ?_)
    · rw [im_cmp_pos] at j1
      refine im_g 5 (y := (179, _, _, _)) rfl ⟨(by omega), trivial⟩ ?_
      refine im_bF rfl rfl ⟨(by omega), trivial⟩ (by decide) ?_
      refine im_g 2 (y := (189, _, _, _)) rfl trivial ?_
      refine im_r rfl rfl trivial rfl ?_
      unfold mc_cb
      rw [if_pos rfl]
      unfold mc_far
      rw [if_pos (by omega)]
      exact ⟨rfl, rfl⟩
    · rw [im_cmp_pos] at j1
      refine im_g 3 (y := (167, _, _, _)) rfl ⟨(by omega), (by omega), trivial⟩ ?_
      refine im_b rfl rfl ⟨(by exact im_cmp_ir _ _), trivial⟩ (fun j2 => ?_) (fun j2 => ?_)
      · rw [im_cmp_nn] at j2
        refine im_g 2 (y := (179, _, _, _)) rfl trivial ?_
        refine im_bT rfl rfl ⟨(by omega), trivial⟩ (by decide) ?_
        refine im_g 2 (y := (189, _, _, _)) rfl trivial ?_
        refine im_r rfl rfl trivial rfl ?_
        unfold mc_cb
        rw [if_pos rfl]
        unfold mc_far
        rw [if_neg (by omega)]
        exact ⟨rfl, rfl⟩
      · rw [im_cmp_nn] at j2
        refine im_g 5 (y := (179, _, _, _)) rfl ⟨(by omega), trivial⟩ ?_
        refine im_bF rfl rfl ⟨(by omega), trivial⟩ (by decide) ?_
        refine im_g 2 (y := (189, _, _, _)) rfl trivial ?_
        refine im_r rfl rfl trivial rfl ?_
        unfold mc_cb
        rw [if_pos rfl]
        unfold mc_far
        rw [if_pos (by omega)]
        exact ⟨rfl, rfl⟩
  · refine im_sw (tgt := 61) rfl (by omega) (by decide) (Or.inr ⟨_, rfl, by decide⟩) (by decide) ?_
    refine im_g 8 (y := (158, _, _, _)) rfl ⟨(by omega), (by omega), trivial⟩ ?_
    refine im_b rfl rfl ⟨(by exact im_cmp_ir _ _), trivial⟩ (fun j3 => ?_) (fun j3 => ?_)
    · rw [im_cmp_pos] at j3
      refine im_g 5 (y := (179, _, _, _)) rfl ⟨(by omega), trivial⟩ ?_
      refine im_bF rfl rfl ⟨(by omega), trivial⟩ (by decide) ?_
      refine im_g 2 (y := (189, _, _, _)) rfl trivial ?_
      refine im_r rfl rfl trivial rfl ?_
      unfold mc_cb
      rw [if_neg (by decide), if_pos rfl]
      unfold mc_far
      rw [if_pos (by omega)]
      exact ⟨rfl, rfl⟩
    · rw [im_cmp_pos] at j3
      refine im_g 3 (y := (167, _, _, _)) rfl ⟨(by omega), (by omega), trivial⟩ ?_
      refine im_b rfl rfl ⟨(by exact im_cmp_ir _ _), trivial⟩ (fun j4 => ?_) (fun j4 => ?_)
      · rw [im_cmp_nn] at j4
        refine im_g 2 (y := (179, _, _, _)) rfl trivial ?_
        refine im_bT rfl rfl ⟨(by omega), trivial⟩ (by decide) ?_
        refine im_g 2 (y := (189, _, _, _)) rfl trivial ?_
        refine im_r rfl rfl trivial rfl ?_
        unfold mc_cb
        rw [if_neg (by decide), if_pos rfl]
        unfold mc_far
        rw [if_neg (by omega)]
        exact ⟨rfl, rfl⟩
      · rw [im_cmp_nn] at j4
        refine im_g 5 (y := (179, _, _, _)) rfl ⟨(by omega), trivial⟩ ?_
        refine im_bF rfl rfl ⟨(by omega), trivial⟩ (by decide) ?_
        refine im_g 2 (y := (189, _, _, _)) rfl trivial ?_
        refine im_r rfl rfl trivial rfl ?_
        unfold mc_cb
        rw [if_neg (by decide), if_pos rfl]
        unfold mc_far
        rw [if_pos (by omega)]
        exact ⟨rfl, rfl⟩
  · refine im_sw (tgt := 70) rfl (by omega) (by decide) (Or.inr ⟨_, rfl, by decide⟩) (by decide) ?_
    refine im_g 8 (y := (158, _, _, _)) rfl ⟨(by omega), (by omega), trivial⟩ ?_
    refine im_b rfl rfl ⟨(by exact im_cmp_ir _ _), trivial⟩ (fun j5 => ?_) (fun j5 => ?_)
    · rw [im_cmp_pos] at j5
      refine im_g 5 (y := (179, _, _, _)) rfl ⟨(by omega), trivial⟩ ?_
      refine im_bF rfl rfl ⟨(by omega), trivial⟩ (by decide) ?_
      refine im_g 2 (y := (189, _, _, _)) rfl trivial ?_
      refine im_r rfl rfl trivial rfl ?_
      unfold mc_cb
      rw [if_neg (by decide), if_neg (by decide), if_pos rfl]
      unfold mc_far
      rw [if_pos (by omega)]
      exact ⟨rfl, rfl⟩
    · rw [im_cmp_pos] at j5
      refine im_g 3 (y := (167, _, _, _)) rfl ⟨(by omega), (by omega), trivial⟩ ?_
      refine im_b rfl rfl ⟨(by exact im_cmp_ir _ _), trivial⟩ (fun j6 => ?_) (fun j6 => ?_)
      · rw [im_cmp_nn] at j6
        refine im_g 2 (y := (179, _, _, _)) rfl trivial ?_
        refine im_bT rfl rfl ⟨(by omega), trivial⟩ (by decide) ?_
        refine im_g 2 (y := (189, _, _, _)) rfl trivial ?_
        refine im_r rfl rfl trivial rfl ?_
        unfold mc_cb
        rw [if_neg (by decide), if_neg (by decide), if_pos rfl]
        unfold mc_far
        rw [if_neg (by omega)]
        exact ⟨rfl, rfl⟩
      · rw [im_cmp_nn] at j6
        refine im_g 5 (y := (179, _, _, _)) rfl ⟨(by omega), trivial⟩ ?_
        refine im_bF rfl rfl ⟨(by omega), trivial⟩ (by decide) ?_
        refine im_g 2 (y := (189, _, _, _)) rfl trivial ?_
        refine im_r rfl rfl trivial rfl ?_
        unfold mc_cb
        rw [if_neg (by decide), if_neg (by decide), if_pos rfl]
        unfold mc_far
        rw [if_pos (by omega)]
        exact ⟨rfl, rfl⟩
  · refine im_sw (tgt := 118) rfl (by omega) (by decide) (Or.inr ⟨_, rfl, by decide⟩) (by decide) ?_
    refine im_g 3 (y := (122, _, _, _)) rfl ⟨(by omega), (by omega), trivial⟩ ?_
    refine im_b rfl rfl ⟨(by exact im_cmp_ir _ _), trivial⟩ (fun j7 => ?_) (fun j7 => ?_)
    · rw [im_cmp_0] at j7
      refine im_g 2 (y := (136, _, _, _)) rfl trivial ?_
      refine im_bF rfl rfl ⟨(by omega), (by omega), trivial⟩ (by decide) ?_
      refine im_g 8 (y := (158, _, _, _)) rfl ⟨(by omega), (by omega), (by omega), (by omega), (by omega), trivial⟩ ?_
      refine im_b rfl rfl ⟨(by exact im_cmp_ir _ _), trivial⟩ (fun j8 => ?_) (fun j8 => ?_)
      · rw [im_cmp_pos] at j8
        refine im_g 5 (y := (179, _, _, _)) rfl ⟨(by omega), trivial⟩ ?_
        refine im_bF rfl rfl ⟨(by omega), trivial⟩ (by decide) ?_
        refine im_g 2 (y := (189, _, _, _)) rfl trivial ?_
        refine im_r rfl rfl trivial rfl ?_
        unfold mc_cb
        rw [if_neg (by decide), if_neg (by decide), if_neg (by decide), if_neg (by decide), if_neg (by decide), if_neg (by decide)]
        rw [if_neg (by omega)]
        rw [if_pos (by decide)]
        unfold mc_far
        rw [if_pos (by omega)]
        exact ⟨rfl, rfl⟩
      · rw [im_cmp_pos] at j8
        refine im_g 3 (y := (167, _, _, _)) rfl ⟨(by omega), (by omega), trivial⟩ ?_
        refine im_b rfl rfl ⟨(by exact im_cmp_ir _ _), trivial⟩ (fun j9 => ?_) (fun j9 => ?_)
        · rw [im_cmp_nn] at j9
          refine im_g 2 (y := (179, _, _, _)) rfl trivial ?_
          refine im_bT rfl rfl ⟨(by omega), trivial⟩ (by decide) ?_
          refine im_g 2 (y := (189, _, _, _)) rfl trivial ?_
          refine im_r rfl rfl trivial rfl ?_
          unfold mc_cb
          rw [if_neg (by decide), if_neg (by decide), if_neg (by decide), if_neg (by decide), if_neg (by decide), if_neg (by decide)]
          rw [if_neg (by omega)]
          rw [if_pos (by decide)]
          unfold mc_far
          rw [if_neg (by omega)]
          exact ⟨rfl, rfl⟩
        · rw [im_cmp_nn] at j9
          refine im_g 5 (y := (179, _, _, _)) rfl ⟨(by omega), trivial⟩ ?_
          refine im_bF rfl rfl ⟨(by omega), trivial⟩ (by decide) ?_
          refine im_g 2 (y := (189, _, _, _)) rfl trivial ?_
          refine im_r rfl rfl trivial rfl ?_
          unfold mc_cb
          rw [if_neg (by decide), if_neg (by decide), if_neg (by decide), if_neg (by decide), if_neg (by decide), if_neg (by decide)]
          rw [if_neg (by omega)]
          rw [if_pos (by decide)]
          unfold mc_far
          rw [if_pos (by omega)]
          exact ⟨rfl, rfl⟩
    · rw [im_cmp_0] at j7
      refine im_g 7 (y := (158, _, _, _)) rfl ⟨(by omega), (by omega), (by omega), trivial⟩ ?_
      refine im_bF rfl rfl ⟨(by exact im_cmp_ir _ _), trivial⟩ (by decide) ?_
      refine im_g 3 (y := (167, _, _, _)) rfl ⟨(by omega), (by omega), trivial⟩ ?_
      refine im_bT rfl rfl ⟨(by exact im_cmp_ir _ _), trivial⟩ (by decide) ?_
      refine im_g 2 (y := (179, _, _, _)) rfl trivial ?_
      refine im_bF rfl rfl ⟨(by omega), trivial⟩ (by decide) ?_
      refine im_g 2 (y := (189, _, _, _)) rfl trivial ?_
      refine im_r rfl rfl trivial rfl ?_
      unfold mc_cb
      rw [if_neg (by decide), if_neg (by decide), if_neg (by decide), if_neg (by decide), if_neg (by decide), if_neg (by decide)]
      rw [if_pos (by omega)]
      exact ⟨rfl, rfl⟩
  · refine im_sw (tgt := 118) rfl (by omega) (by decide) (Or.inr ⟨_, rfl, by decide⟩) (by decide) ?_
    refine im_g 3 (y := (122, _, _, _)) rfl ⟨(by omega), (by omega), trivial⟩ ?_
    refine im_b rfl rfl ⟨(by exact im_cmp_ir _ _), trivial⟩ (fun j10 => ?_) (fun j10 => ?_)
    · rw [im_cmp_0] at j10
      refine im_g 2 (y := (136, _, _, _)) rfl trivial ?_
      refine im_bT rfl rfl ⟨(by omega), (by omega), trivial⟩ (by decide) ?_
      refine im_g 7 (y := (158, _, _, _)) rfl ⟨(by omega), (by omega), (by omega), (by omega), (by omega), trivial⟩ ?_
      refine im_b rfl rfl ⟨(by exact im_cmp_ir _ _), trivial⟩ (fun j11 => ?_) (fun j11 => ?_)
      · rw [im_cmp_pos] at j11
        refine im_g 5 (y := (179, _, _, _)) rfl ⟨(by omega), trivial⟩ ?_
        refine im_bF rfl rfl ⟨(by omega), trivial⟩ (by decide) ?_
        refine im_g 2 (y := (189, _, _, _)) rfl trivial ?_
        refine im_r rfl rfl trivial rfl ?_
        unfold mc_cb
        rw [if_neg (by decide), if_neg (by decide), if_neg (by decide), if_neg (by decide), if_neg (by decide), if_neg (by decide)]
        rw [if_neg (by omega)]
        rw [if_neg (by decide)]
        unfold mc_far
        rw [if_pos (by omega)]
        exact ⟨rfl, rfl⟩
      · rw [im_cmp_pos] at j11
        refine im_g 3 (y := (167, _, _, _)) rfl ⟨(by omega), (by omega), trivial⟩ ?_
        refine im_b rfl rfl ⟨(by exact im_cmp_ir _ _), trivial⟩ (fun j12 => ?_) (fun j12 => ?_)
        · rw [im_cmp_nn] at j12
          refine im_g 2 (y := (179, _, _, _)) rfl trivial ?_
          refine im_bT rfl rfl ⟨(by omega), trivial⟩ (by decide) ?_
          refine im_g 2 (y := (189, _, _, _)) rfl trivial ?_
          refine im_r rfl rfl trivial rfl ?_
          unfold mc_cb
          rw [if_neg (by decide), if_neg (by decide), if_neg (by decide), if_neg (by decide), if_neg (by decide), if_neg (by decide)]
          rw [if_neg (by omega)]
          rw [if_neg (by decide)]
          unfold mc_far
          rw [if_neg (by omega)]
          exact ⟨rfl, rfl⟩
        · rw [im_cmp_nn] at j12
          refine im_g 5 (y := (179, _, _, _)) rfl ⟨(by omega), trivial⟩ ?_
          refine im_bF rfl rfl ⟨(by omega), trivial⟩ (by decide) ?_
          refine im_g 2 (y := (189, _, _, _)) rfl trivial ?_
          refine im_r rfl rfl trivial rfl ?_
          unfold mc_cb
          rw [if_neg (by decide), if_neg (by decide), if_neg (by decide), if_neg (by decide), if_neg (by decide), if_neg (by decide)]
          rw [if_neg (by omega)]
          rw [if_neg (by decide)]
          unfold mc_far
          rw [if_pos (by omega)]
          exact ⟨rfl, rfl⟩
    · rw [im_cmp_0] at j10
      refine im_g 7 (y := (158, _, _, _)) rfl ⟨(by omega), (by omega), (by omega), trivial⟩ ?_
      refine im_bF rfl rfl ⟨(by exact im_cmp_ir _ _), trivial⟩ (by decide) ?_
      refine im_g 3 (y := (167, _, _, _)) rfl ⟨(by omega), (by omega), trivial⟩ ?_
      refine im_bT rfl rfl ⟨(by exact im_cmp_ir _ _), trivial⟩ (by decide) ?_
      refine im_g 2 (y := (179, _, _, _)) rfl trivial ?_
      refine im_bF rfl rfl ⟨(by omega), trivial⟩ (by decide) ?_
      refine im_g 2 (y := (189, _, _, _)) rfl trivial ?_
      refine im_r rfl rfl trivial rfl ?_
      unfold mc_cb
      rw [if_neg (by decide), if_neg (by decide), if_neg (by decide), if_neg (by decide), if_neg (by decide), if_neg (by decide)]
      rw [if_pos (by omega)]
      exact ⟨rfl, rfl⟩
  · refine im_sw (tgt := 79) rfl (by omega) (by decide) (Or.inr ⟨_, rfl, by decide⟩) (by decide) ?_
    refine im_g 3 (y := (83, _, _, _)) rfl ⟨(by omega), (by omega), trivial⟩ ?_
    refine im_b rfl rfl ⟨(by exact im_cmp_ir _ _), trivial⟩ (fun j13 => ?_) (fun j13 => ?_)
    · rw [im_cmp_nn] at j13
      refine im_g 1 (y := (91, _, _, _)) rfl trivial ?_
      refine im_r rfl rfl trivial rfl ?_
      unfold mc_cb
      rw [if_neg (by decide), if_neg (by decide), if_neg (by decide), if_pos rfl]
      rw [if_neg (by omega)]
      exact ⟨rfl, rfl⟩
    · rw [im_cmp_nn] at j13
      refine im_g 2 (y := (91, _, _, _)) rfl trivial ?_
      refine im_r rfl rfl trivial rfl ?_
      unfold mc_cb
      rw [if_neg (by decide), if_neg (by decide), if_neg (by decide), if_pos rfl]
      rw [if_pos (by omega)]
      exact ⟨rfl, rfl⟩
  · refine im_sw (tgt := 92) rfl (by omega) (by decide) (Or.inr ⟨_, rfl, by decide⟩) (by decide) ?_
    refine im_g 3 (y := (96, _, _, _)) rfl ⟨(by omega), (by omega), trivial⟩ ?_
    refine im_b rfl rfl ⟨(by exact im_cmp_ir _ _), trivial⟩ (fun j14 => ?_) (fun j14 => ?_)
    · rw [im_cmp_np] at j14
      refine im_g 1 (y := (104, _, _, _)) rfl trivial ?_
      refine im_r rfl rfl trivial rfl ?_
      unfold mc_cb
      rw [if_neg (by decide), if_neg (by decide), if_neg (by decide), if_neg (by decide), if_pos rfl]
      rw [if_neg (by omega)]
      exact ⟨rfl, rfl⟩
    · rw [im_cmp_np] at j14
      refine im_g 2 (y := (104, _, _, _)) rfl trivial ?_
      refine im_r rfl rfl trivial rfl ?_
      unfold mc_cb
      rw [if_neg (by decide), if_neg (by decide), if_neg (by decide), if_neg (by decide), if_pos rfl]
      rw [if_pos (by omega)]
      exact ⟨rfl, rfl⟩
  · refine im_sw (tgt := 105) rfl (by omega) (by decide) (Or.inr ⟨_, rfl, by decide⟩) (by decide) ?_
    refine im_g 3 (y := (109, _, _, _)) rfl ⟨(by omega), (by omega), trivial⟩ ?_
    refine im_b rfl rfl ⟨(by exact im_cmp_ir _ _), trivial⟩ (fun j15 => ?_) (fun j15 => ?_)
    · rw [im_cmp_0] at j15
      refine im_g 1 (y := (117, _, _, _)) rfl trivial ?_
      refine im_r rfl rfl trivial rfl ?_
      unfold mc_cb
      rw [if_neg (by decide), if_neg (by decide), if_neg (by decide), if_neg (by decide), if_neg (by decide), if_pos rfl]
      rw [if_neg (by omega)]
      exact ⟨rfl, rfl⟩
    · rw [im_cmp_0] at j15
      refine im_g 2 (y := (117, _, _, _)) rfl trivial ?_
      refine im_r rfl rfl trivial rfl ?_
      unfold mc_cb
      rw [if_neg (by decide), if_neg (by decide), if_neg (by decide), if_neg (by decide), if_neg (by decide), if_pos rfl]
      rw [if_pos (by omega)]
      exact ⟨rfl, rfl⟩
end Mw
