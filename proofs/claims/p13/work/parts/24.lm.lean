/-! a land: its small methods, walked -/
section Lc
variable {ro : ab_R} {T : List im_T} {d : Nat} {v : Nat → Int} {R : Nat → Int → Int} {g : Int → Option Nat}
set_option maxHeartbeats 8000000 in
theorem c_has (hd : 1 ≤ d) (hT : T.length < 1000) {p : Int} (hp : im_ir p) (hv : 0 ≤ v 0 ∧ v 0 ≤ 10) : im_ct ro T d 5 [mr 0, .inl p] (LC 0 v R g) (fun r w => r = some (.inl (if 0 ≤ p ∧ p < v 0 ∧ p < 10 then 1 else 0)) ∧ w = LC 0 v R g) := by
  obtain ⟨d, rfl⟩ : ∃ e, d = e + 1 := ⟨d - 1, by omega⟩
  refine im_ct_of (own := 1) (ret := (some .boolean)) (code := ab_k_X1_has) (nL := 2) (L0 := [some (mr 0), some (.inl p)]) (n := 12) rfl rfl rfl rfl rfl rfl rfl rfl rfl ?_
  refine im_g 1 (y := (1, _, _, _)) rfl trivial ?_
  refine im_b rfl rfl ⟨(by omega), trivial⟩ (fun j1 => ?_) (fun j1 => ?_)
  · refine im_g 1 (y := (23, _, _, _)) rfl trivial ?_
    refine im_r rfl rfl ⟨(by omega), trivial⟩ rfl ?_
    rw [if_neg (by omega)]
    exact ⟨rfl, rfl⟩
  · refine im_g 3 (y := (9, _, _, _)) rfl trivial ?_
    refine im_b rfl rfl ⟨(by omega), (by omega), trivial⟩ (fun j2 => ?_) (fun j2 => ?_)
    · refine im_g 1 (y := (23, _, _, _)) rfl trivial ?_
      refine im_r rfl rfl ⟨(by omega), trivial⟩ rfl ?_
      rw [if_neg (by omega)]
      exact ⟨rfl, rfl⟩
    · refine im_g 2 (y := (15, _, _, _)) rfl trivial ?_
      refine im_b rfl rfl ⟨(by omega), (by omega), trivial⟩ (fun j3 => ?_) (fun j3 => ?_)
      · refine im_g 1 (y := (23, _, _, _)) rfl trivial ?_
        refine im_r rfl rfl ⟨(by omega), trivial⟩ rfl ?_
        rw [if_neg (by omega)]
        exact ⟨rfl, rfl⟩
      · refine im_g 2 (y := (23, _, _, _)) rfl trivial ?_
        refine im_r rfl rfl ⟨(by omega), trivial⟩ rfl ?_
        rw [if_pos (by omega)]
        exact ⟨rfl, rfl⟩
set_option maxHeartbeats 8000000 in
theorem c_walking (hd : 1 ≤ d) (hT : T.length < 1000) (h : LOK v R) : im_ct ro T d 7 [mr 0] (LC 0 v R g) (fun r w => r = some (.inl (pl_sum (R 5) (v 1).toNat)) ∧ w = LC 0 v R g) := by
  obtain ⟨d, rfl⟩ : ∃ e, d = e + 1 := ⟨d - 1, by omega⟩
  have h1 := lk_grp h
  refine im_ct_of (own := 1) (ret := (some .int)) (code := ab_k_X1_walking) (nL := 3) (L0 := [some (mr 0), none, none]) (n := 12) rfl rfl rfl rfl rfl rfl rfl rfl rfl ?_
  refine im_g 4 (y := (4, _, _, _)) rfl trivial ?_
  refine im_for (v 1).toNat (fun k => (4, [some (mr 0), some (.inl (pl_sum (R 5) k)), some (.inl (k : Int))], [], LC 0 v R g)) (fun k hk ih => ?_) ?_
  · have hb := pl_sum_b (lk_siz h) k
    have hb2 := lk_siz h k
    refine im_g 3 (y := (9, _, _, _)) rfl trivial ?_
    refine im_bF rfl rfl ⟨(by omega), (by omega), trivial⟩ (by omega) ?_
    refine im_g 2 (y := (15, _, _, _)) rfl trivial ?_
    refine im_bF rfl rfl ⟨(by omega), (by omega), trivial⟩ (by omega) ?_
    refine im_g 9 (y := (4, _, _, _)) rfl ⟨(by omega), trivial⟩ ?_
    exact ih
  · have hb := pl_sum_b (lk_siz h) (v 1).toNat
    refine im_g 3 (y := (9, _, _, _)) rfl trivial ?_
    refine im_bT rfl rfl ⟨(by omega), (by omega), trivial⟩ (by omega) ?_
    refine im_g 1 (y := (34, _, _, _)) rfl trivial ?_
    refine im_r rfl rfl trivial rfl ?_
    exact ⟨rfl, rfl⟩
set_option maxHeartbeats 8000000 in
theorem c_leave (hd : 2 ≤ d) (hT : T.length < 1000) {p n : Int} (hp : im_ir p) (hn : 0 ≤ n ∧ n ≤ 999) (h1 : 0 ≤ v 0 ∧ v 0 ≤ 10) (h2 : 0 ≤ R 2 p ∧ R 2 p ≤ 999) (h3 : 0 ≤ R 3 p ∧ R 3 p ≤ 99999) : im_ct ro T d 11 [mr 0, .inl p, .inl n] (LC 0 v R g) (fun r w => r = none ∧ w = LC 0 v (pl_leave p n v R) g) := by
  obtain ⟨d, rfl⟩ : ∃ e, d = e + 1 := ⟨d - 1, by omega⟩
  refine im_ct_of (own := 1) (ret := none) (code := ab_k_X1_leave) (nL := 3) (L0 := [some (mr 0), some (.inl p), some (.inl n)]) (n := 12) rfl rfl rfl rfl rfl rfl rfl rfl rfl ?_
  refine im_g 2 (y := (2, _, _, _)) rfl trivial ?_
  refine im_call [0,1,2,3,4,5,6,7,8,9,10,11] rfl rfl (c_has (v := v) (R := R) (g := g) (p := p) (by omega) hT (by omega) (by omega)) rfl rfl rfl (by decide) rfl (by decide) hT (fun v1 w1 hq => ?_)
  obtain ⟨rfl, rfl⟩ := hq
  refine ⟨_, _, LC 0 v R g, rfl, rfl, rfl, ?_⟩
  refine im_b rfl rfl ⟨(by omega), trivial⟩ (fun j1 => ?_) (fun j1 => ?_)
  · refine im_r rfl rfl trivial rfl ?_
    unfold pl_leave
    rw [if_neg (by omega)]
    exact ⟨rfl, rfl⟩
  · refine im_g 20 (y := (37, _, _, _)) rfl ⟨(by omega), (by omega), (by omega), (by omega), (by omega), (by omega), trivial⟩ ?_
    refine im_r rfl rfl trivial rfl ?_
    unfold pl_leave
    rw [if_pos (by omega)]
    exact ⟨rfl, rfl⟩
set_option maxHeartbeats 8000000 in
theorem c_growBy (hd : 2 ≤ d) (hT : T.length < 1000) {p b : Int} (hp : im_ir p) (hb : im_ir b) (h : LOK v R) : im_ct ro T d 15 [mr 0, .inl p, .inl b] (LC 0 v R g) (fun r w => r = some (.inl (pl_growBy p b v R).1) ∧ w = LC 0 v (pl_growBy p b v R).2 g) := by
  obtain ⟨d, rfl⟩ : ∃ e, d = e + 1 := ⟨d - 1, by omega⟩
  have h1 := lk_par h
  have h2 := lk_cnt h p
  refine im_ct_of (own := 1) (ret := (some .int)) (code := ab_k_X1_growBy) (nL := 4) (L0 := [some (mr 0), some (.inl p), some (.inl b), none]) (n := 12) rfl rfl rfl rfl rfl rfl rfl rfl rfl ?_
  refine im_g 2 (y := (3, _, _, _)) rfl trivial ?_
  refine im_b rfl rfl ⟨(by omega), (by omega), trivial⟩ (fun j1 => ?_) (fun j1 => ?_)
  · refine im_g 1 (y := (13, _, _, _)) rfl trivial ?_
    refine im_r rfl rfl trivial rfl ?_
    unfold pl_growBy
    rw [if_pos (by omega)]
    exact ⟨rfl, rfl⟩
  · refine im_g 2 (y := (9, _, _, _)) rfl trivial ?_
    refine im_b rfl rfl ⟨(by omega), (by omega), trivial⟩ (fun j2 => ?_) (fun j2 => ?_)
    · refine im_g 2 (y := (16, _, _, _)) rfl trivial ?_
      refine im_call [0,1,2,3,4,5,6,7,8,9,10,11] rfl rfl (c_has (v := v) (R := R) (g := g) (p := p) (by omega) hT (by omega) (by omega)) rfl rfl rfl (by decide) rfl (by decide) hT (fun v1 w1 hq => ?_)
      obtain ⟨rfl, rfl⟩ := hq
      refine ⟨_, _, LC 0 v R g, rfl, rfl, rfl, ?_⟩
      refine im_b rfl rfl ⟨(by omega), trivial⟩ (fun j3 => ?_) (fun j3 => ?_)
      · refine im_g 8 (y := (35, _, _, _)) rfl ⟨(by omega), trivial⟩ ?_
        refine im_b rfl rfl ⟨(by omega), trivial⟩ (fun j4 => ?_) (fun j4 => ?_)
        · refine im_g 1 (y := (47, _, _, _)) rfl trivial ?_
          refine im_r rfl rfl trivial rfl ?_
          unfold pl_growBy
          rw [if_neg (by omega), if_neg (by omega), if_pos (by omega)]
          exact ⟨rfl, rfl⟩
        · refine im_g 2 (y := (42, _, _, _)) rfl trivial ?_
          refine im_b rfl rfl ⟨(by omega), (by omega), trivial⟩ (fun j5 => ?_) (fun j5 => ?_)
          · refine im_g 6 (y := (56, _, _, _)) rfl ⟨(by omega), trivial⟩ ?_
            refine im_r rfl rfl trivial rfl ?_
            unfold pl_growBy
            rw [if_neg (by omega), if_neg (by omega), if_neg (by omega)]
            exact ⟨rfl, rfl⟩
          · refine im_g 1 (y := (47, _, _, _)) rfl trivial ?_
            refine im_r rfl rfl trivial rfl ?_
            unfold pl_growBy
            rw [if_neg (by omega), if_neg (by omega), if_pos (by omega)]
            exact ⟨rfl, rfl⟩
      · refine im_g 1 (y := (24, _, _, _)) rfl trivial ?_
        refine im_r rfl rfl trivial rfl ?_
        unfold pl_growBy
        rw [if_neg (by omega), if_pos (by omega)]
        exact ⟨rfl, rfl⟩
    · refine im_g 1 (y := (13, _, _, _)) rfl trivial ?_
      refine im_r rfl rfl trivial rfl ?_
      unfold pl_growBy
      rw [if_pos (by omega)]
      exact ⟨rfl, rfl⟩
set_option maxHeartbeats 8000000 in
theorem c_lawNo (hd : 1 ≤ d) (hT : T.length < 1000) (h : LOK v R) (hf : v 5 < 0) : im_ct ro T d 6 [mr 0] (LC 0 v R g) (fun r w => r = some mn ∧ w = LC 0 v R g) := by
  obtain ⟨d, rfl⟩ : ∃ e, d = e + 1 := ⟨d - 1, by omega⟩
  have h1 := lk_for h
  have h2 := lk_law h
  refine im_ct_of (own := 1) (ret := (some (.object "OverByTens$Text"))) (code := ab_k_X1_lawInForce) (nL := 1) (L0 := [some (mr 0)]) (n := 12) rfl rfl rfl rfl rfl rfl rfl rfl rfl ?_
  refine im_g 2 (y := (4, _, _, _)) rfl trivial ?_
  refine im_bT rfl rfl ⟨(by omega), trivial⟩ (by omega) ?_
  refine im_g 1 (y := (40, _, _, _)) rfl trivial ?_
  refine im_r rfl rfl trivial rfl ?_
  exact ⟨rfl, rfl⟩
set_option maxHeartbeats 8000000 in
theorem c_lawIs (hd : 1 ≤ d) (hT : T.length < 1000) (h : LOK v R) (hf : 0 ≤ v 5) {t : Nat} (hg : g (v 5) = some t) : im_ct ro T d 6 [mr 0] (LC 0 v R g) (fun r w => r = some (mt t) ∧ w = LC 0 v R g) := by
  obtain ⟨d, rfl⟩ : ∃ e, d = e + 1 := ⟨d - 1, by omega⟩
  have h1 := lk_for h
  have h2 := lk_law h
  refine im_ct_of (own := 1) (ret := (some (.object "OverByTens$Text"))) (code := ab_k_X1_lawInForce) (nL := 1) (L0 := [some (mr 0)]) (n := 12) rfl rfl rfl rfl rfl rfl rfl rfl rfl ?_
  refine im_g 2 (y := (4, _, _, _)) rfl trivial ?_
  refine im_bF rfl rfl ⟨(by omega), trivial⟩ (by omega) ?_
  refine im_g 4 (y := (15, _, _, _)) rfl trivial ?_
  refine im_bF rfl rfl ⟨(by omega), (by omega), trivial⟩ (by omega) ?_
  refine im_g 3 (y := (24, _, _, _)) rfl trivial ?_
  refine im_bF rfl rfl ⟨(by omega), (by omega), trivial⟩ (by omega) ?_
  refine im_g 4 (y := (35, _, _, _)) rfl trivial ?_
  refine im_aal rfl rfl (by omega) hg ?_
  refine im_g 1 (y := (40, _, _, _)) rfl trivial ?_
  refine im_r rfl rfl trivial rfl ?_
  exact ⟨rfl, rfl⟩
set_option maxHeartbeats 8000000 in
theorem c_addParish (hd : 1 ≤ d) (hT : T.length < 1000) {u c : Int} (hu : im_ir u) (hc : im_ir c) (h : LOK v R) : im_ct ro T d 8 [mr 0, .inl u, .inl c] (LC 0 v R g) (fun r w => r = some (.inl (pl_add u c v R).1) ∧ w = LC 0 (pl_add u c v R).2.1 (pl_add u c v R).2.2 g) := by
  obtain ⟨d, rfl⟩ : ∃ e, d = e + 1 := ⟨d - 1, by omega⟩
  have h1 := lk_par h
  have h2 := lk_dep h u
  refine im_ct_of (own := 1) (ret := (some .int)) (code := ab_k_X1_addParish) (nL := 3) (L0 := [some (mr 0), some (.inl u), some (.inl c)]) (n := 12) rfl rfl rfl rfl rfl rfl rfl rfl rfl ?_
  refine im_g 2 (y := (2, _, _, _)) rfl trivial ?_
  refine im_b rfl rfl ⟨(by omega), (by omega), trivial⟩ (fun j1 => ?_) (fun j1 => ?_)
  · refine im_g 1 (y := (25, _, _, _)) rfl trivial ?_
    refine im_r rfl rfl trivial rfl ?_
    unfold pl_add
    rw [if_pos (by omega)]
    exact ⟨rfl, rfl⟩
  · refine im_g 3 (y := (10, _, _, _)) rfl trivial ?_
    refine im_b rfl rfl ⟨(by omega), (by omega), trivial⟩ (fun j2 => ?_) (fun j2 => ?_)
    · refine im_g 1 (y := (25, _, _, _)) rfl trivial ?_
      refine im_r rfl rfl trivial rfl ?_
      unfold pl_add
      rw [if_pos (by omega)]
      exact ⟨rfl, rfl⟩
    · refine im_g 1 (y := (14, _, _, _)) rfl trivial ?_
      refine im_b rfl rfl ⟨(by omega), trivial⟩ (fun j3 => ?_) (fun j3 => ?_)
      · refine im_g 1 (y := (25, _, _, _)) rfl trivial ?_
        refine im_r rfl rfl trivial rfl ?_
        unfold pl_add
        rw [if_pos (by omega)]
        exact ⟨rfl, rfl⟩
      · refine im_g 2 (y := (21, _, _, _)) rfl trivial ?_
        refine im_b rfl rfl ⟨(by omega), (by omega), trivial⟩ (fun j4 => ?_) (fun j4 => ?_)
        · refine im_g 3 (y := (32, _, _, _)) rfl trivial ?_
          refine im_b rfl rfl ⟨(by omega), (by omega), trivial⟩ (fun j5 => ?_) (fun j5 => ?_)
          · refine im_g 12 (y := (58, _, _, _)) rfl ⟨(by omega), trivial⟩ ?_
            refine im_b rfl rfl ⟨(by omega), (by omega), trivial⟩ (fun j6 => ?_) (fun j6 => ?_)
            · refine im_g 29 (y := (110, _, _, _)) rfl ⟨(by omega), (by omega), (by omega), (by omega), trivial⟩ ?_
              refine im_r rfl rfl trivial rfl ?_
              unfold pl_add
              rw [if_neg (by omega), if_neg (by omega)]
              unfold pl_ad1
              rw [if_neg (by omega)]
              exact ⟨congrArg (fun z => some (Sum.inl z)) (by omega), rfl⟩
            · refine im_g 25 (y := (110, _, _, _)) rfl ⟨(by omega), (by omega), (by omega), trivial⟩ ?_
              refine im_r rfl rfl trivial rfl ?_
              unfold pl_add
              rw [if_neg (by omega), if_neg (by omega)]
              unfold pl_ad1
              rw [if_pos (by omega)]
              exact ⟨congrArg (fun z => some (Sum.inl z)) (by omega), rfl⟩
          · refine im_g 1 (y := (37, _, _, _)) rfl trivial ?_
            refine im_r rfl rfl trivial rfl ?_
            unfold pl_add
            rw [if_neg (by omega), if_pos (by omega)]
            exact ⟨rfl, rfl⟩
        · refine im_g 1 (y := (25, _, _, _)) rfl trivial ?_
          refine im_r rfl rfl trivial rfl ?_
          unfold pl_add
          rw [if_pos (by omega)]
          exact ⟨rfl, rfl⟩
set_option maxHeartbeats 8000000 in
theorem c_arrive (hd : 2 ≤ d) (hT : T.length < 1000) {p n : Int} (hp : im_ir p) (hn : 0 ≤ n ∧ n ≤ 999) (h1 : 0 ≤ v 0 ∧ v 0 ≤ 10) (h3 : 0 ≤ v 2 ∧ v 2 ≤ 99999) (hc : ∀ p, 0 ≤ R 2 p ∧ R 2 p ≤ 999) (h6 : 0 ≤ v 6 ∧ v 6 ≤ 100000000) : im_ct ro T d 12 [mr 0, .inl p, .inl n] (LC 0 v R g) (fun r w => r = none ∧ w = LC 0 (pl_arr p n v R).1 (pl_arr p n v R).2 g) := by
  obtain ⟨d, rfl⟩ : ∃ e, d = e + 1 := ⟨d - 1, by omega⟩
  have h2 := hc p
  refine im_ct_of (own := 1) (ret := none) (code := ab_k_X1_arrive) (nL := 3) (L0 := [some (mr 0), some (.inl p), some (.inl n)]) (n := 12) rfl rfl rfl rfl rfl rfl rfl rfl rfl ?_
  refine im_g 2 (y := (2, _, _, _)) rfl trivial ?_
  refine im_call [0,1,2,3,4,5,6,7,8,9,10,11] rfl rfl (c_has (v := v) (R := R) (g := g) (p := p) (by omega) hT (by omega) (by omega)) rfl rfl rfl (by decide) rfl (by decide) hT (fun v1 w1 hq => ?_)
  obtain ⟨rfl, rfl⟩ := hq
  refine ⟨_, _, LC 0 v R g, rfl, rfl, rfl, ?_⟩
  refine im_b rfl rfl ⟨(by omega), trivial⟩ (fun j1 => ?_) (fun j1 => ?_)
  · refine im_g 14 (y := (56, _, _, _)) rfl ⟨(by omega), (by omega), trivial⟩ ?_
    refine im_r rfl rfl trivial rfl ?_
    unfold pl_arr
    rw [if_neg (by omega)]
    exact ⟨rfl, rfl⟩
  · refine im_g 13 (y := (56, _, _, _)) rfl ⟨(by omega), (by omega), (by omega), (by omega), trivial⟩ ?_
    refine im_r rfl rfl trivial rfl ?_
    unfold pl_arr
    rw [if_pos (by omega)]
    exact ⟨rfl, rfl⟩
set_option maxHeartbeats 8000000 in
theorem c_lendMen (hd : 2 ≤ d) (hT : T.length < 1000) {a b n : Int} (ha : im_ir a) (hb : im_ir b) (hn : im_ir n) (h : LOK v R) : im_ct ro T d 14 [mr 0, .inl a, .inl b, .inl n] (LC 0 v R g) (fun r w => r = some (.inl (pl_lend a b n v R).1) ∧ w = LC 0 v (pl_lend a b n v R).2 g) := by
  obtain ⟨d, rfl⟩ : ∃ e, d = e + 1 := ⟨d - 1, by omega⟩
  have h1 := lk_par h
  have h2 := lk_cnt h a
  have h3 := lk_cnt h b
  have h4 := lk_bel h a
  have h5 := lk_bel h b
  have e1 := fun x => im_up_at (R 2) a b x
  refine im_ct_of (own := 1) (ret := (some .int)) (code := ab_k_X1_lendMen) (nL := 5) (L0 := [some (mr 0), some (.inl a), some (.inl b), some (.inl n), none]) (n := 12) rfl rfl rfl rfl rfl rfl rfl rfl rfl ?_
  refine im_g 2 (y := (2, _, _, _)) rfl trivial ?_
  refine im_b rfl rfl ⟨(by omega), (by omega), trivial⟩ (fun j1 => ?_) (fun j1 => ?_)
  · refine im_g 1 (y := (12, _, _, _)) rfl trivial ?_
    refine im_r rfl rfl trivial rfl ?_
    unfold pl_lend
    rw [if_pos (by omega)]
    exact ⟨rfl, rfl⟩
  · refine im_g 2 (y := (8, _, _, _)) rfl trivial ?_
    refine im_b rfl rfl ⟨(by omega), (by omega), trivial⟩ (fun j2 => ?_) (fun j2 => ?_)
    · refine im_g 2 (y := (15, _, _, _)) rfl trivial ?_
      refine im_call [0,1,2,3,4,5,6,7,8,9,10,11] rfl rfl (c_has (v := v) (R := R) (g := g) (p := a) (by omega) hT (by omega) (by omega)) rfl rfl rfl (by decide) rfl (by decide) hT (fun v1 w1 hq => ?_)
      obtain ⟨rfl, rfl⟩ := hq
      refine ⟨_, _, LC 0 v R g, rfl, rfl, rfl, ?_⟩
      refine im_b rfl rfl ⟨(by omega), trivial⟩ (fun j3 => ?_) (fun j3 => ?_)
      · refine im_g 1 (y := (31, _, _, _)) rfl trivial ?_
        refine im_r rfl rfl trivial rfl ?_
        unfold pl_lend
        rw [if_neg (by omega), if_pos (by omega)]
        exact ⟨rfl, rfl⟩
      · refine im_g 2 (y := (23, _, _, _)) rfl trivial ?_
        refine im_call [0,1,2,3,4,5,6,7,8,9,10,11] rfl rfl (c_has (v := v) (R := R) (g := g) (p := b) (by omega) hT (by omega) (by omega)) rfl rfl rfl (by decide) rfl (by decide) hT (fun v1 w1 hq => ?_)
        obtain ⟨rfl, rfl⟩ := hq
        refine ⟨_, _, LC 0 v R g, rfl, rfl, rfl, ?_⟩
        refine im_b rfl rfl ⟨(by omega), trivial⟩ (fun j4 => ?_) (fun j4 => ?_)
        · refine im_g 5 (y := (39, _, _, _)) rfl ⟨(by omega), trivial⟩ ?_
          refine im_b rfl rfl ⟨(by omega), (by omega), trivial⟩ (fun j5 => ?_) (fun j5 => ?_)
          · refine im_g 4 (y := (61, _, _, _)) rfl trivial ?_
            refine im_b rfl rfl ⟨(by omega), trivial⟩ (fun j6 => ?_) (fun j6 => ?_)
            · refine im_g 1 (y := (90, _, _, _)) rfl trivial ?_
              refine im_r rfl rfl trivial rfl ?_
              unfold pl_lend
              rw [if_neg (by omega), if_neg (by omega), if_pos (by omega)]
              exact ⟨rfl, rfl⟩
            · refine im_g 5 (y := (71, _, _, _)) rfl ⟨(by omega), trivial⟩ ?_
              refine im_b rfl rfl ⟨(by omega), (by omega), trivial⟩ (fun j7 => ?_) (fun j7 => ?_)
              · refine im_g 1 (y := (90, _, _, _)) rfl trivial ?_
                refine im_r rfl rfl trivial rfl ?_
                unfold pl_lend
                rw [if_neg (by omega), if_neg (by omega), if_pos (by omega)]
                exact ⟨rfl, rfl⟩
              · refine im_g 7 (y := (85, _, _, _)) rfl ⟨(by omega), trivial⟩ ?_
                refine im_b rfl rfl ⟨(by omega), (by omega), trivial⟩ (fun j8 => ?_) (fun j8 => ?_)
                · refine im_g 20 (y := (117, _, _, _)) rfl ⟨(by omega), (by omega), (by omega), (by omega), (by omega), trivial⟩ ?_
                  refine im_r rfl rfl trivial rfl ?_
                  unfold pl_lend
                  rw [if_neg (by omega), if_neg (by omega), if_neg (by omega)]
                  exact ⟨rfl, rfl⟩
                · refine im_g 1 (y := (90, _, _, _)) rfl trivial ?_
                  refine im_r rfl rfl trivial rfl ?_
                  unfold pl_lend
                  rw [if_neg (by omega), if_neg (by omega), if_pos (by omega)]
                  exact ⟨rfl, rfl⟩
          · refine im_g 5 (y := (49, _, _, _)) rfl ⟨(by omega), trivial⟩ ?_
            refine im_b rfl rfl ⟨(by omega), (by omega), trivial⟩ (fun j9 => ?_) (fun j9 => ?_)
            · refine im_g 3 (y := (61, _, _, _)) rfl trivial ?_
              refine im_b rfl rfl ⟨(by omega), trivial⟩ (fun j10 => ?_) (fun j10 => ?_)
              · refine im_g 1 (y := (90, _, _, _)) rfl trivial ?_
                refine im_r rfl rfl trivial rfl ?_
                unfold pl_lend
                rw [if_neg (by omega), if_neg (by omega), if_pos (by omega)]
                exact ⟨rfl, rfl⟩
              · refine im_g 5 (y := (71, _, _, _)) rfl ⟨(by omega), trivial⟩ ?_
                refine im_b rfl rfl ⟨(by omega), (by omega), trivial⟩ (fun j11 => ?_) (fun j11 => ?_)
                · refine im_g 1 (y := (90, _, _, _)) rfl trivial ?_
                  refine im_r rfl rfl trivial rfl ?_
                  unfold pl_lend
                  rw [if_neg (by omega), if_neg (by omega), if_pos (by omega)]
                  exact ⟨rfl, rfl⟩
                · refine im_g 7 (y := (85, _, _, _)) rfl ⟨(by omega), trivial⟩ ?_
                  refine im_b rfl rfl ⟨(by omega), (by omega), trivial⟩ (fun j12 => ?_) (fun j12 => ?_)
                  · refine im_g 20 (y := (117, _, _, _)) rfl ⟨(by omega), (by omega), (by omega), (by omega), (by omega), trivial⟩ ?_
                    refine im_r rfl rfl trivial rfl ?_
                    unfold pl_lend
                    rw [if_neg (by omega), if_neg (by omega), if_neg (by omega)]
                    exact ⟨rfl, rfl⟩
                  · refine im_g 1 (y := (90, _, _, _)) rfl trivial ?_
                    refine im_r rfl rfl trivial rfl ?_
                    unfold pl_lend
                    rw [if_neg (by omega), if_neg (by omega), if_pos (by omega)]
                    exact ⟨rfl, rfl⟩
            · refine im_g 4 (y := (61, _, _, _)) rfl trivial ?_
              refine im_b rfl rfl ⟨(by omega), trivial⟩ (fun j13 => ?_) (fun j13 => ?_)
              · refine im_g 1 (y := (90, _, _, _)) rfl trivial ?_
                refine im_r rfl rfl trivial rfl ?_
                unfold pl_lend
                rw [if_neg (by omega), if_neg (by omega), if_pos (by omega)]
                exact ⟨rfl, rfl⟩
              · refine im_g 5 (y := (71, _, _, _)) rfl ⟨(by omega), trivial⟩ ?_
                refine im_b rfl rfl ⟨(by omega), (by omega), trivial⟩ (fun j14 => ?_) (fun j14 => ?_)
                · refine im_g 1 (y := (90, _, _, _)) rfl trivial ?_
                  refine im_r rfl rfl trivial rfl ?_
                  unfold pl_lend
                  rw [if_neg (by omega), if_neg (by omega), if_pos (by omega)]
                  exact ⟨rfl, rfl⟩
                · refine im_g 7 (y := (85, _, _, _)) rfl ⟨(by omega), trivial⟩ ?_
                  refine im_b rfl rfl ⟨(by omega), (by omega), trivial⟩ (fun j15 => ?_) (fun j15 => ?_)
                  · refine im_g 20 (y := (117, _, _, _)) rfl ⟨(by omega), (by omega), (by omega), (by omega), (by omega), trivial⟩ ?_
                    refine im_r rfl rfl trivial rfl ?_
                    unfold pl_lend
                    rw [if_neg (by omega), if_neg (by omega), if_neg (by omega)]
                    exact ⟨rfl, rfl⟩
                  · refine im_g 1 (y := (90, _, _, _)) rfl trivial ?_
                    refine im_r rfl rfl trivial rfl ?_
                    unfold pl_lend
                    rw [if_neg (by omega), if_neg (by omega), if_pos (by omega)]
                    exact ⟨rfl, rfl⟩
        · refine im_g 1 (y := (31, _, _, _)) rfl trivial ?_
          refine im_r rfl rfl trivial rfl ?_
          unfold pl_lend
          rw [if_neg (by omega), if_pos (by omega)]
          exact ⟨rfl, rfl⟩
    · refine im_g 1 (y := (12, _, _, _)) rfl trivial ?_
      refine im_r rfl rfl trivial rfl ?_
      unfold pl_lend
      rw [if_pos (by omega)]
      exact ⟨rfl, rfl⟩
end Lc
