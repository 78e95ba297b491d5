/-! the class itself: its helpers -/
/-- the class's own object in a small world: what lies outside by its place in the class's world; rf: where the refusals lie, rd: the reader, ld: the land -/
def OB (ld rd rf : Nat) (b yk lr fa so sn : Int) : im_E := .inl (8, [.inl b, mr ld, mr 500013, mr 500014, mr 500015, .inl yk, mr 500027, mr 500029, mr 500033, mr 500041, mr rd, mr rf, .inl lr, .inl fa, .inl so, .inl sn])
def ob_ref (a : Int) (rf : Int → Int) : Int → Int := if a = -1 then im_up rf 0 (rf 0 + 1) else if a = -2 then im_up rf 1 (rf 1 + 1) else if a = -3 then im_up rf 2 (rf 2 + 1) else if a = -5 then im_up rf 3 (rf 3 + 1) else if a = -6 then im_up rf 4 (rf 4 + 1) else rf
/-- the reader's own object: where its tape, its text lie -/
def RD (tp tx : Nat) (v : Nat → Int) : im_E := .inl (5, [mr tp, mr tx, .inl (v 0), .inl (v 1), .inl (v 2), .inl (v 3), .inl (v 4), .inl (v 5), .inl (v 6)])
def ob_four (x b : Int) (A : Int → Int) : Nat → Int → Int
  | 0 => A
  | k + 1 => im_up (ob_four x b A k) (b + (k : Int)) (im_and (im_ushr x (24 - 8 * (k : Int))) 255)
def ob_tape (at_ b : Int) (A : Int → Int) (v : Nat → Int) (R : Nat → Int → Int) : Int × (Nat → Int) × (Nat → Int → Int) := if at_ < 0 ∨ b ≤ at_ + 2 ∨ 400 ≤ at_ + 2 ∨ 9 < A (at_ + 2) then (0, v, R) else (if (pl_add (A at_ - 1) (10 * A (at_ + 1) + A (at_ + 2)) v R).1 < 0 then 0 else 1, (pl_add (A at_ - 1) (10 * A (at_ + 1) + A (at_ + 2)) v R).2)
theorem pl_add_b {u c : Int} {v : Nat → Int} {R : Nat → Int → Int} (h : LOK v R) : -5 ≤ (pl_add u c v R).1 ∧ (pl_add u c v R).1 ≤ 10 := by
  have := lk_par h
  unfold pl_add
  split
  · dsimp only; omega
  split
  · dsimp only; omega
  · dsimp only; omega
section Ob
variable {ro : ab_R} {T : List im_T} {d : Nat} {b yk lr fa so sn : Int}
set_option maxHeartbeats 8000000 in
theorem c_settle (hd : 1 ≤ d) (hT : T.length < 1000) {a : Int} (ha : im_ir a) {rf : Int → Int} : im_ct ro T d 115 [mr 0, .inl a] ([OB 500001 500065 1 b yk lr fa so sn, .inr (0, 5, .inl rf)]) (fun r w => r = some (.inl a) ∧ w = [OB 500001 500065 1 b yk (if a < 0 then a else 0) fa so sn, .inr (0, 5, .inl (ob_ref a rf))]) := by
  obtain ⟨d, rfl⟩ : ∃ e, d = e + 1 := ⟨d - 1, by omega⟩
  refine im_ct_of (own := 8) (ret := (some .int)) (code := ab_k_X8_settle) (nL := 2) (L0 := [some (mr 0), some (.inl a)]) (n := 2) rfl rfl rfl rfl rfl rfl rfl rfl rfl ?_
  refine im_g 2 (y := (2, _, _, _)) rfl trivial ?_
  refine im_b rfl rfl ⟨(by omega), trivial⟩ (fun j1 => ?_) (fun j1 => ?_)
  · refine im_g 3 (y := (14, _, _, _)) rfl trivial ?_
    have hk : a = -1 ∨ a = -2 ∨ a = -3 ∨ a = -4 ∨ a = -5 ∨ a = -6 ∨ (a < -6 ∨ -1 < a) := by omega
    rcases hk with rfl | rfl | rfl | rfl | rfl | rfl | hk
    · refine im_sw (tgt := 52) rfl (by decide) (by decide) (Or.inr ⟨_, rfl, by decide⟩) (by decide) ?_
      refine im_g 10 (y := (118, _, _, _)) rfl ⟨(by omega), (by omega), trivial⟩ ?_
      refine im_r rfl rfl trivial rfl ?_
      exact absurd (show (0 : Int) ≤ -1 from by assumption) (by decide)
    · refine im_sw (tgt := 65) rfl (by decide) (by decide) (Or.inr ⟨_, rfl, by decide⟩) (by decide) ?_
      refine im_g 10 (y := (118, _, _, _)) rfl ⟨(by omega), (by omega), trivial⟩ ?_
      refine im_r rfl rfl trivial rfl ?_
      exact absurd (show (0 : Int) ≤ -2 from by assumption) (by decide)
    · refine im_sw (tgt := 78) rfl (by decide) (by decide) (Or.inr ⟨_, rfl, by decide⟩) (by decide) ?_
      refine im_g 10 (y := (118, _, _, _)) rfl ⟨(by omega), (by omega), trivial⟩ ?_
      refine im_r rfl rfl trivial rfl ?_
      exact absurd (show (0 : Int) ≤ -3 from by assumption) (by decide)
    · refine im_sw (tgt := 117) rfl (by decide) (by decide) (Or.inr ⟨_, rfl, by decide⟩) (by decide) ?_
      refine im_g 1 (y := (118, _, _, _)) rfl trivial ?_
      refine im_r rfl rfl trivial rfl ?_
      exact absurd (show (0 : Int) ≤ -4 from by assumption) (by decide)
    · refine im_sw (tgt := 91) rfl (by decide) (by decide) (Or.inr ⟨_, rfl, by decide⟩) (by decide) ?_
      refine im_g 10 (y := (118, _, _, _)) rfl ⟨(by omega), (by omega), trivial⟩ ?_
      refine im_r rfl rfl trivial rfl ?_
      exact absurd (show (0 : Int) ≤ -5 from by assumption) (by decide)
    · refine im_sw (tgt := 104) rfl (by decide) (by decide) (Or.inr ⟨_, rfl, by decide⟩) (by decide) ?_
      refine im_g 10 (y := (118, _, _, _)) rfl ⟨(by omega), (by omega), trivial⟩ ?_
      refine im_r rfl rfl trivial rfl ?_
      exact absurd (show (0 : Int) ≤ -6 from by assumption) (by decide)
    · refine im_sw (tgt := 117) rfl (by omega) (by decide) (Or.inl hk) (by unfold im_ts; rw [if_pos hk]; rfl) ?_
      refine im_g 1 (y := (118, _, _, _)) rfl trivial ?_
      refine im_r rfl rfl trivial rfl ?_
      unfold ob_ref
      rw [if_neg (by omega)]
      rw [if_neg (by omega), if_neg (by omega), if_neg (by omega), if_neg (by omega), if_neg (by omega)]
      exact ⟨rfl, rfl⟩
  · refine im_g 4 (y := (14, _, _, _)) rfl trivial ?_
    have hk : a = -1 ∨ a = -2 ∨ a = -3 ∨ a = -4 ∨ a = -5 ∨ a = -6 ∨ (a < -6 ∨ -1 < a) := by omega
    rcases hk with rfl | rfl | rfl | rfl | rfl | rfl | hk
    · refine im_sw (tgt := 52) rfl (by decide) (by decide) (Or.inr ⟨_, rfl, by decide⟩) (by decide) ?_
      refine im_g 10 (y := (118, _, _, _)) rfl ⟨(by omega), (by omega), trivial⟩ ?_
      refine im_r rfl rfl trivial rfl ?_
      unfold ob_ref
      rw [if_pos (by omega)]
      rw [if_pos rfl]
      exact ⟨rfl, rfl⟩
    · refine im_sw (tgt := 65) rfl (by decide) (by decide) (Or.inr ⟨_, rfl, by decide⟩) (by decide) ?_
      refine im_g 10 (y := (118, _, _, _)) rfl ⟨(by omega), (by omega), trivial⟩ ?_
      refine im_r rfl rfl trivial rfl ?_
      unfold ob_ref
      rw [if_pos (by omega)]
      rw [if_neg (by decide), if_pos rfl]
      exact ⟨rfl, rfl⟩
    · refine im_sw (tgt := 78) rfl (by decide) (by decide) (Or.inr ⟨_, rfl, by decide⟩) (by decide) ?_
      refine im_g 10 (y := (118, _, _, _)) rfl ⟨(by omega), (by omega), trivial⟩ ?_
      refine im_r rfl rfl trivial rfl ?_
      unfold ob_ref
      rw [if_pos (by omega)]
      rw [if_neg (by decide), if_neg (by decide), if_pos rfl]
      exact ⟨rfl, rfl⟩
    · refine im_sw (tgt := 117) rfl (by decide) (by decide) (Or.inr ⟨_, rfl, by decide⟩) (by decide) ?_
      refine im_g 1 (y := (118, _, _, _)) rfl trivial ?_
      refine im_r rfl rfl trivial rfl ?_
      unfold ob_ref
      rw [if_pos (by omega)]
      rw [if_neg (by decide), if_neg (by decide), if_neg (by decide), if_neg (by decide), if_neg (by decide)]
      exact ⟨rfl, rfl⟩
    · refine im_sw (tgt := 91) rfl (by decide) (by decide) (Or.inr ⟨_, rfl, by decide⟩) (by decide) ?_
      refine im_g 10 (y := (118, _, _, _)) rfl ⟨(by omega), (by omega), trivial⟩ ?_
      refine im_r rfl rfl trivial rfl ?_
      unfold ob_ref
      rw [if_pos (by omega)]
      rw [if_neg (by decide), if_neg (by decide), if_neg (by decide), if_pos rfl]
      exact ⟨rfl, rfl⟩
    · refine im_sw (tgt := 104) rfl (by decide) (by decide) (Or.inr ⟨_, rfl, by decide⟩) (by decide) ?_
      refine im_g 10 (y := (118, _, _, _)) rfl ⟨(by omega), (by omega), trivial⟩ ?_
      refine im_r rfl rfl trivial rfl ?_
      unfold ob_ref
      rw [if_pos (by omega)]
      rw [if_neg (by decide), if_neg (by decide), if_neg (by decide), if_neg (by decide), if_pos rfl]
      exact ⟨rfl, rfl⟩
    · refine im_sw (tgt := 117) rfl (by omega) (by decide) (Or.inl hk) (by unfold im_ts; rw [if_pos hk]; rfl) ?_
      refine im_g 1 (y := (118, _, _, _)) rfl trivial ?_
      refine im_r rfl rfl trivial rfl ?_
      unfold ob_ref
      rw [if_pos (by omega)]
      rw [if_neg (by omega), if_neg (by omega), if_neg (by omega), if_neg (by omega), if_neg (by omega)]
      exact ⟨rfl, rfl⟩
set_option maxHeartbeats 8000000 in
theorem c_putFour (hd : 1 ≤ d) (hT : T.length < 1000) {x : Int} (hb : 0 ≤ b ∧ b ≤ 396) {v : Nat → Int} {A : Int → Int} : im_ct ro T d 117 [mr 0, .inl x] ([OB 500001 1 500070 b yk lr fa so sn, RD 2 500067 v, .inr (0, 400, .inl A)]) (fun r w => r = none ∧ w = [OB 500001 1 500070 (b + 4) yk lr fa so sn, RD 2 500067 v, .inr (0, 400, .inl (ob_four x b A 4))]) := by
  obtain ⟨d, rfl⟩ : ∃ e, d = e + 1 := ⟨d - 1, by omega⟩
  refine im_ct_of (own := 8) (ret := none) (code := ab_k_X8_putFour) (nL := 3) (L0 := [some (mr 0), some (.inl x), none]) (n := 3) rfl rfl rfl rfl rfl rfl rfl rfl rfl ?_
  refine im_g 2 (y := (3, _, _, _)) rfl trivial ?_
  refine im_eqs (y := (3, [some (mr 0), some (.inl x), some (.inl (24 - 8 * ((0 : Nat) : Int)))], [], [OB 500001 1 500070 (b + ((0 : Nat) : Int)) yk lr fa so sn, RD 2 500067 v, .inr (0, 400, .inl (ob_four x b A 0))])) (by rw [show b + ((0 : Nat) : Int) = b by omega]; rfl) ?_
  refine im_for 4 (fun k => (3, [some (mr 0), some (.inl x), some (.inl (24 - 8 * (k : Int)))], [], [OB 500001 1 500070 (b + (k : Int)) yk lr fa so sn, RD 2 500067 v, .inr (0, 400, .inl (ob_four x b A k))])) (fun k hk ih => ?_) ?_
  · refine im_g 1 (y := (4, _, _, _)) rfl trivial ?_
    refine im_bF rfl rfl ⟨(by omega), trivial⟩ (by omega) ?_
    refine im_g 3 (y := (14, _, _, _)) rfl trivial ?_
    refine im_bF rfl rfl ⟨(by omega), (by omega), trivial⟩ (by omega) ?_
    refine im_g 19 (y := (3, _, _, _)) rfl ⟨(by omega), trivial⟩ ?_
    exact im_eqs (im_2 (fun y z => ((3, [some (mr 0), some (.inl x), some (.inl (y))], [], [OB 500001 1 500070 (z) yk lr fa so sn, RD 2 500067 v, .inr (0, 400, .inl (ob_four x b A (k + 1)))]) : im_S)) (show 24 - 8 * (k : Int) + -8 = 24 - 8 * ((k + 1 : Nat) : Int) by omega) (show b + (k : Int) + 1 = b + ((k + 1 : Nat) : Int) by omega)) ih
  · refine im_g 1 (y := (4, _, _, _)) rfl trivial ?_
    refine im_bT rfl rfl ⟨(by omega), trivial⟩ (by omega) ?_
    refine im_r rfl rfl trivial rfl ?_
    exact ⟨rfl, rfl⟩
set_option maxHeartbeats 8000000 in
theorem c_fromTape (hd : 2 ≤ d) (hT : T.length < 1000) {a : Int} (ha : 0 ≤ a ∧ a ≤ 400) (hb : 0 ≤ b ∧ b ≤ 400) {v : Nat → Int} {R : Nat → Int → Int} {g : Int → Option Nat} (h : LOK v R) {rv : Nat → Int} {A : Int → Int} (hA : ∀ i, 0 ≤ A i ∧ A i ≤ 255) : im_ct ro T d 118 [mr 0, .inl a] ([OB 1 13 500070 b yk lr fa so sn] ++ LC 1 v R g ++ [RD 14 500067 rv, .inr (0, 400, .inl A)]) (fun r w => r = some (.inl (ob_tape a b A v R).1) ∧ w = [OB 1 13 500070 b yk lr fa so sn] ++ LC 1 (ob_tape a b A v R).2.1 (ob_tape a b A v R).2.2 g ++ [RD 14 500067 rv, .inr (0, 400, .inl A)]) := by
  obtain ⟨d, rfl⟩ : ∃ e, d = e + 1 := ⟨d - 1, by omega⟩
  have a0 := hA a
  have a1 := hA (a + 1)
  have a2 := hA (a + 2)
  refine im_ct_of (own := 8) (ret := (some .boolean)) (code := ab_k_X8_addFromTape) (nL := 3) (L0 := [some (mr 0), some (.inl a), none]) (n := 15) rfl rfl rfl rfl rfl rfl rfl rfl rfl ?_
  refine im_g 5 (y := (9, _, _, _)) rfl trivial ?_
  refine im_bF rfl rfl ⟨(by omega), trivial⟩ (by omega) ?_
  refine im_g 5 (y := (19, _, _, _)) rfl trivial ?_
  refine im_b rfl rfl ⟨(by omega), (by omega), trivial⟩ (fun j1 => ?_) (fun j1 => ?_)
  · refine im_g 1 (y := (41, _, _, _)) rfl trivial ?_
    refine im_r rfl rfl ⟨(by omega), trivial⟩ rfl ?_
    unfold ob_tape
    rw [if_pos (by omega)]
    exact ⟨rfl, rfl⟩
  · refine im_g 5 (y := (27, _, _, _)) rfl trivial ?_
    refine im_b rfl rfl ⟨(by omega), (by omega), trivial⟩ (fun j2 => ?_) (fun j2 => ?_)
    · refine im_g 1 (y := (41, _, _, _)) rfl trivial ?_
      refine im_r rfl rfl ⟨(by omega), trivial⟩ rfl ?_
      unfold ob_tape
      rw [if_pos (by omega)]
      exact ⟨rfl, rfl⟩
    · refine im_g 6 (y := (37, _, _, _)) rfl ⟨(by omega), trivial⟩ ?_
      refine im_b rfl rfl ⟨(by omega), (by omega), trivial⟩ (fun j3 => ?_) (fun j3 => ?_)
      · refine im_g 20 (y := (65, _, _, _)) rfl ⟨(by omega), (by omega), (by omega), trivial⟩ ?_
        refine im_call [1,2,3,4,5,6,7,8,9,10,11,12] rfl rfl (c_addParish (v := v) (R := R) (g := g) (u := A a - 1) (c := 10 * A (a + 1) + A (a + 2)) (by omega) hT (by omega) (by omega) h) rfl rfl rfl (by decide) rfl (by decide) hT (fun v1 w1 hq => ?_)
        obtain ⟨rfl, rfl⟩ := hq
        refine ⟨_, _, [OB 1 13 500070 b yk lr fa so sn] ++ LC 1 (pl_add (A a - 1) (10 * A (a + 1) + A (a + 2)) v R).2.1 (pl_add (A a - 1) (10 * A (a + 1) + A (a + 2)) v R).2.2 g ++ [RD 14 500067 rv, .inr (0, 400, .inl A)], rfl, rfl, rfl, ?_⟩
        have hr := pl_add_b (u := A a - 1) (c := 10 * A (a + 1) + A (a + 2)) h
        refine im_b rfl rfl ⟨(by omega), trivial⟩ (fun j4 => ?_) (fun j4 => ?_)
        · refine im_g 1 (y := (76, _, _, _)) rfl trivial ?_
          refine im_r rfl rfl ⟨(by omega), trivial⟩ rfl ?_
          unfold ob_tape
          rw [if_neg (by omega)]
          refine ⟨?_, rfl⟩
          show _ = some (Sum.inl (if _ then _ else _))
          rw [if_pos (by omega)]
        · refine im_g 2 (y := (76, _, _, _)) rfl trivial ?_
          refine im_r rfl rfl ⟨(by omega), trivial⟩ rfl ?_
          unfold ob_tape
          rw [if_neg (by omega)]
          refine ⟨?_, rfl⟩
          show _ = some (Sum.inl (if _ then _ else _))
          rw [if_neg (by omega)]
      · refine im_g 1 (y := (41, _, _, _)) rfl trivial ?_
        refine im_r rfl rfl ⟨(by omega), trivial⟩ rfl ?_
        unfold ob_tape
        rw [if_pos (by omega)]
        exact ⟨rfl, rfl⟩
end Ob
