/-! the past -/
/-- a past: first, kept; its rows -/
def QC (o : Nat) (f k : Int) (rw : Int → Int) : im_W := [.inl (4, [mr (o + 1), .inl f, .inl k]), .inr (0, 1224, .inl rw)]
def pt_at (f k : Int) : Int := (f + k) % 17 * 72
theorem pt_at_b {f k : Int} : 0 ≤ pt_at f k ∧ pt_at f k ≤ 1152 := by unfold pt_at; omega
def pt_note (a kind : Int) (v : Nat → Int) (R : Nat → Int → Int) (rw : Int → Int) : Int → Int := im_up (im_up (im_up (im_up (im_cpy (R 6) (im_cpy (R 5) (im_cpy (R 4) (im_cpy (R 3) (im_cpy (R 2) rw 0 a 10) 0 (a + 10) 10) 0 (a + 10 + 10) 16) 0 (a + 10 + 10 + 16) 16) 0 (a + 10 + 10 + 16 + 16) 16) (a + 10 + 10 + 16 + 16 + 16) (v 1)) (a + 10 + 10 + 16 + 16 + 16 + 1) (v 2)) (a + 10 + 10 + 16 + 16 + 16 + 2) (R 7 0)) (a + 10 + 10 + 16 + 16 + 16 + 3) kind
def pt_keep (f k : Int) : Int × Int := if 16 ≤ k then ((f + 1) % 17, k) else (f, k + 1)
def pt_backR (a : Int) (rw : Int → Int) (R : Nat → Int → Int) : Nat → Int → Int := fun i => match i with
  | 2 => im_cpy rw (R 2) a 0 10
  | 3 => im_cpy rw (R 3) (a + 10) 0 10
  | 4 => im_cpy rw (R 4) (a + 10 + 10) 0 16
  | 5 => im_cpy rw (R 5) (a + 10 + 10 + 16) 0 16
  | 6 => im_cpy rw (R 6) (a + 10 + 10 + 16 + 16) 0 16
  | 7 => im_up (R 7) 0 (rw (a + 10 + 10 + 16 + 16 + 16 + 2))
  | j => R j
def pt_backv (a : Int) (rw : Int → Int) (v : Nat → Int) : Nat → Int := fun i => match i with
  | 1 => rw (a + 10 + 10 + 16 + 16 + 16)
  | 2 => rw (a + 10 + 10 + 16 + 16 + 16 + 1)
  | j => v j
section Pa
variable {ro : ab_R} {T : List im_T} {d : Nat} {f k : Int} {rw : Int → Int} {v : Nat → Int} {R : Nat → Int → Int} {g : Int → Option Nat}
set_option maxHeartbeats 8000000 in
theorem c_clear (hd : 1 ≤ d) (hT : T.length < 1000)  : im_ct ro T d 37 [mr 0] (QC 0 f k rw) (fun r w => r = none ∧ w = QC 0 f 0 rw) := by
  obtain ⟨d, rfl⟩ : ∃ e, d = e + 1 := ⟨d - 1, by omega⟩
  refine im_ct_of (own := 4) (ret := none) (code := ab_k_X4_clear) (nL := 1) (L0 := [some (mr 0)]) (n := 2) rfl rfl rfl rfl rfl rfl rfl rfl rfl ?_
  refine im_g 3 (y := (5, _, _, _)) rfl trivial ?_
  refine im_r rfl rfl trivial rfl ?_
  exact ⟨rfl, rfl⟩
set_option maxHeartbeats 8000000 in
theorem c_slotAt (hd : 1 ≤ d) (hT : T.length < 1000) (hf : 0 ≤ f ∧ f ≤ 16) {n : Int} (hn : 0 ≤ n ∧ n ≤ 16) : im_ct ro T d 41 [mr 0, .inl n] (QC 0 f k rw) (fun r w => r = some (.inl (pt_at f n)) ∧ w = QC 0 f k rw) := by
  obtain ⟨d, rfl⟩ : ∃ e, d = e + 1 := ⟨d - 1, by omega⟩
  refine im_ct_of (own := 4) (ret := (some .int)) (code := ab_k_X4_slotAt) (nL := 2) (L0 := [some (mr 0), some (.inl n)]) (n := 2) rfl rfl rfl rfl rfl rfl rfl rfl rfl ?_
  refine im_g 8 (y := (12, _, _, _)) rfl ⟨(by omega), (by omega), (by omega), trivial⟩ ?_
  refine im_r rfl rfl trivial rfl ?_
  have e : (f + n).tmod 17 = (f + n) % 17 := Int.tmod_eq_emod_of_nonneg (by omega)
  unfold pt_at
  rw [e]
  exact ⟨rfl, rfl⟩
set_option maxHeartbeats 8000000 in
theorem c_keep (hd : 1 ≤ d) (hT : T.length < 1000) (hf : 0 ≤ f ∧ f ≤ 16) (hk : 0 ≤ k ∧ k ≤ 16) : im_ct ro T d 39 [mr 0] (QC 0 f k rw) (fun r w => r = none ∧ w = QC 0 (pt_keep f k).1 (pt_keep f k).2 rw) := by
  obtain ⟨d, rfl⟩ : ∃ e, d = e + 1 := ⟨d - 1, by omega⟩
  refine im_ct_of (own := 4) (ret := none) (code := ab_k_X4_keep) (nL := 1) (L0 := [some (mr 0)]) (n := 2) rfl rfl rfl rfl rfl rfl rfl rfl rfl ?_
  refine im_g 3 (y := (6, _, _, _)) rfl trivial ?_
  refine im_b rfl rfl ⟨(by omega), (by omega), trivial⟩ (fun j1 => ?_) (fun j1 => ?_)
  · refine im_g 8 (y := (35, _, _, _)) rfl ⟨(by omega), (by omega), (by omega), trivial⟩ ?_
    refine im_r rfl rfl trivial rfl ?_
    have e : (f + 1).tmod 17 = (f + 1) % 17 := Int.tmod_eq_emod_of_nonneg (by omega)
    unfold pt_keep
    rw [if_pos (by omega), ← e]
    exact ⟨rfl, rfl⟩
  · refine im_g 7 (y := (35, _, _, _)) rfl trivial ?_
    refine im_r rfl rfl trivial rfl ?_
    have e : (f + 1).tmod 17 = (f + 1) % 17 := Int.tmod_eq_emod_of_nonneg (by omega)
    unfold pt_keep
    rw [if_neg (by omega)]
    exact ⟨rfl, rfl⟩
set_option maxHeartbeats 8000000 in
theorem c_note (hd : 2 ≤ d) (hT : T.length < 1000) (hf : 0 ≤ f ∧ f ≤ 16) (hk : 0 ≤ k ∧ k ≤ 16) {kind : Int} : im_ct ro T d 38 [mr 0, .inl kind, mr 2] (QC 0 f k rw ++ LC 2 v R g) (fun r w => r = none ∧ w = QC 0 f k (pt_note (pt_at f k) kind v R rw) ++ LC 2 v R g) := by
  obtain ⟨d, rfl⟩ : ∃ e, d = e + 1 := ⟨d - 1, by omega⟩
  refine im_ct_of (own := 4) (ret := none) (code := ab_k_X4_note) (nL := 4) (L0 := [some (mr 0), some (.inl kind), some (mr 2), none]) (n := 14) rfl rfl rfl rfl rfl rfl rfl rfl rfl ?_
  refine im_g 3 (y := (5, _, _, _)) rfl trivial ?_
  refine im_call [0,1] rfl rfl (c_slotAt (f := f) (k := k) (rw := rw) (by omega) hT hf (n := k) (by omega)) rfl rfl rfl (by decide) rfl (by decide) hT (fun v1 w1 hq => ?_)
  obtain ⟨rfl, rfl⟩ := hq
  refine ⟨_, _, QC 0 f k rw ++ LC 2 v R g, rfl, rfl, rfl, ?_⟩
  have hb := pt_at_b (f := f) (k := k)
  refine im_g 9 (y := (24, _, _, _)) rfl ⟨(by omega), (by omega), (by omega), (by omega), (by omega), trivial⟩ ?_
  refine im_eqs (y := (24, [some (mr 0), some (.inl kind), some (mr 2), some (.inl (pt_at f k))], [], QC 0 f k (im_cpy (R 2) rw 0 (pt_at f k) 10) ++ LC 2 v R g)) rfl ?_
  refine im_g 9 (y := (42, _, _, _)) rfl ⟨(by omega), (by omega), (by omega), (by omega), (by omega), trivial⟩ ?_
  refine im_eqs (y := (42, [some (mr 0), some (.inl kind), some (mr 2), some (.inl (pt_at f k + 10))], [], QC 0 f k (im_cpy (R 3) (im_cpy (R 2) rw 0 (pt_at f k) 10) 0 (pt_at f k + 10) 10) ++ LC 2 v R g)) rfl ?_
  refine im_g 9 (y := (60, _, _, _)) rfl ⟨(by omega), (by omega), (by omega), (by omega), (by omega), trivial⟩ ?_
  refine im_eqs (y := (60, [some (mr 0), some (.inl kind), some (mr 2), some (.inl (pt_at f k + 10 + 10))], [], QC 0 f k (im_cpy (R 4) (im_cpy (R 3) (im_cpy (R 2) rw 0 (pt_at f k) 10) 0 (pt_at f k + 10) 10) 0 (pt_at f k + 10 + 10) 16) ++ LC 2 v R g)) rfl ?_
  refine im_g 9 (y := (78, _, _, _)) rfl ⟨(by omega), (by omega), (by omega), (by omega), (by omega), trivial⟩ ?_
  refine im_eqs (y := (78, [some (mr 0), some (.inl kind), some (mr 2), some (.inl (pt_at f k + 10 + 10 + 16))], [], QC 0 f k (im_cpy (R 5) (im_cpy (R 4) (im_cpy (R 3) (im_cpy (R 2) rw 0 (pt_at f k) 10) 0 (pt_at f k + 10) 10) 0 (pt_at f k + 10 + 10) 16) 0 (pt_at f k + 10 + 10 + 16) 16) ++ LC 2 v R g)) rfl ?_
  refine im_g 9 (y := (96, _, _, _)) rfl ⟨(by omega), (by omega), (by omega), (by omega), (by omega), trivial⟩ ?_
  refine im_eqs (y := (96, [some (mr 0), some (.inl kind), some (mr 2), some (.inl (pt_at f k + 10 + 10 + 16 + 16))], [], QC 0 f k (im_cpy (R 6) (im_cpy (R 5) (im_cpy (R 4) (im_cpy (R 3) (im_cpy (R 2) rw 0 (pt_at f k) 10) 0 (pt_at f k + 10) 10) 0 (pt_at f k + 10 + 10) 16) 0 (pt_at f k + 10 + 10 + 16) 16) 0 (pt_at f k + 10 + 10 + 16 + 16) 16) ++ LC 2 v R g)) rfl ?_
  refine im_g 7 (y := (109, _, _, _)) rfl ⟨(by omega), trivial⟩ ?_
  refine im_eqs (y := (109, [some (mr 0), some (.inl kind), some (mr 2), some (.inl (pt_at f k + 10 + 10 + 16 + 16 + 16))], [], QC 0 f k (im_up (im_cpy (R 6) (im_cpy (R 5) (im_cpy (R 4) (im_cpy (R 3) (im_cpy (R 2) rw 0 (pt_at f k) 10) 0 (pt_at f k + 10) 10) 0 (pt_at f k + 10 + 10) 16) 0 (pt_at f k + 10 + 10 + 16) 16) 0 (pt_at f k + 10 + 10 + 16 + 16) 16) (pt_at f k + 10 + 10 + 16 + 16 + 16) (v 1)) ++ LC 2 v R g)) rfl ?_
  refine im_g 8 (y := (121, _, _, _)) rfl ⟨(by omega), trivial⟩ ?_
  refine im_eqs (y := (121, [some (mr 0), some (.inl kind), some (mr 2), some (.inl (pt_at f k + 10 + 10 + 16 + 16 + 16))], [], QC 0 f k (im_up (im_up (im_cpy (R 6) (im_cpy (R 5) (im_cpy (R 4) (im_cpy (R 3) (im_cpy (R 2) rw 0 (pt_at f k) 10) 0 (pt_at f k + 10) 10) 0 (pt_at f k + 10 + 10) 16) 0 (pt_at f k + 10 + 10 + 16) 16) 0 (pt_at f k + 10 + 10 + 16 + 16) 16) (pt_at f k + 10 + 10 + 16 + 16 + 16) (v 1)) (pt_at f k + 10 + 10 + 16 + 16 + 16 + 1) (v 2)) ++ LC 2 v R g)) rfl ?_
  refine im_g 10 (y := (135, _, _, _)) rfl ⟨(by omega), (by omega), trivial⟩ ?_
  refine im_eqs (y := (135, [some (mr 0), some (.inl kind), some (mr 2), some (.inl (pt_at f k + 10 + 10 + 16 + 16 + 16))], [], QC 0 f k (im_up (im_up (im_up (im_cpy (R 6) (im_cpy (R 5) (im_cpy (R 4) (im_cpy (R 3) (im_cpy (R 2) rw 0 (pt_at f k) 10) 0 (pt_at f k + 10) 10) 0 (pt_at f k + 10 + 10) 16) 0 (pt_at f k + 10 + 10 + 16) 16) 0 (pt_at f k + 10 + 10 + 16 + 16) 16) (pt_at f k + 10 + 10 + 16 + 16 + 16) (v 1)) (pt_at f k + 10 + 10 + 16 + 16 + 16 + 1) (v 2)) (pt_at f k + 10 + 10 + 16 + 16 + 16 + 2) (R 7 0)) ++ LC 2 v R g)) rfl ?_
  refine im_g 7 (y := (144, _, _, _)) rfl ⟨(by omega), trivial⟩ ?_
  refine im_r rfl rfl trivial rfl ?_
  exact ⟨rfl, rfl⟩
set_option maxHeartbeats 8000000 in
theorem c_takeBack (hd : 2 ≤ d) (hT : T.length < 1000) (hf : 0 ≤ f ∧ f ≤ 16) (hk : 0 ≤ k ∧ k ≤ 16) : im_ct ro T d 40 [mr 0, mr 2] (QC 0 f k rw ++ LC 2 v R g) (fun r w => (k ≤ 0 → r = some (.inl (-1)) ∧ w = QC 0 f k rw ++ LC 2 v R g) ∧ (0 < k → r = some (.inl (rw (pt_at f (k - 1) + 10 + 10 + 16 + 16 + 16 + 3))) ∧ w = QC 0 f (k - 1) rw ++ LC 2 (pt_backv (pt_at f (k - 1)) rw v) (pt_backR (pt_at f (k - 1)) rw R) g)) := by
  obtain ⟨d, rfl⟩ : ∃ e, d = e + 1 := ⟨d - 1, by omega⟩
  refine im_ct_of (own := 4) (ret := (some .int)) (code := ab_k_X4_takeBack) (nL := 3) (L0 := [some (mr 0), some (mr 2), none]) (n := 14) rfl rfl rfl rfl rfl rfl rfl rfl rfl ?_
  refine im_g 2 (y := (4, _, _, _)) rfl trivial ?_
  refine im_b rfl rfl ⟨(by omega), trivial⟩ (fun j1 => ?_) (fun j1 => ?_)
  · refine im_g 9 (y := (24, _, _, _)) rfl trivial ?_
    refine im_call [0,1] rfl rfl (c_slotAt (f := f) (k := k - 1) (rw := rw) (by omega) hT hf (n := k - 1) (by omega)) rfl rfl rfl (by decide) rfl (by decide) hT (fun v1 w1 hq => ?_)
    obtain ⟨rfl, rfl⟩ := hq
    refine ⟨_, _, QC 0 f (k - 1) rw ++ LC 2 v R g, rfl, rfl, rfl, ?_⟩
    have hb := pt_at_b (f := f) (k := k - 1)
    refine im_g 9 (y := (43, _, _, _)) rfl ⟨(by omega), (by omega), (by omega), (by omega), (by omega), trivial⟩ ?_
    refine im_eqs (y := (43, [some (mr 0), some (mr 2), some (.inl (pt_at f (k - 1)))], [], QC 0 f (k - 1) rw ++ LC 2 v (pl_U R 2 (im_cpy rw (R 2) (pt_at f (k - 1)) 0 10)) g)) rfl ?_
    refine im_g 9 (y := (61, _, _, _)) rfl ⟨(by omega), (by omega), (by omega), (by omega), (by omega), trivial⟩ ?_
    refine im_eqs (y := (61, [some (mr 0), some (mr 2), some (.inl (pt_at f (k - 1) + 10))], [], QC 0 f (k - 1) rw ++ LC 2 v (pl_U (pl_U R 2 (im_cpy rw (R 2) (pt_at f (k - 1)) 0 10)) 3 (im_cpy rw (R 3) (pt_at f (k - 1) + 10) 0 10)) g)) rfl ?_
    refine im_g 9 (y := (79, _, _, _)) rfl ⟨(by omega), (by omega), (by omega), (by omega), (by omega), trivial⟩ ?_
    refine im_eqs (y := (79, [some (mr 0), some (mr 2), some (.inl (pt_at f (k - 1) + 10 + 10))], [], QC 0 f (k - 1) rw ++ LC 2 v (pl_U (pl_U (pl_U R 2 (im_cpy rw (R 2) (pt_at f (k - 1)) 0 10)) 3 (im_cpy rw (R 3) (pt_at f (k - 1) + 10) 0 10)) 4 (im_cpy rw (R 4) (pt_at f (k - 1) + 10 + 10) 0 16)) g)) rfl ?_
    refine im_g 9 (y := (97, _, _, _)) rfl ⟨(by omega), (by omega), (by omega), (by omega), (by omega), trivial⟩ ?_
    refine im_eqs (y := (97, [some (mr 0), some (mr 2), some (.inl (pt_at f (k - 1) + 10 + 10 + 16))], [], QC 0 f (k - 1) rw ++ LC 2 v (pl_U (pl_U (pl_U (pl_U R 2 (im_cpy rw (R 2) (pt_at f (k - 1)) 0 10)) 3 (im_cpy rw (R 3) (pt_at f (k - 1) + 10) 0 10)) 4 (im_cpy rw (R 4) (pt_at f (k - 1) + 10 + 10) 0 16)) 5 (im_cpy rw (R 5) (pt_at f (k - 1) + 10 + 10 + 16) 0 16)) g)) rfl ?_
    refine im_g 9 (y := (115, _, _, _)) rfl ⟨(by omega), (by omega), (by omega), (by omega), (by omega), trivial⟩ ?_
    refine im_eqs (y := (115, [some (mr 0), some (mr 2), some (.inl (pt_at f (k - 1) + 10 + 10 + 16 + 16))], [], QC 0 f (k - 1) rw ++ LC 2 v (pl_U (pl_U (pl_U (pl_U (pl_U R 2 (im_cpy rw (R 2) (pt_at f (k - 1)) 0 10)) 3 (im_cpy rw (R 3) (pt_at f (k - 1) + 10) 0 10)) 4 (im_cpy rw (R 4) (pt_at f (k - 1) + 10 + 10) 0 16)) 5 (im_cpy rw (R 5) (pt_at f (k - 1) + 10 + 10 + 16) 0 16)) 6 (im_cpy rw (R 6) (pt_at f (k - 1) + 10 + 10 + 16 + 16) 0 16)) g)) rfl ?_
    refine im_g 31 (y := (162, _, _, _)) rfl ⟨(by omega), (by omega), (by omega), (by omega), (by omega), trivial⟩ ?_
    refine im_r rfl rfl trivial rfl ?_
    refine ⟨fun z => ?_, fun z => ?_⟩
    exact absurd z (by omega)
    exact ⟨rfl, rfl⟩
  · refine im_g 1 (y := (8, _, _, _)) rfl trivial ?_
    refine im_r rfl rfl trivial rfl ?_
    refine ⟨fun z => ?_, fun z => ?_⟩
    exact ⟨rfl, rfl⟩
    exact absurd z (by omega)
end Pa
