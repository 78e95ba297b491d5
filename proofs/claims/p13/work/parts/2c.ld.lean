/-! a land: what is sent, the four acts; a land taken from another -/
def pl_send (lw : Option im_T) (p : Int) (v : Nat → Int) (R : Nat → Int → Int) : Int × (Nat → Int) × (Nat → Int → Int) := if ¬ (0 ≤ p ∧ p < v 0 ∧ p < 10) then (-2, v, R) else if as_bar lw p 0 R = 1 then (-3, v, R) else if as_over lw p 0 R - as_stay lw p 0 R = 0 then (0, v, R) else if 16 ≤ v 1 then (-5, v, R) else (as_over lw p 0 R - as_stay lw p 0 R, pl_U v 1 (v 1 + 1), pl_leave p (as_over lw p 0 R - as_stay lw p 0 R) (pl_U v 1 (v 1 + 1)) (pl_U (pl_U (pl_U R 4 (im_up (R 4) (v 1) p)) 5 (im_up (R 5) (v 1) (as_over lw p 0 R - as_stay lw p 0 R))) 6 (im_up (R 6) (v 1) (as_steps lw p 0 R))))
def pl_act (lw : Option im_T) (kind a b n : Int) (v : Nat → Int) (R : Nat → Int → Int) : Int × (Nat → Int) × (Nat → Int → Int) := if kind = 0 then pl_send lw a v R else if kind = 1 then (if R 7 0 < 999 then pl_day v R else (-3, v, R)) else if kind = 2 then ((pl_lend a b n v R).1, v, (pl_lend a b n v R).2) else ((pl_growBy a b v R).1, v, (pl_growBy a b v R).2)
/-- rows copied as far as they go -/
def pl_R (R R2 : Nat → Int → Int) : Nat → Int → Int := fun i => match i with
  | 0 => im_cpy (R2 0) (R 0) 0 0 10
  | 1 => im_cpy (R2 1) (R 1) 0 0 10
  | 2 => im_cpy (R2 2) (R 2) 0 0 10
  | 3 => im_cpy (R2 3) (R 3) 0 0 10
  | 4 => im_cpy (R2 4) (R 4) 0 0 16
  | 5 => im_cpy (R2 5) (R 5) 0 0 16
  | 6 => im_cpy (R2 6) (R 6) 0 0 16
  | 7 => im_cpy (R2 7) (R 7) 0 0 4
  | 8 => im_cpy (R2 8) (R 8) 0 0 8
  | 9 => im_cpy (R2 9) (R 9) 0 0 8
  | j => R j
def pl_v (v v2 : Nat → Int) : Nat → Int := fun i => match i with
  | 6 => v 6
  | j => v2 j
def pl_g (g g2 : Int → Option Nat) : Nat → Int → Option Nat
  | 0 => g
  | k + 1 => im_up (pl_g g g2 k) k (g2 k)
theorem pl_g_at (g g2 : Int → Option Nat) : ∀ (k : Nat) (i : Int), pl_g g g2 k i = if 0 ≤ i ∧ i < k then g2 i else g i
  | 0, i => by rw [if_neg (by omega)]; rfl
  | k + 1, i => by
    show im_up (pl_g g g2 k) k (g2 k) i = _
    unfold im_up
    rw [pl_g_at g g2 k i]
    by_cases h : i = (k : Int)
    · rw [if_pos h, if_pos (by omega), h]
    · rw [if_neg h]
      by_cases h2 : 0 ≤ i ∧ i < (k : Int)
      · rw [if_pos h2, if_pos (by omega)]
      · rw [if_neg h2, if_neg (by omega)]
theorem im_cpy_at (f g : Int → Int) {m i : Int} : im_cpy f g 0 0 m i = if 0 ≤ i ∧ i < m then f i else g i := by
  unfold im_cpy
  by_cases h : 0 ≤ i ∧ i < 0 + m
  · rw [if_pos h, if_pos (by omega)]
    congr 1
    omega
  · rw [if_neg h, if_neg (by omega)]
section Ld
variable {ro : ab_R} {T : List im_T} {d : Nat}
set_option maxHeartbeats 8000000 in
theorem c_passDay (hd : 3 ≤ d) (hT : T.length < 1000) {v : Nat → Int} {R : Nat → Int → Int} {g : Int → Option Nat} (h : LOK v R) (hday : R 7 0 ≤ 100000) : im_ct ro T d 13 [mr 0] (LC 0 v R g) (fun r w => r = some (.inl (pl_day v R).1) ∧ w = LC 0 (pl_day v R).2.1 (pl_day v R).2.2 g) := by
  obtain ⟨d, rfl⟩ : ∃ e, d = e + 1 := ⟨d - 1, by omega⟩
  have h1 := lk_grp h
  have h0 := lk_par h
  have ht := lk_trm h
  refine im_ct_of (own := 1) (ret := (some .int)) (code := ab_k_X1_passDay) (nL := 4) (L0 := [some (mr 0), none, none, none]) (n := 12) rfl rfl rfl rfl rfl rfl rfl rfl rfl ?_
  refine im_g 9 (y := (11, _, _, _)) rfl trivial ?_
  refine im_for (v 1).toNat (fun k => (11, [some (mr 0), some (.inl ((pl_dy v R k).2.2.1)), some (.inl ((pl_dy v R k).2.2.2)), some (.inl ((k : Int)))], [], LC 0 (pl_dy v R k).1 (pl_dy v R k).2.1 g)) (fun k hk ih => ?_) ?_
  · have hi := PDI_k h k (by omega)
    obtain ⟨a1, a2, a3, a4, a5, a6, a7, a8, a9, a10, a11, a12⟩ := hi
    obtain ⟨l1, l2, l3⟩ := lk_liv h (g := k) (by omega) (by omega)
    obtain ⟨e4, e5, e6⟩ := a11 k (Int.le_refl _)
    have b4 := a8 k
    have b5 := a9 k
    have b6 := a10 k
    have b0 := lk_bel h ((pl_dy v R k).2.1 4 k)
    have e0 : (pl_dy v R k).2.1 0 ((pl_dy v R k).2.1 4 k) = R 0 ((pl_dy v R k).2.1 4 k) := congrFun a6.1 _
    have u6 := im_up_self ((pl_dy v R k).2.1 6) k ((pl_dy v R k).2.1 6 k - 1)
    refine im_g 3 (y := (16, _, _, _)) rfl trivial ?_
    refine im_bF rfl rfl ⟨(by omega), (by omega), trivial⟩ (by omega) ?_
    refine im_g 2 (y := (22, _, _, _)) rfl trivial ?_
    refine im_bF rfl rfl ⟨(by omega), (by omega), trivial⟩ (by omega) ?_
    refine im_g 12 (y := (41, _, _, _)) rfl ⟨(by omega), (by omega), (by omega), trivial⟩ ?_
    refine im_b rfl rfl ⟨(by omega), trivial⟩ (fun j1 => ?_) (fun j1 => ?_)
    · refine im_g 13 (y := (103, _, _, _)) rfl ⟨(by omega), (by omega), trivial⟩ ?_
      refine im_call [0,1,2,3,4,5,6,7,8,9,10,11] rfl rfl (c_has (v := (pl_dy v R k).1) (R := (pl_U (pl_dy v R k).2.1 6 (im_up ((pl_dy v R k).2.1 6) k ((pl_dy v R k).2.1 6 k - 1)))) (g := g) (p := (pl_dy v R k).2.1 4 k) (by omega) hT (by omega) (by omega)) rfl rfl rfl (by decide) rfl (by decide) hT (fun v1 w1 hq => ?_)
      obtain ⟨rfl, rfl⟩ := hq
      refine ⟨_, _, LC 0 (pl_dy v R k).1 (pl_U (pl_dy v R k).2.1 6 (im_up ((pl_dy v R k).2.1 6) k ((pl_dy v R k).2.1 6 k - 1))) g, rfl, rfl, rfl, ?_⟩
      have z4 : (pl_U (pl_dy v R k).2.1 6 (im_up ((pl_dy v R k).2.1 6) k ((pl_dy v R k).2.1 6 k - 1))) 4 k = (pl_dy v R k).2.1 4 k := rfl
      have z5 : (pl_U (pl_dy v R k).2.1 6 (im_up ((pl_dy v R k).2.1 6) k ((pl_dy v R k).2.1 6 k - 1))) 5 k = (pl_dy v R k).2.1 5 k := rfl
      refine im_bF rfl rfl ⟨(by omega), trivial⟩ (by omega) ?_
      refine im_g 12 (y := (130, _, _, _)) rfl ⟨(by omega), (by omega), (by omega), trivial⟩ ?_
      refine im_call [0,1,2,3,4,5,6,7,8,9,10,11] rfl rfl (c_arrive (v := (pl_dy v R k).1) (R := (pl_U (pl_dy v R k).2.1 6 (im_up ((pl_dy v R k).2.1 6) k ((pl_dy v R k).2.1 6 k - 1)))) (g := g) (p := (pl_dy v R k).2.1 0 ((pl_dy v R k).2.1 4 k)) (n := (pl_dy v R k).2.1 5 k) (by omega) hT (by omega) (by omega) (by omega) (by omega) (fun p => a7 p) (by omega)) rfl rfl rfl (by decide) rfl (by decide) hT (fun v1 w1 hq => ?_)
      obtain ⟨rfl, rfl⟩ := hq
      refine ⟨_, _, LC 0 (pl_arr ((pl_dy v R k).2.1 0 ((pl_dy v R k).2.1 4 k)) ((pl_dy v R k).2.1 5 k) (pl_dy v R k).1 (pl_U (pl_dy v R k).2.1 6 (im_up ((pl_dy v R k).2.1 6) k ((pl_dy v R k).2.1 6 k - 1)))).1 (pl_arr ((pl_dy v R k).2.1 0 ((pl_dy v R k).2.1 4 k)) ((pl_dy v R k).2.1 5 k) (pl_dy v R k).1 (pl_U (pl_dy v R k).2.1 6 (im_up ((pl_dy v R k).2.1 6) k ((pl_dy v R k).2.1 6 k - 1)))).2 g, rfl, rfl, rfl, ?_⟩
      refine im_g 2 (y := (11, _, _, _)) rfl trivial ?_
      have e9 : pl_dy v R (k + 1) = _ := if_neg (show ¬ 0 < (pl_dy v R k).2.1 6 k - 1 by omega)
      rw [e9] at ih
      exact ih
    · refine im_g 28 (y := (11, _, _, _)) rfl ⟨(by omega), (by omega), (by omega), (by omega), (by omega), (by omega), trivial⟩ ?_
      have e9 : pl_dy v R (k + 1) = _ := if_pos (show 0 < (pl_dy v R k).2.1 6 k - 1 by omega)
      rw [e9] at ih
      exact im_eqs (by rw [u6]; rfl) ih
  · have hi := PDI_k h (v 1).toNat (by omega)
    obtain ⟨a1, a2, a3, a4, a5, a6, -⟩ := hi
    refine im_g 3 (y := (16, _, _, _)) rfl trivial ?_
    refine im_bT rfl rfl ⟨(by omega), (by omega), trivial⟩ (by omega) ?_
    refine im_g 12 (y := (155, _, _, _)) rfl ⟨(by omega), (by omega), trivial⟩ ?_
    refine im_r rfl rfl trivial rfl ?_
    exact ⟨rfl, rfl⟩
set_option maxHeartbeats 8000000 in
theorem c_sendNo (hd : 5 ≤ d) (hT : T.length < 1000) {v : Nat → Int} {R : Nat → Int → Int} {g : Int → Option Nat} (h : LOK v R) (hday : R 7 0 ≤ 100000) (hf : v 5 < 0) {cv : Nat → Int} {b : Int} (hb : b = 0 ∨ b = 1) {s : Int → Int} (hs : SOK s) {wd : Int → Int} (hwd : WOK wd) {p : Int} (hp : im_ir p) : im_ct ro T d 10 [mr 0, .inl p, mr 12] (LC 0 v R g ++ CC 12 cv b s wd) (fun r w => r = some (.inl (pl_send none p v R).1) ∧ ∃ cv1 b1 s1 wd1, (b1 = 0 ∨ b1 = 1) ∧ SOK s1 ∧ WOK wd1 ∧ w = LC 0 (pl_send none p v R).2.1 (pl_send none p v R).2.2 g ++ CC 12 cv1 b1 s1 wd1) := by
  obtain ⟨d, rfl⟩ : ∃ e, d = e + 1 := ⟨d - 1, by omega⟩
  have h1 := lk_par h
  have h2 := lk_cnt h p
  have h3 := lk_wlk h p
  have h4 := lk_grp h
  refine im_ct_of (own := 1) (ret := (some .int)) (code := ab_k_X1_sendFrom) (nL := 4) (L0 := [some (mr 0), some (.inl p), some (mr 12), none]) (n := 16) rfl rfl rfl rfl rfl rfl rfl rfl rfl ?_
  refine im_g 2 (y := (2, _, _, _)) rfl trivial ?_
  refine im_call [0,1,2,3,4,5,6,7,8,9,10,11] rfl rfl (c_has (v := v) (R := R) (g := g) (p := p) (by omega) hT (by omega) (by omega)) rfl rfl rfl (by decide) rfl (by decide) hT (fun v1 w1 hq => ?_)
  obtain ⟨rfl, rfl⟩ := hq
  refine ⟨_, _, LC 0 v R g ++ CC 12 cv b s wd, rfl, rfl, rfl, ?_⟩
  refine im_b rfl rfl ⟨(by omega), trivial⟩ (fun j1 => ?_) (fun j1 => ?_)
  · refine im_g 4 (y := (15, _, _, _)) rfl trivial ?_
    refine im_call [12,13,14,15,0,1,2,3,4,5,6,7,8,9,10,11] rfl rfl (c_askNo (v := cv) (by omega) hT hb hs hwd (lv := v) (R := R) (g := g) h hday hf (p := p) (ten := 0) (by omega) (by decide)) rfl rfl rfl (by decide) rfl (by decide) hT (fun v1 w1 hq => ?_)
    obtain ⟨rfl, b1, s1, wd1, hb1, hs1, hwd1, rfl⟩ := hq
    refine ⟨_, _, LC 0 v R g ++ CC 12 (as_v none p 0 R) b1 s1 wd1, rfl, rfl, rfl, ?_⟩
    have hov := as_over_b none p 0 R
    have hst := as_stay_b none p 0 R
    have hsp := as_steps_b none p 0 R
    have hba := as_bar_b none p 0 R
    refine im_g 2 (y := (22, _, _, _)) rfl trivial ?_
    refine im_b rfl rfl ⟨(by show im_ir (as_bar none p 0 R); omega), trivial⟩ (fun j2 => ?_) (fun j2 => ?_)
    · replace j2 : as_bar none p 0 R = 0 := j2
      refine im_g 1 (y := (29, _, _, _)) rfl trivial ?_
      refine im_call [12,13,14,15] rfl rfl (c_walkers (v := (as_v none p 0 R)) (b := b1) (s := s1) (wd := wd1) (by omega) hT) rfl rfl rfl (by decide) rfl (by decide) hT (fun v1 w1 hq => ?_)
      obtain ⟨rfl, rfl⟩ := hq
      refine ⟨_, _, LC 0 v R g ++ CC 12 (as_v none p 0 R) b1 s1 wd1, rfl, rfl, rfl, ?_⟩
      refine im_g 2 (y := (34, _, _, _)) rfl trivial ?_
      refine im_b rfl rfl ⟨(by show im_ir (as_over none p 0 R - as_stay none p 0 R); omega), trivial⟩ (fun j3 => ?_) (fun j3 => ?_)
      · replace j3 : ¬ (as_over none p 0 R - as_stay none p 0 R) = 0 := j3
        refine im_g 3 (y := (45, _, _, _)) rfl trivial ?_
        refine im_b rfl rfl ⟨(by omega), (by omega), trivial⟩ (fun j4 => ?_) (fun j4 => ?_)
        · refine im_g 28 (y := (97, _, _, _)) rfl ⟨(by omega), (by omega), (by omega), trivial⟩ ?_
          refine im_call [0,1,2,3,4,5,6,7,8,9,10,11] rfl rfl (c_leave (v := (pl_U v 1 (v 1 + 1))) (R := (pl_U (pl_U (pl_U R 4 (im_up (R 4) (v 1) p)) 5 (im_up (R 5) (v 1) (as_over none p 0 R - as_stay none p 0 R))) 6 (im_up (R 6) (v 1) (as_steps none p 0 R)))) (g := g) (p := p) (n := (as_over none p 0 R - as_stay none p 0 R)) (by omega) hT (by omega) (by omega) (show 0 ≤ v 0 ∧ v 0 ≤ 10 by omega) (show 0 ≤ R 2 p ∧ R 2 p ≤ 999 by omega) (show 0 ≤ R 3 p ∧ R 3 p ≤ 99999 by omega)) rfl rfl rfl (by decide) rfl (by decide) hT (fun v1 w1 hq => ?_)
          obtain ⟨rfl, rfl⟩ := hq
          refine ⟨_, _, LC 0 (pl_U v 1 (v 1 + 1)) (pl_leave p (as_over none p 0 R - as_stay none p 0 R) (pl_U v 1 (v 1 + 1)) (pl_U (pl_U (pl_U R 4 (im_up (R 4) (v 1) p)) 5 (im_up (R 5) (v 1) (as_over none p 0 R - as_stay none p 0 R))) 6 (im_up (R 6) (v 1) (as_steps none p 0 R)))) g ++ CC 12 (as_v none p 0 R) b1 s1 wd1, rfl, rfl, rfl, ?_⟩
          refine im_g 1 (y := (101, _, _, _)) rfl trivial ?_
          refine im_r rfl rfl trivial rfl ?_
          unfold pl_send
          rw [if_neg (by omega), if_neg (by omega), if_neg (by omega), if_neg (by omega)]
          exact ⟨rfl, (as_v none p 0 R), b1, s1, wd1, hb1, hs1, hwd1, rfl⟩
        · refine im_g 1 (y := (50, _, _, _)) rfl trivial ?_
          refine im_r rfl rfl trivial rfl ?_
          unfold pl_send
          rw [if_neg (by omega), if_neg (by omega), if_neg (by omega), if_pos (by omega)]
          exact ⟨rfl, (as_v none p 0 R), b1, s1, wd1, hb1, hs1, hwd1, rfl⟩
      · replace j3 : ¬ ¬ (as_over none p 0 R - as_stay none p 0 R) = 0 := j3
        refine im_g 1 (y := (38, _, _, _)) rfl trivial ?_
        refine im_r rfl rfl trivial rfl ?_
        unfold pl_send
        rw [if_neg (by omega), if_neg (by omega), if_pos (by omega)]
        exact ⟨rfl, (as_v none p 0 R), b1, s1, wd1, hb1, hs1, hwd1, rfl⟩
    · replace j2 : ¬ as_bar none p 0 R = 0 := j2
      refine im_g 1 (y := (27, _, _, _)) rfl trivial ?_
      refine im_r rfl rfl trivial rfl ?_
      unfold pl_send
      rw [if_neg (by omega), if_pos (by omega)]
      exact ⟨rfl, (as_v none p 0 R), b1, s1, wd1, hb1, hs1, hwd1, rfl⟩
  · refine im_g 1 (y := (10, _, _, _)) rfl trivial ?_
    refine im_r rfl rfl trivial rfl ?_
    unfold pl_send
    rw [if_pos (by omega)]
    exact ⟨rfl, cv, b, s, wd, hb, hs, hwd, rfl⟩
set_option maxHeartbeats 8000000 in
theorem c_actNo (hd : 6 ≤ d) (hT : T.length < 1000) {v : Nat → Int} {R : Nat → Int → Int} {g : Int → Option Nat} (h : LOK v R) (hday : R 7 0 ≤ 100000) (hf : v 5 < 0) {cv : Nat → Int} {b : Int} (hb : b = 0 ∨ b = 1) {s : Int → Int} (hs : SOK s) {wd : Int → Int} (hwd : WOK wd) {kind a b2 n : Int} (hkd : 0 ≤ kind ∧ kind ≤ 3) (ha : im_ir a) (hb2 : im_ir b2) (hn : im_ir n) : im_ct ro T d 9 [mr 0, .inl kind, .inl a, .inl b2, .inl n, mr 12] (LC 0 v R g ++ CC 12 cv b s wd) (fun r w => r = some (.inl (pl_act none kind a b2 n v R).1) ∧ ∃ cv1 b1 s1 wd1, (b1 = 0 ∨ b1 = 1) ∧ SOK s1 ∧ WOK wd1 ∧ w = LC 0 (pl_act none kind a b2 n v R).2.1 (pl_act none kind a b2 n v R).2.2 g ++ CC 12 cv1 b1 s1 wd1) := by
  obtain ⟨d, rfl⟩ : ∃ e, d = e + 1 := ⟨d - 1, by omega⟩
  have ht := lk_trm h
  refine im_ct_of (own := 1) (ret := (some .int)) (code := ab_k_X1_act) (nL := 6) (L0 := [some (mr 0), some (.inl kind), some (.inl a), some (.inl b2), some (.inl n), some (mr 12)]) (n := 16) rfl rfl rfl rfl rfl rfl rfl rfl rfl ?_
  refine im_g 1 (y := (1, _, _, _)) rfl trivial ?_
  have hk : kind = 0 ∨ kind = 1 ∨ kind = 2 ∨ kind = 3 := by omega
  rcases hk with rfl | rfl | rfl | rfl
  · refine im_sw (tgt := 28) rfl (by decide) (by decide) (Or.inr ⟨_, rfl, by decide⟩) (by decide) ?_
    refine im_g 3 (y := (32, _, _, _)) rfl trivial ?_
    refine im_call [0,1,2,3,4,5,6,7,8,9,10,11,12,13,14,15] rfl rfl (c_sendNo (by omega) hT h hday hf hb hs hwd (p := a) ha) rfl rfl rfl (by decide) rfl (by decide) hT (fun v1 w1 hq => ?_)
    obtain ⟨rfl, cv1, b1, s1, wd1, hb1, hs1, hwd1, rfl⟩ := hq
    refine ⟨_, _, LC 0 (pl_send none a v R).2.1 (pl_send none a v R).2.2 g ++ CC 12 cv1 b1 s1 wd1, rfl, rfl, rfl, ?_⟩
    refine im_r rfl rfl trivial rfl ?_
    unfold pl_act
    rw [if_pos rfl]
    exact ⟨rfl, cv1, b1, s1, wd1, hb1, hs1, hwd1, rfl⟩
  · refine im_sw (tgt := 36) rfl (by decide) (by decide) (Or.inr ⟨_, rfl, by decide⟩) (by decide) ?_
    refine im_g 5 (y := (45, _, _, _)) rfl ⟨(by omega), trivial⟩ ?_
    refine im_b rfl rfl ⟨(by omega), (by omega), trivial⟩ (fun j1 => ?_) (fun j1 => ?_)
    · refine im_g 1 (y := (57, _, _, _)) rfl trivial ?_
      refine im_r rfl rfl trivial rfl ?_
      unfold pl_act
      rw [if_neg (by decide), if_pos rfl]
      rw [if_neg (by omega)]
      exact ⟨rfl, cv, b, s, wd, hb, hs, hwd, rfl⟩
    · refine im_g 1 (y := (49, _, _, _)) rfl trivial ?_
      refine im_call [0,1,2,3,4,5,6,7,8,9,10,11] rfl rfl (c_passDay (by omega) hT (g := g) h hday) rfl rfl rfl (by decide) rfl (by decide) hT (fun v1 w1 hq => ?_)
      obtain ⟨rfl, rfl⟩ := hq
      refine ⟨_, _, LC 0 (pl_day v R).2.1 (pl_day v R).2.2 g ++ CC 12 cv b s wd, rfl, rfl, rfl, ?_⟩
      refine im_g 1 (y := (57, _, _, _)) rfl trivial ?_
      refine im_r rfl rfl trivial rfl ?_
      unfold pl_act
      rw [if_neg (by decide), if_pos rfl]
      rw [if_pos (by omega)]
      exact ⟨rfl, cv, b, s, wd, hb, hs, hwd, rfl⟩
  · refine im_sw (tgt := 58) rfl (by decide) (by decide) (Or.inr ⟨_, rfl, by decide⟩) (by decide) ?_
    refine im_g 4 (y := (63, _, _, _)) rfl trivial ?_
    refine im_call [0,1,2,3,4,5,6,7,8,9,10,11] rfl rfl (c_lendMen (v := v) (R := R) (g := g) (a := a) (b := b2) (n := n) (by omega) hT ha hb2 hn h) rfl rfl rfl (by decide) rfl (by decide) hT (fun v1 w1 hq => ?_)
    obtain ⟨rfl, rfl⟩ := hq
    refine ⟨_, _, LC 0 v (pl_lend a b2 n v R).2 g ++ CC 12 cv b s wd, rfl, rfl, rfl, ?_⟩
    refine im_r rfl rfl trivial rfl ?_
    unfold pl_act
    rw [if_neg (by decide), if_neg (by decide), if_pos rfl]
    exact ⟨rfl, cv, b, s, wd, hb, hs, hwd, rfl⟩
  · refine im_sw (tgt := 67) rfl (by decide) (by decide) (Or.inl (by decide)) (by decide) ?_
    refine im_g 3 (y := (70, _, _, _)) rfl trivial ?_
    refine im_call [0,1,2,3,4,5,6,7,8,9,10,11] rfl rfl (c_growBy (v := v) (R := R) (g := g) (p := a) (b := b2) (by omega) hT ha hb2 h) rfl rfl rfl (by decide) rfl (by decide) hT (fun v1 w1 hq => ?_)
    obtain ⟨rfl, rfl⟩ := hq
    refine ⟨_, _, LC 0 v (pl_growBy a b2 v R).2 g ++ CC 12 cv b s wd, rfl, rfl, rfl, ?_⟩
    refine im_r rfl rfl trivial rfl ?_
    unfold pl_act
    rw [if_neg (by decide), if_neg (by decide), if_neg (by decide)]
    exact ⟨rfl, cv, b, s, wd, hb, hs, hwd, rfl⟩
set_option maxHeartbeats 8000000 in
theorem c_sendIs (hd : 5 ≤ d) (hT : T.length < 1000) {v : Nat → Int} {R : Nat → Int → Int} {g : Int → Option Nat} (h : LOK v R) (hday : R 7 0 ≤ 100000) (hf : 0 ≤ v 5) {t : Nat} (hg : g (v 5) = some t) {q : im_T} (hqt : T[t]? = some q) (hq0 : TXOK q) {cv : Nat → Int} {b : Int} (hb : b = 0 ∨ b = 1) {s : Int → Int} (hs : SOK s) {wd : Int → Int} (hwd : WOK wd) {p : Int} (hp : im_ir p) : im_ct ro T d 10 [mr 0, .inl p, mr 12] (LC 0 v R g ++ CC 12 cv b s wd) (fun r w => r = some (.inl (pl_send (some q) p v R).1) ∧ ∃ cv1 b1 s1 wd1, (b1 = 0 ∨ b1 = 1) ∧ SOK s1 ∧ WOK wd1 ∧ w = LC 0 (pl_send (some q) p v R).2.1 (pl_send (some q) p v R).2.2 g ++ CC 12 cv1 b1 s1 wd1) := by
  obtain ⟨d, rfl⟩ : ∃ e, d = e + 1 := ⟨d - 1, by omega⟩
  have h1 := lk_par h
  have h2 := lk_cnt h p
  have h3 := lk_wlk h p
  have h4 := lk_grp h
  refine im_ct_of (own := 1) (ret := (some .int)) (code := ab_k_X1_sendFrom) (nL := 4) (L0 := [some (mr 0), some (.inl p), some (mr 12), none]) (n := 16) rfl rfl rfl rfl rfl rfl rfl rfl rfl ?_
  refine im_g 2 (y := (2, _, _, _)) rfl trivial ?_
  refine im_call [0,1,2,3,4,5,6,7,8,9,10,11] rfl rfl (c_has (v := v) (R := R) (g := g) (p := p) (by omega) hT (by omega) (by omega)) rfl rfl rfl (by decide) rfl (by decide) hT (fun v1 w1 hq => ?_)
  obtain ⟨rfl, rfl⟩ := hq
  refine ⟨_, _, LC 0 v R g ++ CC 12 cv b s wd, rfl, rfl, rfl, ?_⟩
  refine im_b rfl rfl ⟨(by omega), trivial⟩ (fun j1 => ?_) (fun j1 => ?_)
  · refine im_g 4 (y := (15, _, _, _)) rfl trivial ?_
    refine im_call [12,13,14,15,0,1,2,3,4,5,6,7,8,9,10,11] rfl rfl (c_askIs (v := cv) (by omega) hT hb hs hwd (lv := v) (R := R) (g := g) h hday hf hg hqt hq0 (p := p) (ten := 0) (by omega) (by decide)) rfl rfl rfl (by decide) rfl (by decide) hT (fun v1 w1 hq => ?_)
    obtain ⟨rfl, b1, s1, wd1, hb1, hs1, hwd1, rfl⟩ := hq
    refine ⟨_, _, LC 0 v R g ++ CC 12 (as_v (some q) p 0 R) b1 s1 wd1, rfl, rfl, rfl, ?_⟩
    have hov := as_over_b (some q) p 0 R
    have hst := as_stay_b (some q) p 0 R
    have hsp := as_steps_b (some q) p 0 R
    have hba := as_bar_b (some q) p 0 R
    refine im_g 2 (y := (22, _, _, _)) rfl trivial ?_
    refine im_b rfl rfl ⟨(by show im_ir (as_bar (some q) p 0 R); omega), trivial⟩ (fun j2 => ?_) (fun j2 => ?_)
    · replace j2 : as_bar (some q) p 0 R = 0 := j2
      refine im_g 1 (y := (29, _, _, _)) rfl trivial ?_
      refine im_call [12,13,14,15] rfl rfl (c_walkers (v := (as_v (some q) p 0 R)) (b := b1) (s := s1) (wd := wd1) (by omega) hT) rfl rfl rfl (by decide) rfl (by decide) hT (fun v1 w1 hq => ?_)
      obtain ⟨rfl, rfl⟩ := hq
      refine ⟨_, _, LC 0 v R g ++ CC 12 (as_v (some q) p 0 R) b1 s1 wd1, rfl, rfl, rfl, ?_⟩
      refine im_g 2 (y := (34, _, _, _)) rfl trivial ?_
      refine im_b rfl rfl ⟨(by show im_ir (as_over (some q) p 0 R - as_stay (some q) p 0 R); omega), trivial⟩ (fun j3 => ?_) (fun j3 => ?_)
      · replace j3 : ¬ (as_over (some q) p 0 R - as_stay (some q) p 0 R) = 0 := j3
        refine im_g 3 (y := (45, _, _, _)) rfl trivial ?_
        refine im_b rfl rfl ⟨(by omega), (by omega), trivial⟩ (fun j4 => ?_) (fun j4 => ?_)
        · refine im_g 28 (y := (97, _, _, _)) rfl ⟨(by omega), (by omega), (by omega), trivial⟩ ?_
          refine im_call [0,1,2,3,4,5,6,7,8,9,10,11] rfl rfl (c_leave (v := (pl_U v 1 (v 1 + 1))) (R := (pl_U (pl_U (pl_U R 4 (im_up (R 4) (v 1) p)) 5 (im_up (R 5) (v 1) (as_over (some q) p 0 R - as_stay (some q) p 0 R))) 6 (im_up (R 6) (v 1) (as_steps (some q) p 0 R)))) (g := g) (p := p) (n := (as_over (some q) p 0 R - as_stay (some q) p 0 R)) (by omega) hT (by omega) (by omega) (show 0 ≤ v 0 ∧ v 0 ≤ 10 by omega) (show 0 ≤ R 2 p ∧ R 2 p ≤ 999 by omega) (show 0 ≤ R 3 p ∧ R 3 p ≤ 99999 by omega)) rfl rfl rfl (by decide) rfl (by decide) hT (fun v1 w1 hq => ?_)
          obtain ⟨rfl, rfl⟩ := hq
          refine ⟨_, _, LC 0 (pl_U v 1 (v 1 + 1)) (pl_leave p (as_over (some q) p 0 R - as_stay (some q) p 0 R) (pl_U v 1 (v 1 + 1)) (pl_U (pl_U (pl_U R 4 (im_up (R 4) (v 1) p)) 5 (im_up (R 5) (v 1) (as_over (some q) p 0 R - as_stay (some q) p 0 R))) 6 (im_up (R 6) (v 1) (as_steps (some q) p 0 R)))) g ++ CC 12 (as_v (some q) p 0 R) b1 s1 wd1, rfl, rfl, rfl, ?_⟩
          refine im_g 1 (y := (101, _, _, _)) rfl trivial ?_
          refine im_r rfl rfl trivial rfl ?_
          unfold pl_send
          rw [if_neg (by omega), if_neg (by omega), if_neg (by omega), if_neg (by omega)]
          exact ⟨rfl, (as_v (some q) p 0 R), b1, s1, wd1, hb1, hs1, hwd1, rfl⟩
        · refine im_g 1 (y := (50, _, _, _)) rfl trivial ?_
          refine im_r rfl rfl trivial rfl ?_
          unfold pl_send
          rw [if_neg (by omega), if_neg (by omega), if_neg (by omega), if_pos (by omega)]
          exact ⟨rfl, (as_v (some q) p 0 R), b1, s1, wd1, hb1, hs1, hwd1, rfl⟩
      · replace j3 : ¬ ¬ (as_over (some q) p 0 R - as_stay (some q) p 0 R) = 0 := j3
        refine im_g 1 (y := (38, _, _, _)) rfl trivial ?_
        refine im_r rfl rfl trivial rfl ?_
        unfold pl_send
        rw [if_neg (by omega), if_neg (by omega), if_pos (by omega)]
        exact ⟨rfl, (as_v (some q) p 0 R), b1, s1, wd1, hb1, hs1, hwd1, rfl⟩
    · replace j2 : ¬ as_bar (some q) p 0 R = 0 := j2
      refine im_g 1 (y := (27, _, _, _)) rfl trivial ?_
      refine im_r rfl rfl trivial rfl ?_
      unfold pl_send
      rw [if_neg (by omega), if_pos (by omega)]
      exact ⟨rfl, (as_v (some q) p 0 R), b1, s1, wd1, hb1, hs1, hwd1, rfl⟩
  · refine im_g 1 (y := (10, _, _, _)) rfl trivial ?_
    refine im_r rfl rfl trivial rfl ?_
    unfold pl_send
    rw [if_pos (by omega)]
    exact ⟨rfl, cv, b, s, wd, hb, hs, hwd, rfl⟩
set_option maxHeartbeats 8000000 in
theorem c_actIs (hd : 6 ≤ d) (hT : T.length < 1000) {v : Nat → Int} {R : Nat → Int → Int} {g : Int → Option Nat} (h : LOK v R) (hday : R 7 0 ≤ 100000) (hf : 0 ≤ v 5) {t : Nat} (hg : g (v 5) = some t) {q : im_T} (hqt : T[t]? = some q) (hq0 : TXOK q) {cv : Nat → Int} {b : Int} (hb : b = 0 ∨ b = 1) {s : Int → Int} (hs : SOK s) {wd : Int → Int} (hwd : WOK wd) {kind a b2 n : Int} (hkd : 0 ≤ kind ∧ kind ≤ 3) (ha : im_ir a) (hb2 : im_ir b2) (hn : im_ir n) : im_ct ro T d 9 [mr 0, .inl kind, .inl a, .inl b2, .inl n, mr 12] (LC 0 v R g ++ CC 12 cv b s wd) (fun r w => r = some (.inl (pl_act (some q) kind a b2 n v R).1) ∧ ∃ cv1 b1 s1 wd1, (b1 = 0 ∨ b1 = 1) ∧ SOK s1 ∧ WOK wd1 ∧ w = LC 0 (pl_act (some q) kind a b2 n v R).2.1 (pl_act (some q) kind a b2 n v R).2.2 g ++ CC 12 cv1 b1 s1 wd1) := by
  obtain ⟨d, rfl⟩ : ∃ e, d = e + 1 := ⟨d - 1, by omega⟩
  have ht := lk_trm h
  refine im_ct_of (own := 1) (ret := (some .int)) (code := ab_k_X1_act) (nL := 6) (L0 := [some (mr 0), some (.inl kind), some (.inl a), some (.inl b2), some (.inl n), some (mr 12)]) (n := 16) rfl rfl rfl rfl rfl rfl rfl rfl rfl ?_
  refine im_g 1 (y := (1, _, _, _)) rfl trivial ?_
  have hk : kind = 0 ∨ kind = 1 ∨ kind = 2 ∨ kind = 3 := by omega
  rcases hk with rfl | rfl | rfl | rfl
  · refine im_sw (tgt := 28) rfl (by decide) (by decide) (Or.inr ⟨_, rfl, by decide⟩) (by decide) ?_
    refine im_g 3 (y := (32, _, _, _)) rfl trivial ?_
    refine im_call [0,1,2,3,4,5,6,7,8,9,10,11,12,13,14,15] rfl rfl (c_sendIs (by omega) hT h hday hf hg hqt hq0 hb hs hwd (p := a) ha) rfl rfl rfl (by decide) rfl (by decide) hT (fun v1 w1 hq => ?_)
    obtain ⟨rfl, cv1, b1, s1, wd1, hb1, hs1, hwd1, rfl⟩ := hq
    refine ⟨_, _, LC 0 (pl_send (some q) a v R).2.1 (pl_send (some q) a v R).2.2 g ++ CC 12 cv1 b1 s1 wd1, rfl, rfl, rfl, ?_⟩
    refine im_r rfl rfl trivial rfl ?_
    unfold pl_act
    rw [if_pos rfl]
    exact ⟨rfl, cv1, b1, s1, wd1, hb1, hs1, hwd1, rfl⟩
  · refine im_sw (tgt := 36) rfl (by decide) (by decide) (Or.inr ⟨_, rfl, by decide⟩) (by decide) ?_
    refine im_g 5 (y := (45, _, _, _)) rfl ⟨(by omega), trivial⟩ ?_
    refine im_b rfl rfl ⟨(by omega), (by omega), trivial⟩ (fun j1 => ?_) (fun j1 => ?_)
    · refine im_g 1 (y := (57, _, _, _)) rfl trivial ?_
      refine im_r rfl rfl trivial rfl ?_
      unfold pl_act
      rw [if_neg (by decide), if_pos rfl]
      rw [if_neg (by omega)]
      exact ⟨rfl, cv, b, s, wd, hb, hs, hwd, rfl⟩
    · refine im_g 1 (y := (49, _, _, _)) rfl trivial ?_
      refine im_call [0,1,2,3,4,5,6,7,8,9,10,11] rfl rfl (c_passDay (by omega) hT (g := g) h hday) rfl rfl rfl (by decide) rfl (by decide) hT (fun v1 w1 hq => ?_)
      obtain ⟨rfl, rfl⟩ := hq
      refine ⟨_, _, LC 0 (pl_day v R).2.1 (pl_day v R).2.2 g ++ CC 12 cv b s wd, rfl, rfl, rfl, ?_⟩
      refine im_g 1 (y := (57, _, _, _)) rfl trivial ?_
      refine im_r rfl rfl trivial rfl ?_
      unfold pl_act
      rw [if_neg (by decide), if_pos rfl]
      rw [if_pos (by omega)]
      exact ⟨rfl, cv, b, s, wd, hb, hs, hwd, rfl⟩
  · refine im_sw (tgt := 58) rfl (by decide) (by decide) (Or.inr ⟨_, rfl, by decide⟩) (by decide) ?_
    refine im_g 4 (y := (63, _, _, _)) rfl trivial ?_
    refine im_call [0,1,2,3,4,5,6,7,8,9,10,11] rfl rfl (c_lendMen (v := v) (R := R) (g := g) (a := a) (b := b2) (n := n) (by omega) hT ha hb2 hn h) rfl rfl rfl (by decide) rfl (by decide) hT (fun v1 w1 hq => ?_)
    obtain ⟨rfl, rfl⟩ := hq
    refine ⟨_, _, LC 0 v (pl_lend a b2 n v R).2 g ++ CC 12 cv b s wd, rfl, rfl, rfl, ?_⟩
    refine im_r rfl rfl trivial rfl ?_
    unfold pl_act
    rw [if_neg (by decide), if_neg (by decide), if_pos rfl]
    exact ⟨rfl, cv, b, s, wd, hb, hs, hwd, rfl⟩
  · refine im_sw (tgt := 67) rfl (by decide) (by decide) (Or.inl (by decide)) (by decide) ?_
    refine im_g 3 (y := (70, _, _, _)) rfl trivial ?_
    refine im_call [0,1,2,3,4,5,6,7,8,9,10,11] rfl rfl (c_growBy (v := v) (R := R) (g := g) (p := a) (b := b2) (by omega) hT ha hb2 h) rfl rfl rfl (by decide) rfl (by decide) hT (fun v1 w1 hq => ?_)
    obtain ⟨rfl, rfl⟩ := hq
    refine ⟨_, _, LC 0 v (pl_growBy a b2 v R).2 g ++ CC 12 cv b s wd, rfl, rfl, rfl, ?_⟩
    refine im_r rfl rfl trivial rfl ?_
    unfold pl_act
    rw [if_neg (by decide), if_neg (by decide), if_neg (by decide)]
    exact ⟨rfl, cv, b, s, wd, hb, hs, hwd, rfl⟩
set_option maxHeartbeats 8000000 in
theorem c_takeFrom (hd : 1 ≤ d) (hT : T.length < 1000) {v v2 : Nat → Int} {R R2 : Nat → Int → Int} {g g2 : Int → Option Nat} (hg2 : ∀ {i : Int} (t : Nat), g2 i = some t → t < T.length) : im_ct ro T d 16 [mr 0, mr 12] (LC 0 v R g ++ LC 12 v2 R2 g2) (fun r w => r = none ∧ w = LC 0 (pl_v v v2) (pl_R R R2) (pl_g g g2 6) ++ LC 12 v2 R2 g2) := by
  obtain ⟨d, rfl⟩ : ∃ e, d = e + 1 := ⟨d - 1, by omega⟩
  refine im_ct_of (own := 1) (ret := none) (code := ab_k_X1_takeFrom) (nL := 3) (L0 := [some (mr 0), some (mr 12), none]) (n := 24) rfl rfl rfl rfl rfl rfl rfl rfl rfl ?_
  refine im_g 84 (y := (155, _, _, _)) rfl ⟨(by omega), (by omega), (by omega), (by omega), (by omega), (by omega), (by omega), (by omega), (by omega), (by omega), (by omega), (by omega), (by omega), (by omega), (by omega), (by omega), (by omega), (by omega), (by omega), (by omega), (by omega), (by omega), (by omega), (by omega), (by omega), (by omega), (by omega), (by omega), (by omega), (by omega), (by omega), (by omega), (by omega), (by omega), (by omega), (by omega), (by omega), (by omega), (by omega), (by omega), (by omega), (by omega), (by omega), (by omega), (by omega), (by omega), (by omega), (by omega), (by omega), (by omega), trivial⟩ ?_
  refine im_for 6 (fun k => (155, [some (mr 0), some (mr 12), some (.inl (k : Int))], [], LC 0 v (pl_R R R2) (pl_g g g2 k) ++ LC 12 v2 R2 g2)) (fun k hk ih => ?_) ?_
  · refine im_g 2 (y := (158, _, _, _)) rfl trivial ?_
    refine im_bF rfl rfl ⟨(by omega), (by omega), trivial⟩ (by omega) ?_
    refine im_g 6 (y := (171, _, _, _)) rfl trivial ?_
    refine im_aas (pc := 171) rfl rfl rfl rfl (by omega) (by omega) hT (hg2 · ) rfl ?_
    refine im_g 2 (y := (155, _, _, _)) rfl trivial ?_
    exact ih
  · refine im_g 2 (y := (158, _, _, _)) rfl trivial ?_
    refine im_bT rfl rfl ⟨(by omega), (by omega), trivial⟩ (by omega) ?_
    refine im_g 24 (y := (227, _, _, _)) rfl trivial ?_
    refine im_r rfl rfl trivial rfl ?_
    exact ⟨rfl, rfl⟩
end Ld
