/-! at once, walked -/
def GV (g : Int → Option Nat) (T : List im_T) : Prop := ∀ (i : Int) (t : Nat), g i = some t → t < T.length
theorem LWR_5 {v v' : Nat → Int} {g : Int → Option Nat} {T : List im_T} {lw : Option im_T} (h : LWR v g T lw) (e : v' 5 = v 5) : LWR v' g T lw := by
  unfold LWR
  rw [e]
  exact h
theorem c_once_q {v : Nat → Int} {R : Nat → Int → Int} {g : Int → Option Nat} (h : LOK v R) {lw : Option im_T} {pv : Nat → Int} {sv : Nat → Int} {sR : Nat → Int → Int} {sg : Int → Option Nat} {PR : Nat → Int → Int} (hsh : LOK sv sR) (hs6 : 0 ≤ sv 6 ∧ sv 6 ≤ 1000000) (hpr : ∀ r i, -1000000 ≤ PR r i ∧ PR r i ≤ 1000000000000) (hpb : PRB PR) {c y ten : Int} (hch : 0 ≤ c → c < v 0 → 0 ≤ R 2 c + y ∧ R 2 c + y ≤ 999) {r : Option im_V} {w : im_W} (hq : r = some (.inl ((ao lw ten (v 0) (v 0).toNat ((pl_U (pl_v sv v) 6 0, ao_ch c y (pl_v sv v) (pl_R sR R), PR 0, PR 1) : ao_Q)).1 6)) ∧ ∃ cv1 b1 s1 wd1, (b1 = 0 ∨ b1 = 1) ∧ SOK s1 ∧ WOK wd1 ∧ w = PC 0 pv cv1 b1 s1 wd1 (ao lw ten (v 0) (v 0).toNat ((pl_U (pl_v sv v) 6 0, ao_ch c y (pl_v sv v) (pl_R sR R), PR 0, PR 1) : ao_Q)).1 (ao lw ten (v 0) (v 0).toNat ((pl_U (pl_v sv v) 6 0, ao_ch c y (pl_v sv v) (pl_R sR R), PR 0, PR 1) : ao_Q)).2.1 (pl_g sg g 6) (pl_U (pl_U PR 0 (ao lw ten (v 0) (v 0).toNat ((pl_U (pl_v sv v) 6 0, ao_ch c y (pl_v sv v) (pl_R sR R), PR 0, PR 1) : ao_Q)).2.2.1) 1 (ao lw ten (v 0) (v 0).toNat ((pl_U (pl_v sv v) 6 0, ao_ch c y (pl_v sv v) (pl_R sR R), PR 0, PR 1) : ao_Q)).2.2.2) ++ LC 24 v R g) : r = some (.inl ((on_all lw ten c y v R).1 6)) ∧ ∃ cv1 b1 s1 wd1 sv1 sR1 sg1 PR1, PKO b1 s1 wd1 sv1 sR1 PR1 ∧ (∀ j, 2 ≤ j → PR1 j = PR j) ∧ (∀ p, 0 ≤ p → p < v 0 → PR1 0 p = (on_all lw ten c y v R).2.2.1 p ∧ PR1 1 p = (on_all lw ten c y v R).2.2.2 p) ∧ PRB PR1 ∧ w = PC 0 pv cv1 b1 s1 wd1 sv1 sR1 sg1 PR1 ++ LC 24 v R g := by
  have hp0 := lk_par h
  have hls : LOK (pl_v sv v) (pl_R sR R) := LOK_take hsh h
  have e20 : ∀ p, 0 ≤ p → p < 10 → (pl_R sR R) 2 p = R 2 p := fun p q1 q2 => (pl_R_q sR R p q1 q2).2.2.1
  have hl2 : LOK (pl_U (pl_v sv v) 6 0) (ao_ch c y (pl_v sv v) (pl_R sR R)) := LOK_v6 (LOK_ch hls (fun q1 q2 => by
    have q2' : c < v 0 := q2
    rw [e20 c q1 (by omega)]
    exact hch q1 q2')) 0
  have h0 : AOI (v 0) (pl_v sv v) (ao_ch c y (pl_v sv v) (pl_R sR R)) 0 ((pl_U (pl_v sv v) 6 0, ao_ch c y (pl_v sv v) (pl_R sR R), PR 0, PR 1) : ao_Q) := ⟨hl2, ⟨rfl, rfl⟩, ⟨Int.le_refl _, Int.le_refl _⟩, ⟨rfl, rfl⟩, fun i => hpb 0 i (by decide), fun i => hpb 1 i (by decide)⟩
  have hA := AOI_m (lw := lw) (ten := ten) h0 (v 0).toNat
  have hQ : AQ ((pl_U (pl_v sv v) 6 0, ao_ch c y (pl_v sv v) (pl_R sR R), PR 0, PR 1) : ao_Q) (pl_U v 6 0, ao_ch c y v R, fun _ => 0, fun _ => 0) (v 0) := ⟨⟨rfl, rfl, rfl⟩, ao_ch_q (v := pl_v sv v) (v' := v) rfl (pl_R_q sR R), fun p q1 q2 => absurd q1 (by have q2' : p < v 0 := q2; omega)⟩
  have hm := AQ_m (lw := lw) (ten := ten) (n := v 0) (by omega) hQ (v 0).toNat (by omega)
  obtain ⟨rfl, cv1, b1, s1, wd1, hb, hs, hw, rfl⟩ := hq
  generalize hqq : ao lw ten (v 0) (v 0).toNat ((pl_U (pl_v sv v) 6 0, ao_ch c y (pl_v sv v) (pl_R sR R), PR 0, PR 1) : ao_Q) = q at hA hm ⊢
  obtain ⟨i1, ⟨i2, i5⟩, i6, i0, iov, iwk⟩ := hA
  have hb' : PRB (pl_U (pl_U PR 0 q.2.2.1) 1 q.2.2.2) := by
    intro r i hr
    unfold pl_U
    split
    · exact iwk i
    · split
      · exact iov i
      · exact hpb r i hr
  refine ⟨congrArg (fun z => some (Sum.inl z)) hm.1.2.2, cv1, b1, s1, wd1, q.1, q.2.1, pl_g sg g 6, pl_U (pl_U PR 0 q.2.2.1) 1 q.2.2.2, ⟨hb, hs, hw, i1, ⟨i6.1, by omega⟩, fun r i => ?_⟩, fun j hj => ?_, fun p q1 q2 => ?_, hb', rfl⟩
  · unfold pl_U
    split
    · have := iwk i; omega
    · split
      · have := iov i; omega
      · exact hpr r i
  · unfold pl_U
    rw [if_neg (by omega), if_neg (by omega)]
  · exact hm.2.2 p (by omega) (by rw [i2]; exact q2)
theorem im_2 {α β γ : Type} (F : α → β → γ) {a a' : α} {b b' : β} (e1 : a = a') (e2 : b = b') : F a b = F a' b' := by rw [e1, e2]
section On
variable {ro : ab_R} {T : List im_T} {d : Nat}
set_option maxHeartbeats 8000000 in
theorem c_once (hd : 5 ≤ d) (hT : T.length < 1000) {v : Nat → Int} {R : Nat → Int → Int} {g : Int → Option Nat} (h : LOK v R) (hday : R 7 0 ≤ 100000) (hg : GV g T) {lw : Option im_T} (hl : LWR v g T lw) {pv cv : Nat → Int} {b : Int} {s wd : Int → Int} {sv : Nat → Int} {sR : Nat → Int → Int} {sg : Int → Option Nat} {PR : Nat → Int → Int} (hk : PKO b s wd sv sR PR) (hpb : PRB PR) {c y ten : Int} (hc : im_ir c) (hy : -1 ≤ y ∧ y ≤ 1) (hten : 0 ≤ ten ∧ ten ≤ 99) (hch : 0 ≤ c → c < v 0 → 0 ≤ R 2 c + y ∧ R 2 c + y ≤ 999) : im_ct ro T d 22 [mr 0, mr 24, .inl c, .inl y, .inl ten] (PC 0 pv cv b s wd sv sR sg PR ++ LC 24 v R g) (fun r w => r = some (.inl ((on_all lw ten c y v R).1 6)) ∧ ∃ cv1 b1 s1 wd1 sv1 sR1 sg1 PR1, PKO b1 s1 wd1 sv1 sR1 PR1 ∧ (∀ j, 2 ≤ j → PR1 j = PR j) ∧ (∀ p, 0 ≤ p → p < v 0 → PR1 0 p = (on_all lw ten c y v R).2.2.1 p ∧ PR1 1 p = (on_all lw ten c y v R).2.2.2 p) ∧ PRB PR1 ∧ w = PC 0 pv cv1 b1 s1 wd1 sv1 sR1 sg1 PR1 ++ LC 24 v R g) := by
  obtain ⟨d, rfl⟩ : ∃ e, d = e + 1 := ⟨d - 1, by omega⟩
  have hp0 := lk_par h
  obtain ⟨hb, hs, hwd, hsh, hs6, hpr⟩ := hk
  have hls : LOK (pl_v sv v) (pl_R sR R) := LOK_take hsh h
  have e20 : ∀ p, 0 ≤ p → p < 10 → (pl_R sR R) 2 p = R 2 p := fun p q1 q2 => (pl_R_q sR R p q1 q2).2.2.1
  have hl2 : LOK (pl_U (pl_v sv v) 6 0) (ao_ch c y (pl_v sv v) (pl_R sR R)) := LOK_v6 (LOK_ch hls (fun q1 q2 => by have q2' : c < v 0 := q2; rw [e20 c q1 (by omega)]; exact hch q1 q2')) 0
  have hr7 : ao_ch c y (pl_v sv v) (pl_R sR R) 7 = (pl_R sR R) 7 := by
    unfold ao_ch
    split <;> rfl
  have hd7 : ao_ch c y (pl_v sv v) (pl_R sR R) 7 0 ≤ 100000 := by
    rw [hr7]
    have e := (pl_R_q sR R 0 (by decide) (by decide)).2.2.2.2.1
    omega
  have hlw : LWR (pl_v sv v) (pl_g sg g 6) T lw := LWR_take h hl
  have h0 : AOI (v 0) (pl_v sv v) (ao_ch c y (pl_v sv v) (pl_R sR R)) 0 ((pl_U (pl_v sv v) 6 0, ao_ch c y (pl_v sv v) (pl_R sR R), PR 0, PR 1) : ao_Q) := ⟨hl2, ⟨rfl, rfl⟩, ⟨Int.le_refl _, Int.le_refl _⟩, ⟨rfl, rfl⟩, fun i => hpb 0 i (by decide), fun i => hpb 1 i (by decide)⟩
  have key : ∀ (j m : Nat), m + j = (v 0).toNat → ∀ (cv : Nat → Int) (b : Int) (s wd : Int → Int), (b = 0 ∨ b = 1) → SOK s → WOK wd → im_wp ro (ab_Ev ro ab_codes d) 3 (some .int) ab_k_X3_atOnce 36 T (fun r w => r = some (.inl ((ao lw ten (v 0) (v 0).toNat ((pl_U (pl_v sv v) 6 0, ao_ch c y (pl_v sv v) (pl_R sR R), PR 0, PR 1) : ao_Q)).1 6)) ∧ ∃ cv1 b1 s1 wd1, (b1 = 0 ∨ b1 = 1) ∧ SOK s1 ∧ WOK wd1 ∧ w = PC 0 pv cv1 b1 s1 wd1 (ao lw ten (v 0) (v 0).toNat ((pl_U (pl_v sv v) 6 0, ao_ch c y (pl_v sv v) (pl_R sR R), PR 0, PR 1) : ao_Q)).1 (ao lw ten (v 0) (v 0).toNat ((pl_U (pl_v sv v) 6 0, ao_ch c y (pl_v sv v) (pl_R sR R), PR 0, PR 1) : ao_Q)).2.1 (pl_g sg g 6) (pl_U (pl_U PR 0 (ao lw ten (v 0) (v 0).toNat ((pl_U (pl_v sv v) 6 0, ao_ch c y (pl_v sv v) (pl_R sR R), PR 0, PR 1) : ao_Q)).2.2.1) 1 (ao lw ten (v 0) (v 0).toNat ((pl_U (pl_v sv v) 6 0, ao_ch c y (pl_v sv v) (pl_R sR R), PR 0, PR 1) : ao_Q)).2.2.2) ++ LC 24 v R g) (51, [some (mr 0), some (mr 24), some (.inl c), some (.inl y), some (.inl ten), some (.inl (v 0 - 1 - (m : Int)))], [], PC 0 pv cv b s wd (ao lw ten (v 0) m ((pl_U (pl_v sv v) 6 0, ao_ch c y (pl_v sv v) (pl_R sR R), PR 0, PR 1) : ao_Q)).1 (ao lw ten (v 0) m ((pl_U (pl_v sv v) 6 0, ao_ch c y (pl_v sv v) (pl_R sR R), PR 0, PR 1) : ao_Q)).2.1 (pl_g sg g 6) (pl_U (pl_U PR 0 (ao lw ten (v 0) m ((pl_U (pl_v sv v) 6 0, ao_ch c y (pl_v sv v) (pl_R sR R), PR 0, PR 1) : ao_Q)).2.2.1) 1 (ao lw ten (v 0) m ((pl_U (pl_v sv v) 6 0, ao_ch c y (pl_v sv v) (pl_R sR R), PR 0, PR 1) : ao_Q)).2.2.2) ++ LC 24 v R g) := by
    intro j
    induction j with
    | zero =>
      intro m hm cv b s wd hb hs hwd
      refine im_g 1 (y := (53, _, _, _)) rfl trivial ?_
      refine im_bT rfl rfl ⟨(by omega), trivial⟩ (by omega) ?_
      refine im_g 3 (y := (166, _, _, _)) rfl trivial ?_
      refine im_r rfl rfl trivial rfl ?_
      obtain rfl : m = (v 0).toNat := by omega
      exact ⟨rfl, cv, b, s, wd, hb, hs, hwd, rfl⟩
    | succ j ih =>
      intro m hm cv b s wd hb hs hwd
      obtain ⟨i1, ⟨i2, i5⟩, i6, ⟨i0, i7⟩, iov, iwk⟩ := AOI_m (lw := lw) (ten := ten) h0 m
      have hp : 0 ≤ v 0 - 1 - (m : Int) ∧ v 0 - 1 - (m : Int) < v 0 := by omega
      generalize hq : (ao lw ten (v 0) m ((pl_U (pl_v sv v) 6 0, ao_ch c y (pl_v sv v) (pl_R sR R), PR 0, PR 1) : ao_Q)) = q at i1 i2 i5 i6 i0 i7 iov iwk ⊢
      generalize hpp : v 0 - 1 - (m : Int) = p at hp ⊢
      have ho := as_over_b lw p ten q.2.1
      have hw := as_wk_b lw p ten q.2.1
      have hle := as_over_le lw i1 p ten
      have hba := as_bar_b lw p ten q.2.1
      have hcn := lk_cnt i1 p
      have hwl := lk_wlk i1 p
      have hsa := lk_sea i1
      have hbl := lk_bel i1 p
      refine im_g 1 (y := (53, _, _, _)) rfl trivial ?_
      refine im_bF rfl rfl ⟨(by omega), trivial⟩ (by omega) ?_
      refine im_g 6 (y := (68, _, _, _)) rfl trivial ?_
      refine im_call [1,2,3,4,5,6,7,8,9,10,11,12,13,14,15,16] rfl rfl (c_ask (v := cv) (by omega) hT hb hs hwd (lv := q.1) (R := q.2.1) (g := (pl_g sg g 6)) i1 (by rw [i7]; exact hd7) (LWR_5 hlw i5) (p := p) (ten := ten) (by omega) hten) rfl rfl rfl (by decide) rfl (by decide) hT (fun v1 w1 hq => ?_)
      obtain ⟨rfl, b1, s1, wd1, hb1, hs1, hwd1, rfl⟩ := hq
      refine ⟨_, _, PC 0 pv (as_v lw p ten q.2.1) b1 s1 wd1 q.1 q.2.1 (pl_g sg g 6) (pl_U (pl_U PR 0 q.2.2.1) 1 q.2.2.2) ++ LC 24 v R g, rfl, rfl, rfl, ?_⟩
      refine im_g 13 (y := (98, _, _, _)) rfl ⟨(by omega), trivial⟩ ?_
      refine im_b rfl rfl ⟨(by show im_ir (as_bar lw p ten q.2.1); omega), trivial⟩ (fun j1 => ?_) (fun j1 => ?_)
      · replace j1 : as_bar lw p ten q.2.1 = 0 := j1
        refine im_g 2 (y := (109, _, _, _)) rfl trivial ?_
        refine im_call [1,2,3,4] rfl rfl (c_walkers (v := (as_v lw p ten q.2.1)) (b := b1) (s := s1) (wd := wd1) (by omega) hT) rfl rfl rfl (by decide) rfl (by decide) hT (fun v1 w1 hq => ?_)
        obtain ⟨rfl, rfl⟩ := hq
        refine ⟨_, _, PC 0 pv (as_v lw p ten q.2.1) b1 s1 wd1 q.1 q.2.1 (pl_g sg g 6) (pl_U (pl_U PR 0 (im_up q.2.2.1 p (as_over lw p ten q.2.1))) 1 q.2.2.2) ++ LC 24 v R g, rfl, rfl, rfl, ?_⟩
        refine im_g 1 (y := (113, _, _, _)) rfl ⟨(by omega), trivial⟩ ?_
        have ew : (as_wk lw p ten q.2.1) = as_over lw p ten q.2.1 - as_stay lw p ten q.2.1 := if_pos (by assumption)
        refine im_eqs (y := (113, [some (mr 0), some (mr 24), some (.inl c), some (.inl y), some (.inl ten), some (.inl (p))], [], PC 0 pv (as_v lw p ten q.2.1) b1 s1 wd1 q.1 q.2.1 (pl_g sg g 6) (pl_U (pl_U PR 0 (im_up q.2.2.1 p (as_over lw p ten q.2.1))) 1 (im_up q.2.2.2 p (as_wk lw p ten q.2.1))) ++ LC 24 v R g)) (by rw [ew]; rfl) ?_
        refine im_g 7 (y := (126, _, _, _)) rfl ⟨(by omega), trivial⟩ ?_
        refine im_eqs (y := (126, [some (mr 0), some (mr 24), some (.inl c), some (.inl y), some (.inl ten), some (.inl (p))], [.inl (as_wk lw p ten q.2.1), .inl p, mr 5], PC 0 pv (as_v lw p ten q.2.1) b1 s1 wd1 q.1 q.2.1 (pl_g sg g 6) (pl_U (pl_U PR 0 (im_up q.2.2.1 p (as_over lw p ten q.2.1))) 1 (im_up q.2.2.2 p (as_wk lw p ten q.2.1))) ++ LC 24 v R g)) (congrArg (fun z => ((126, [some (mr 0), some (mr 24), some (.inl c), some (.inl y), some (.inl ten), some (.inl (p))], [.inl z, .inl p, mr 5], PC 0 pv (as_v lw p ten q.2.1) b1 s1 wd1 q.1 q.2.1 (pl_g sg g 6) (pl_U (pl_U PR 0 (im_up q.2.2.1 p (as_over lw p ten q.2.1))) 1 (im_up q.2.2.2 p (as_wk lw p ten q.2.1))) ++ LC 24 v R g) : im_S)) (im_up_self q.2.2.2 p (as_wk lw p ten q.2.1))) ?_
        refine im_call [5,6,7,8,9,10,11,12,13,14,15,16] rfl rfl (c_leave (v := q.1) (R := q.2.1) (g := (pl_g sg g 6)) (p := p) (n := (as_wk lw p ten q.2.1)) (by omega) hT (by omega) (by omega) (by omega) (by omega) (by omega)) rfl rfl rfl (by decide) rfl (by decide) hT (fun v1 w1 hq => ?_)
        obtain ⟨rfl, rfl⟩ := hq
        refine ⟨_, _, PC 0 pv (as_v lw p ten q.2.1) b1 s1 wd1 q.1 (pl_leave p (as_wk lw p ten q.2.1) q.1 q.2.1) (pl_g sg g 6) (pl_U (pl_U PR 0 (im_up q.2.2.1 p (as_over lw p ten q.2.1))) 1 (im_up q.2.2.2 p (as_wk lw p ten q.2.1))) ++ LC 24 v R g, rfl, rfl, rfl, ?_⟩
        refine im_g 11 (y := (150, _, _, _)) rfl ⟨(by omega), (by omega), trivial⟩ ?_
        refine im_eqs (y := (150, [some (mr 0), some (mr 24), some (.inl c), some (.inl y), some (.inl ten), some (.inl (p))], [.inl (as_wk lw p ten q.2.1), .inl (q.2.1 0 p), mr 5], PC 0 pv (as_v lw p ten q.2.1) b1 s1 wd1 q.1 (pl_leave p (as_wk lw p ten q.2.1) q.1 q.2.1) (pl_g sg g 6) (pl_U (pl_U PR 0 (im_up q.2.2.1 p (as_over lw p ten q.2.1))) 1 (im_up q.2.2.2 p (as_wk lw p ten q.2.1))) ++ LC 24 v R g)) (im_2 (fun a z => ((150, [some (mr 0), some (mr 24), some (.inl c), some (.inl y), some (.inl ten), some (.inl (p))], [.inl z, .inl a, mr 5], PC 0 pv (as_v lw p ten q.2.1) b1 s1 wd1 q.1 (pl_leave p (as_wk lw p ten q.2.1) q.1 q.2.1) (pl_g sg g 6) (pl_U (pl_U PR 0 (im_up q.2.2.1 p (as_over lw p ten q.2.1))) 1 (im_up q.2.2.2 p (as_wk lw p ten q.2.1))) ++ LC 24 v R g) : im_S)) (congrFun (pl_leave_row p (as_wk lw p ten q.2.1) q.1 q.2.1 (j := 0) (by decide) (by decide)) p) (im_up_self q.2.2.2 p (as_wk lw p ten q.2.1))) ?_
        refine im_call [5,6,7,8,9,10,11,12,13,14,15,16] rfl rfl (c_arrive (v := q.1) (R := (pl_leave p (as_wk lw p ten q.2.1) q.1 q.2.1)) (g := (pl_g sg g 6)) (p := q.2.1 0 p) (n := (as_wk lw p ten q.2.1)) (by omega) hT (by omega) (by omega) (by omega) (by omega) (lk_cnt (LOK_leave i1 (by omega))) (by omega)) rfl rfl rfl (by decide) rfl (by decide) hT (fun v1 w1 hq => ?_)
        obtain ⟨rfl, rfl⟩ := hq
        refine ⟨_, _, PC 0 pv (as_v lw p ten q.2.1) b1 s1 wd1 (pl_arr (q.2.1 0 p) (as_wk lw p ten q.2.1) q.1 (pl_leave p (as_wk lw p ten q.2.1) q.1 q.2.1)).1 (pl_arr (q.2.1 0 p) (as_wk lw p ten q.2.1) q.1 (pl_leave p (as_wk lw p ten q.2.1) q.1 q.2.1)).2 (pl_g sg g 6) (pl_U (pl_U PR 0 (im_up q.2.2.1 p (as_over lw p ten q.2.1))) 1 (im_up q.2.2.2 p (as_wk lw p ten q.2.1))) ++ LC 24 v R g, rfl, rfl, rfl, ?_⟩
        refine im_g 2 (y := (51, _, _, _)) rfl trivial ?_
        have e9 : (ao lw ten (v 0) (m + 1) ((pl_U (pl_v sv v) 6 0, ao_ch c y (pl_v sv v) (pl_R sR R), PR 0, PR 1) : ao_Q)) = ao_1 lw ten p q := by
          rw [← hpp, ← hq]
          rfl
        have z := ih (m + 1) (by omega) (as_v lw p ten q.2.1) b1 s1 wd1 hb1 hs1 hwd1
        rw [e9] at z
        exact im_eqs (congrArg (fun z => ((51, [some (mr 0), some (mr 24), some (.inl c), some (.inl y), some (.inl ten), some (.inl (z))], [], PC 0 pv (as_v lw p ten q.2.1) b1 s1 wd1 (ao_1 lw ten p q).1 (ao_1 lw ten p q).2.1 (pl_g sg g 6) (pl_U (pl_U PR 0 (ao_1 lw ten p q).2.2.1) 1 (ao_1 lw ten p q).2.2.2) ++ LC 24 v R g) : im_S)) (show p + -1 = v 0 - 1 - ((m + 1 : Nat) : Int) by omega)) z
      · replace j1 : ¬ as_bar lw p ten q.2.1 = 0 := j1
        refine im_g 3 (y := (113, _, _, _)) rfl ⟨(by omega), trivial⟩ ?_
        have ew : (as_wk lw p ten q.2.1) = 0 := if_neg (by assumption)
        refine im_eqs (y := (113, [some (mr 0), some (mr 24), some (.inl c), some (.inl y), some (.inl ten), some (.inl (p))], [], PC 0 pv (as_v lw p ten q.2.1) b1 s1 wd1 q.1 q.2.1 (pl_g sg g 6) (pl_U (pl_U PR 0 (im_up q.2.2.1 p (as_over lw p ten q.2.1))) 1 (im_up q.2.2.2 p (as_wk lw p ten q.2.1))) ++ LC 24 v R g)) (by rw [ew]; rfl) ?_
        refine im_g 7 (y := (126, _, _, _)) rfl ⟨(by omega), trivial⟩ ?_
        refine im_eqs (y := (126, [some (mr 0), some (mr 24), some (.inl c), some (.inl y), some (.inl ten), some (.inl (p))], [.inl (as_wk lw p ten q.2.1), .inl p, mr 5], PC 0 pv (as_v lw p ten q.2.1) b1 s1 wd1 q.1 q.2.1 (pl_g sg g 6) (pl_U (pl_U PR 0 (im_up q.2.2.1 p (as_over lw p ten q.2.1))) 1 (im_up q.2.2.2 p (as_wk lw p ten q.2.1))) ++ LC 24 v R g)) (congrArg (fun z => ((126, [some (mr 0), some (mr 24), some (.inl c), some (.inl y), some (.inl ten), some (.inl (p))], [.inl z, .inl p, mr 5], PC 0 pv (as_v lw p ten q.2.1) b1 s1 wd1 q.1 q.2.1 (pl_g sg g 6) (pl_U (pl_U PR 0 (im_up q.2.2.1 p (as_over lw p ten q.2.1))) 1 (im_up q.2.2.2 p (as_wk lw p ten q.2.1))) ++ LC 24 v R g) : im_S)) (im_up_self q.2.2.2 p (as_wk lw p ten q.2.1))) ?_
        refine im_call [5,6,7,8,9,10,11,12,13,14,15,16] rfl rfl (c_leave (v := q.1) (R := q.2.1) (g := (pl_g sg g 6)) (p := p) (n := (as_wk lw p ten q.2.1)) (by omega) hT (by omega) (by omega) (by omega) (by omega) (by omega)) rfl rfl rfl (by decide) rfl (by decide) hT (fun v1 w1 hq => ?_)
        obtain ⟨rfl, rfl⟩ := hq
        refine ⟨_, _, PC 0 pv (as_v lw p ten q.2.1) b1 s1 wd1 q.1 (pl_leave p (as_wk lw p ten q.2.1) q.1 q.2.1) (pl_g sg g 6) (pl_U (pl_U PR 0 (im_up q.2.2.1 p (as_over lw p ten q.2.1))) 1 (im_up q.2.2.2 p (as_wk lw p ten q.2.1))) ++ LC 24 v R g, rfl, rfl, rfl, ?_⟩
        refine im_g 11 (y := (150, _, _, _)) rfl ⟨(by omega), (by omega), trivial⟩ ?_
        refine im_eqs (y := (150, [some (mr 0), some (mr 24), some (.inl c), some (.inl y), some (.inl ten), some (.inl (p))], [.inl (as_wk lw p ten q.2.1), .inl (q.2.1 0 p), mr 5], PC 0 pv (as_v lw p ten q.2.1) b1 s1 wd1 q.1 (pl_leave p (as_wk lw p ten q.2.1) q.1 q.2.1) (pl_g sg g 6) (pl_U (pl_U PR 0 (im_up q.2.2.1 p (as_over lw p ten q.2.1))) 1 (im_up q.2.2.2 p (as_wk lw p ten q.2.1))) ++ LC 24 v R g)) (im_2 (fun a z => ((150, [some (mr 0), some (mr 24), some (.inl c), some (.inl y), some (.inl ten), some (.inl (p))], [.inl z, .inl a, mr 5], PC 0 pv (as_v lw p ten q.2.1) b1 s1 wd1 q.1 (pl_leave p (as_wk lw p ten q.2.1) q.1 q.2.1) (pl_g sg g 6) (pl_U (pl_U PR 0 (im_up q.2.2.1 p (as_over lw p ten q.2.1))) 1 (im_up q.2.2.2 p (as_wk lw p ten q.2.1))) ++ LC 24 v R g) : im_S)) (congrFun (pl_leave_row p (as_wk lw p ten q.2.1) q.1 q.2.1 (j := 0) (by decide) (by decide)) p) (im_up_self q.2.2.2 p (as_wk lw p ten q.2.1))) ?_
        refine im_call [5,6,7,8,9,10,11,12,13,14,15,16] rfl rfl (c_arrive (v := q.1) (R := (pl_leave p (as_wk lw p ten q.2.1) q.1 q.2.1)) (g := (pl_g sg g 6)) (p := q.2.1 0 p) (n := (as_wk lw p ten q.2.1)) (by omega) hT (by omega) (by omega) (by omega) (by omega) (lk_cnt (LOK_leave i1 (by omega))) (by omega)) rfl rfl rfl (by decide) rfl (by decide) hT (fun v1 w1 hq => ?_)
        obtain ⟨rfl, rfl⟩ := hq
        refine ⟨_, _, PC 0 pv (as_v lw p ten q.2.1) b1 s1 wd1 (pl_arr (q.2.1 0 p) (as_wk lw p ten q.2.1) q.1 (pl_leave p (as_wk lw p ten q.2.1) q.1 q.2.1)).1 (pl_arr (q.2.1 0 p) (as_wk lw p ten q.2.1) q.1 (pl_leave p (as_wk lw p ten q.2.1) q.1 q.2.1)).2 (pl_g sg g 6) (pl_U (pl_U PR 0 (im_up q.2.2.1 p (as_over lw p ten q.2.1))) 1 (im_up q.2.2.2 p (as_wk lw p ten q.2.1))) ++ LC 24 v R g, rfl, rfl, rfl, ?_⟩
        refine im_g 2 (y := (51, _, _, _)) rfl trivial ?_
        have e9 : (ao lw ten (v 0) (m + 1) ((pl_U (pl_v sv v) 6 0, ao_ch c y (pl_v sv v) (pl_R sR R), PR 0, PR 1) : ao_Q)) = ao_1 lw ten p q := by
          rw [← hpp, ← hq]
          rfl
        have z := ih (m + 1) (by omega) (as_v lw p ten q.2.1) b1 s1 wd1 hb1 hs1 hwd1
        rw [e9] at z
        exact im_eqs (congrArg (fun z => ((51, [some (mr 0), some (mr 24), some (.inl c), some (.inl y), some (.inl ten), some (.inl (z))], [], PC 0 pv (as_v lw p ten q.2.1) b1 s1 wd1 (ao_1 lw ten p q).1 (ao_1 lw ten p q).2.1 (pl_g sg g 6) (pl_U (pl_U PR 0 (ao_1 lw ten p q).2.2.1) 1 (ao_1 lw ten p q).2.2.2) ++ LC 24 v R g) : im_S)) (show p + -1 = v 0 - 1 - ((m + 1 : Nat) : Int) by omega)) z
  refine im_ct_of (own := 3) (ret := (some .int)) (code := ab_k_X3_atOnce) (nL := 6) (L0 := [some (mr 0), some (mr 24), some (.inl c), some (.inl y), some (.inl ten), none]) (n := 36) rfl rfl rfl rfl rfl rfl rfl rfl rfl ?_
  refine im_g 3 (y := (5, _, _, _)) rfl trivial ?_
  refine im_call [5,6,7,8,9,10,11,12,13,14,15,16,24,25,26,27,28,29,30,31,32,33,34,35] rfl rfl (c_takeFrom (v := sv) (v2 := v) (R := sR) (R2 := R) (g := sg) (g2 := g) (by omega) hT (fun t z => hg _ t z)) rfl rfl rfl (by decide) rfl (by decide) hT (fun v1 w1 hq => ?_)
  obtain ⟨rfl, rfl⟩ := hq
  refine ⟨_, _, PC 0 pv cv b s wd (pl_v sv v) (pl_R sR R) (pl_g sg g 6) PR ++ LC 24 v R g, rfl, rfl, rfl, ?_⟩
  refine im_g 3 (y := (13, _, _, _)) rfl trivial ?_
  refine im_call [5,6,7,8,9,10,11,12,13,14,15,16] rfl rfl (c_has (v := (pl_v sv v)) (R := (pl_R sR R)) (g := (pl_g sg g 6)) (p := c) (by omega) hT hc (show 0 ≤ v 0 ∧ v 0 ≤ 10 from hp0)) rfl rfl rfl (by decide) rfl (by decide) hT (fun v1 w1 hq => ?_)
  obtain ⟨rfl, rfl⟩ := hq
  refine ⟨_, _, PC 0 pv cv b s wd (pl_v sv v) (pl_R sR R) (pl_g sg g 6) PR ++ LC 24 v R g, rfl, rfl, rfl, ?_⟩
  have e0 : (pl_v sv v) 0 = v 0 := rfl
  refine im_b rfl rfl ⟨(by omega), trivial⟩ (fun j1 => ?_) (fun j1 => ?_)
  · refine im_g 10 (y := (51, _, _, _)) rfl trivial ?_
    have e : ao_ch c y (pl_v sv v) (pl_R sR R) = (pl_R sR R) := if_neg (by omega)
    refine im_q (fun r w hq => ?_) (im_eqs (y := (51, [some (mr 0), some (mr 24), some (.inl c), some (.inl y), some (.inl ten), some (.inl (v 0 - 1 - ((0 : Nat) : Int)))], [], PC 0 pv cv b s wd (ao lw ten (v 0) 0 ((pl_U (pl_v sv v) 6 0, ao_ch c y (pl_v sv v) (pl_R sR R), PR 0, PR 1) : ao_Q)).1 (ao lw ten (v 0) 0 ((pl_U (pl_v sv v) 6 0, ao_ch c y (pl_v sv v) (pl_R sR R), PR 0, PR 1) : ao_Q)).2.1 (pl_g sg g 6) (pl_U (pl_U PR 0 (ao lw ten (v 0) 0 ((pl_U (pl_v sv v) 6 0, ao_ch c y (pl_v sv v) (pl_R sR R), PR 0, PR 1) : ao_Q)).2.2.1) 1 (ao lw ten (v 0) 0 ((pl_U (pl_v sv v) 6 0, ao_ch c y (pl_v sv v) (pl_R sR R), PR 0, PR 1) : ao_Q)).2.2.2) ++ LC 24 v R g)) ?_ (key (v 0).toNat 0 (by omega) cv b s wd hb hs hwd))
    · exact c_once_q h hsh hs6 hpr hpb hch hq
    · rw [show v 0 - 1 - ((0 : Nat) : Int) = v 0 - 1 by omega]
      show _ = ((51, [some (mr 0), some (mr 24), some (.inl c), some (.inl y), some (.inl ten), some (.inl (v 0 - 1))], [], PC 0 pv cv b s wd (pl_U (pl_v sv v) 6 0) (ao_ch c y (pl_v sv v) (pl_R sR R)) (pl_g sg g 6) (pl_U (pl_U PR 0 (PR 0)) 1 (PR 1)) ++ LC 24 v R g) : im_S)
      rw [e]
      rfl
  · refine im_g 19 (y := (51, _, _, _)) rfl ⟨(by omega), (by omega), trivial⟩ ?_
    have e : ao_ch c y (pl_v sv v) (pl_R sR R) = pl_U (pl_R sR R) 2 (im_up ((pl_R sR R) 2) c ((pl_R sR R) 2 c + y)) := if_pos (by omega)
    refine im_q (fun r w hq => ?_) (im_eqs (y := (51, [some (mr 0), some (mr 24), some (.inl c), some (.inl y), some (.inl ten), some (.inl (v 0 - 1 - ((0 : Nat) : Int)))], [], PC 0 pv cv b s wd (ao lw ten (v 0) 0 ((pl_U (pl_v sv v) 6 0, ao_ch c y (pl_v sv v) (pl_R sR R), PR 0, PR 1) : ao_Q)).1 (ao lw ten (v 0) 0 ((pl_U (pl_v sv v) 6 0, ao_ch c y (pl_v sv v) (pl_R sR R), PR 0, PR 1) : ao_Q)).2.1 (pl_g sg g 6) (pl_U (pl_U PR 0 (ao lw ten (v 0) 0 ((pl_U (pl_v sv v) 6 0, ao_ch c y (pl_v sv v) (pl_R sR R), PR 0, PR 1) : ao_Q)).2.2.1) 1 (ao lw ten (v 0) 0 ((pl_U (pl_v sv v) 6 0, ao_ch c y (pl_v sv v) (pl_R sR R), PR 0, PR 1) : ao_Q)).2.2.2) ++ LC 24 v R g)) ?_ (key (v 0).toNat 0 (by omega) cv b s wd hb hs hwd))
    · exact c_once_q h hsh hs6 hpr hpb hch hq
    · rw [show v 0 - 1 - ((0 : Nat) : Int) = v 0 - 1 by omega]
      show _ = ((51, [some (mr 0), some (mr 24), some (.inl c), some (.inl y), some (.inl ten), some (.inl (v 0 - 1))], [], PC 0 pv cv b s wd (pl_U (pl_v sv v) 6 0) (ao_ch c y (pl_v sv v) (pl_R sR R)) (pl_g sg g 6) (pl_U (pl_U PR 0 (PR 0)) 1 (PR 1)) ++ LC 24 v R g) : im_S)
      rw [e]
      rfl
end On
