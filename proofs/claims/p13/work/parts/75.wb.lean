/-! paper: the fewest -/
/-- what is remembered of who walked is so -/
def CKO (lw : Option im_T) (v : Nat → Int) (R : Nat → Int → Int) (S W : Int → Int) : Prop := (∀ p, 0 ≤ p → p < v 0 → S p = -1 ∨ W p = wb_k lw p (S p) R) ∧ (∀ i, -1000000 ≤ S i ∧ S i ≤ 1000000) ∧ ∀ i, -1000000 ≤ W i ∧ W i ≤ 1000000
theorem CKO_up {lw : Option im_T} {v : Nat → Int} {R : Nat → Int → Int} {S W : Int → Int} (h : CKO lw v R S W) {p c : Int} (hc : 0 ≤ c ∧ c ≤ 999) : CKO lw v R (im_up S p c) (im_up W p (wb_k lw p c R)) := by
  obtain ⟨h1, h2, h3⟩ := h
  have hk := wb_k_b lw p c R
  refine ⟨fun x q1 q2 => ?_, im_up_b h2 (by omega), im_up_b h3 (by omega)⟩
  by_cases e : x = p
  · subst e
    rw [im_up_self, im_up_self]
    exact Or.inr rfl
  · rw [im_up_ne _ _ e, im_up_ne _ _ e]
    exact h1 x q1 q2
section Fw
variable {ro : ab_R} {T : List im_T} {d : Nat}
set_option maxHeartbeats 8000000 in
theorem c_walk (hd : 5 ≤ d) (hT : T.length < 1000) {v : Nat → Int} {R : Nat → Int → Int} {g : Int → Option Nat} (h : LOK v R) {lw : Option im_T} {pv cv : Nat → Int} {b : Int} {s wd : Int → Int} {sv : Nat → Int} {sR : Nat → Int → Int} {sg : Int → Option Nat} {PR : Nat → Int → Int} (hb : b = 0 ∨ b = 1) (hs : SOK s) (hwd : WOK wd) (hsh : SHT v R sv sR) (hday : R 7 0 ≤ 100000) (hs6 : 0 ≤ sv 6 ∧ sv 6 ≤ 1000000) (hlw : LWR sv sg T lw) (hpb : PRB PR) (hck : CKO lw v R (PR 2) (PR 1)) {set : Int} (hset : 0 ≤ set ∧ set ≤ 1023) (hin : ∀ x, 0 ≤ x → x < v 0 → BT set x → ¬ R 0 x = -1) : im_ct ro T d 24 [mr 0, mr 24, .inl set] (PC 0 pv cv b s wd sv sR sg PR ++ LC 24 v R g) (fun r w => r = some (.inl ((wb lw v R set (v 0).toNat).2)) ∧ ∃ cv1 b1 s1 wd1 sR1 PR1, (b1 = 0 ∨ b1 = 1) ∧ SOK s1 ∧ WOK wd1 ∧ SHT v R sv sR1 ∧ PRB PR1 ∧ PR1 4 = PR 4 ∧ CKO lw v R (PR1 2) (PR1 1) ∧ w = PC 0 pv cv1 b1 s1 wd1 sv sR1 sg PR1 ++ LC 24 v R g) := by
  obtain ⟨d, rfl⟩ : ∃ e, d = e + 1 := ⟨d - 1, by omega⟩
  have hp0 := lk_par h
  skip
  have key : ∀ (j m : Nat), m + j = (v 0).toNat → ∀ (cv : Nat → Int) (b : Int) (s wd : Int → Int) (sRx PRx : Nat → Int → Int), (b = 0 ∨ b = 1) → SOK s → WOK wd → SHT v R sv sRx → PRB PRx → PRx 4 = PR 4 → CKO lw v R (PRx 2) (PRx 1) → (∀ i, 0 ≤ i → i < 10 → sRx 2 i = (wb lw v R set m).1 i) → im_wp ro (ab_Ev ro ab_codes d) 3 (some .int) ab_k_X3_walkBySet 36 T (fun r w => r = some (.inl ((wb lw v R set (v 0).toNat).2)) ∧ ∃ cv1 b1 s1 wd1 sR1 PR1, (b1 = 0 ∨ b1 = 1) ∧ SOK s1 ∧ WOK wd1 ∧ SHT v R sv sR1 ∧ PRB PR1 ∧ PR1 4 = PR 4 ∧ CKO lw v R (PR1 2) (PR1 1) ∧ w = PC 0 pv cv1 b1 s1 wd1 sv sR1 sg PR1 ++ LC 24 v R g) (31, [some (mr 0), some (mr 24), some (.inl set), some (.inl ((wb lw v R set m).2)), some (.inl (v 0 - 1 - (m : Int)))], [], PC 0 pv cv b s wd sv sRx sg PRx ++ LC 24 v R g) := by
    intro j
    induction j with
    | zero =>
      intro m hm cv b s wd sRx PRx hb hs hwd hsh hpb h4 hck hCq
      refine im_g 1 (y := (33, _, _, _)) rfl trivial ?_
      refine im_bT rfl rfl ⟨(by omega), trivial⟩ (by omega) ?_
      refine im_g 1 (y := (165, _, _, _)) rfl trivial ?_
      refine im_r rfl rfl trivial rfl ?_
      obtain rfl : m = (v 0).toNat := by omega
      exact ⟨rfl, cv, b, s, wd, sRx, PRx, hb, hs, hwd, hsh, hpb, h4, hck, rfl⟩
    | succ j ih =>
      intro m hm cv b s wd sRx PRx hb hs hwd hsh hpb h4 hck hCq
      have hp : 0 ≤ v 0 - 1 - (m : Int) ∧ v 0 - 1 - (m : Int) < v 0 := by omega
      obtain ⟨q1, q2, q3⟩ := wb_b lw h set m
      have e9 : wb lw v R set (m + 1) = wb_1 lw v R set (v 0 - 1 - (m : Int)) (wb lw v R set m) := rfl
      generalize (wb lw v R set m) = z at q1 q2 q3 e9 hCq ⊢
      generalize hpp : v 0 - 1 - (m : Int) = p at hp e9 ⊢
      obtain ⟨s0, s1, s2, s3, s4, s5⟩ := id hsh
      have ec := hCq p hp.1 (by omega)
      have hkb := wb_k_b lw p (sRx 2 p) R
      have hcp := lk_cnt s1 p
      have hday2 : sRx 7 0 ≤ 100000 := by rw [s3]; exact hday
      have hbl := lk_bel h p
      have hlo := lk_low h hp.1 hp.2
      have hs0 := (s2 p hp.1 (by omega)).1
      have eK : as_wk lw p 0 sRx = wb_k lw p (sRx 2 p) R := wb_k_s hsh ⟨hp.1, by omega⟩
      have hSb := hck.2.1 p
      have tail : ∀ (cv : Nat → Int) (b : Int) (s wd : Int → Int) (PRx : Nat → Int → Int), (b = 0 ∨ b = 1) → SOK s → WOK wd → PRB PRx → PRx 4 = PR 4 → CKO lw v R (PRx 2) (PRx 1) → PRx 1 p = wb_k lw p (sRx 2 p) R → im_wp ro (ab_Ev ro ab_codes d) 3 (some .int) ab_k_X3_walkBySet 36 T (fun r w => r = some (.inl ((wb lw v R set (v 0).toNat).2)) ∧ ∃ cv1 b1 s1 wd1 sR1 PR1, (b1 = 0 ∨ b1 = 1) ∧ SOK s1 ∧ WOK wd1 ∧ SHT v R sv sR1 ∧ PRB PR1 ∧ PR1 4 = PR 4 ∧ CKO lw v R (PR1 2) (PR1 1) ∧ w = PC 0 pv cv1 b1 s1 wd1 sv sR1 sg PR1 ++ LC 24 v R g) (115, [some (mr 0), some (mr 24), some (.inl set), some (.inl (z.2)), some (.inl (p))], [], PC 0 pv cv b s wd sv sRx sg PRx ++ LC 24 v R g) := by
        intro cv b s wd PRx hb hs hwd hpb h4 hck hW
        refine im_g 7 (y := (125, _, _, _)) rfl ⟨(by omega), trivial⟩ ?_
        refine im_eqs (y := (125, [some (mr 0), some (mr 24), some (.inl set), some (.inl (z.2 + wb_k lw p (sRx 2 p) R)), some (.inl (p))], [], PC 0 pv cv b s wd sv sRx sg PRx ++ LC 24 v R g)) (by rw [← hW]; rfl) ?_
        refine im_g 5 (y := (131, _, _, _)) rfl trivial ?_
        refine im_b rfl rfl ⟨(by exact im_and_ir _ _), trivial⟩ (fun j1 => ?_) (fun j1 => ?_)
        · refine im_g 2 (y := (31, _, _, _)) rfl trivial ?_
          have e1 : (wb lw v R set (m + 1)).1 = z.1 := by rw [e9]; exact if_pos (by omega)
          have e2 : (wb lw v R set (m + 1)).2 = z.2 + wb_k lw p (sRx 2 p) R := by rw [e9, ec]; rfl
          have t := ih (m + 1) (by omega) cv b s wd sRx PRx hb hs hwd hsh hpb h4 hck (fun i a1 a2 => by rw [e1]; exact hCq i a1 a2)
          rw [e2, show v 0 - 1 - ((m + 1 : Nat) : Int) = p + -1 by omega] at t
          exact t
        · refine im_g 11 (y := (155, _, _, _)) rfl ⟨(by omega), (by omega), trivial⟩ ?_
          refine im_eqs (y := (155, [some (mr 0), some (mr 24), some (.inl set), some (.inl (z.2 + wb_k lw p (sRx 2 p) R)), some (.inl (p))], [.inl (wb_k lw p (sRx 2 p) R), .inl (R 0 p), mr 5], PC 0 pv cv b s wd sv sRx sg PRx ++ LC 24 v R g)) (by rw [← hW, ← hs0]) ?_
          refine im_call [5,6,7,8,9,10,11,12,13,14,15,16] rfl rfl (c_arrive (v := sv) (R := sRx) (g := sg) (p := R 0 p) (n := wb_k lw p (sRx 2 p) R) (by omega) hT (by omega) (by omega) (by omega) (lk_sea s1) (lk_cnt s1) (by omega)) rfl rfl rfl (by decide) rfl (by decide) hT (fun v1 w1 hq => ?_)
          obtain ⟨rfl, rfl⟩ := hq
          refine ⟨_, _, PC 0 pv cv b s wd (pl_arr (R 0 p) (wb_k lw p (sRx 2 p) R) sv sRx).1 (pl_arr (R 0 p) (wb_k lw p (sRx 2 p) R) sv sRx).2 sg PRx ++ LC 24 v R g, rfl, rfl, rfl, ?_⟩
          refine im_g 2 (y := (31, _, _, _)) rfl trivial ?_
          have hbt : BT set p := by unfold BT; omega
          have hne := hin p hp.1 hp.2 hbt
          have hhas : 0 ≤ R 0 p ∧ R 0 p < v 0 ∧ R 0 p < 10 := by omega
          have e1 : (wb lw v R set (m + 1)).1 = im_up z.1 (R 0 p) (min 999 (z.1 (R 0 p) + wb_k lw p (z.1 p) R)) := by
            rw [e9]
            exact (if_neg (by omega)).trans (if_pos hhas)
          have hcb := lk_cnt s1 (R 0 p)
          have hsh2 : SHT v R sv (pl_U sRx 2 (im_up (sRx 2) (R 0 p) (min 999 (sRx 2 (R 0 p) + wb_k lw p (sRx 2 p) R)))) := ⟨s0, LOK_cnt s1 (im_up_b (f := sRx 2) (lk_cnt s1) (by omega)), s2, s3, s4, s5⟩
          have ea : pl_arr (R 0 p) (wb_k lw p (sRx 2 p) R) sv sRx = (sv, (pl_U sRx 2 (im_up (sRx 2) (R 0 p) (min 999 (sRx 2 (R 0 p) + wb_k lw p (sRx 2 p) R))))) := if_pos (by rw [s0]; exact hhas)
          rw [ea]
          have e2 : (wb lw v R set (m + 1)).2 = z.2 + wb_k lw p (sRx 2 p) R := by rw [e9, ec]; rfl
          have t := ih (m + 1) (by omega) cv b s wd (pl_U sRx 2 (im_up (sRx 2) (R 0 p) (min 999 (sRx 2 (R 0 p) + wb_k lw p (sRx 2 p) R)))) PRx hb hs hwd hsh2 hpb h4 hck (fun i a1 a2 => by rw [e1, ← ec, ← hCq (R 0 p) (by omega) (by omega)]; show im_up _ _ _ i = _; unfold im_up; split; rfl; exact hCq i a1 a2)
          rw [e2, show v 0 - 1 - ((m + 1 : Nat) : Int) = p + -1 by omega] at t
          exact t
      refine im_g 1 (y := (33, _, _, _)) rfl trivial ?_
      refine im_bF rfl rfl ⟨(by omega), trivial⟩ (by omega) ?_
      refine im_g 9 (y := (53, _, _, _)) rfl ⟨(by omega), (by omega), trivial⟩ ?_
      refine im_b rfl rfl ⟨(by omega), (by omega), trivial⟩ (fun j1 => ?_) (fun j1 => ?_)
      · have hSp : PRx 2 p = sRx 2 p := by omega
        have hWp : PRx 1 p = wb_k lw p (sRx 2 p) R := by rcases hck.1 p hp.1 hp.2 with t | t; omega; rw [← hSp]; exact t
        exact tail cv b s wd PRx hb hs hwd hpb h4 hck hWp
      · refine im_g 15 (y := (84, _, _, _)) rfl ⟨(by omega), (by omega), trivial⟩ ?_
        refine im_call [1,2,3,4,5,6,7,8,9,10,11,12,13,14,15,16] rfl rfl (c_ask (v := cv) (by omega) hT hb hs hwd (lv := sv) (R := sRx) (g := sg) s1 hday2 hlw (p := p) (ten := 0) (by omega) (by decide)) rfl rfl rfl (by decide) rfl (by decide) hT (fun v1 w1 hq => ?_)
        obtain ⟨rfl, b1, s1_, wd1, hb1, hs1, hwd1, rfl⟩ := hq
        refine ⟨_, _, PC 0 pv (as_v lw p 0 sRx) b1 s1_ wd1 sv sRx sg (pl_U PRx 2 (im_up (PRx 2) p (sRx 2 p))) ++ LC 24 v R g, rfl, rfl, rfl, ?_⟩
        refine im_g 6 (y := (100, _, _, _)) rfl trivial ?_
        refine im_b rfl rfl ⟨(by show im_ir (as_bar lw p 0 sRx); have := as_bar_b lw p 0 sRx; constructor <;> omega), trivial⟩ (fun j2 => ?_) (fun j2 => ?_)
        · replace j2 : as_bar lw p 0 sRx = 0 := j2
          refine im_g 2 (y := (111, _, _, _)) rfl trivial ?_
          refine im_call [1,2,3,4] rfl rfl (c_walkers (v := as_v lw p 0 sRx) (b := b1) (s := s1_) (wd := wd1) (by omega) hT) rfl rfl rfl (by decide) rfl (by decide) hT (fun v1 w1 hq => ?_)
          obtain ⟨rfl, rfl⟩ := hq
          refine ⟨_, _, PC 0 pv (as_v lw p 0 sRx) b1 s1_ wd1 sv sRx sg (pl_U PRx 2 (im_up (PRx 2) p (sRx 2 p))) ++ LC 24 v R g, rfl, rfl, rfl, ?_⟩
          refine im_g 1 (y := (115, _, _, _)) rfl ⟨(by omega), trivial⟩ ?_
          have ew : as_wk lw p 0 sRx = as_over lw p 0 sRx - as_stay lw p 0 sRx := if_pos (by assumption)
          rw [eK] at ew
          have t := tail (as_v lw p 0 sRx) b1 s1_ wd1 (pl_U (pl_U PRx 2 (im_up (PRx 2) p (sRx 2 p))) 1 (im_up (PRx 1) p (wb_k lw p (sRx 2 p) R))) hb1 hs1 hwd1 (PRB_U (PRB_U hpb (im_up_b hck.2.1 (by omega))) (im_up_b hck.2.2 (by omega))) h4 (CKO_up hck hcp) (im_up_self _ _ _)
          rw [ew] at t
          exact t
        · replace j2 : ¬ as_bar lw p 0 sRx = 0 := j2
          refine im_g 3 (y := (115, _, _, _)) rfl ⟨(by omega), trivial⟩ ?_
          have ew : as_wk lw p 0 sRx = 0 := if_neg (by assumption)
          rw [eK] at ew
          have t := tail (as_v lw p 0 sRx) b1 s1_ wd1 (pl_U (pl_U PRx 2 (im_up (PRx 2) p (sRx 2 p))) 1 (im_up (PRx 1) p (wb_k lw p (sRx 2 p) R))) hb1 hs1 hwd1 (PRB_U (PRB_U hpb (im_up_b hck.2.1 (by omega))) (im_up_b hck.2.2 (by omega))) h4 (CKO_up hck hcp) (im_up_self _ _ _)
          rw [ew] at t
          exact t
  refine im_ct_of (own := 3) (ret := (some .int)) (code := ab_k_X3_walkBySet) (nL := 5) (L0 := [some (mr 0), some (mr 24), some (.inl set), none, none]) (n := 36) rfl rfl rfl rfl rfl rfl rfl rfl rfl ?_
  refine im_g 17 (y := (31, _, _, _)) rfl ⟨(by omega), (by omega), (by omega), (by omega), (by omega), trivial⟩ ?_
  have hCi : ∀ i, 0 ≤ im_cpy (R 2) (sR 2) 0 0 10 i ∧ im_cpy (R 2) (sR 2) 0 0 10 i ≤ 999 := fun i => by
    have t1 := lk_cnt h i
    have t2 := lk_cnt hsh.2.1 i
    rw [im_cpy_at]
    split <;> omega
  have hsh2 : SHT v R sv (pl_U sR 2 (im_cpy (R 2) (sR 2) 0 0 10)) := ⟨hsh.1, LOK_cnt hsh.2.1 hCi, hsh.2.2.1, hsh.2.2.2.1, hsh.2.2.2.2.1, hsh.2.2.2.2.2⟩
  have t := key (v 0).toNat 0 (by omega) cv b s wd (pl_U sR 2 (im_cpy (R 2) (sR 2) 0 0 10)) PR hb hs hwd hsh2 hpb rfl hck (fun i q1 q2 => by show im_cpy (R 2) (sR 2) 0 0 10 i = _; rw [im_cpy_at, if_pos ⟨q1, q2⟩]; rfl)
  rw [show v 0 - 1 - ((0 : Nat) : Int) = sv 0 - 1 by rw [hsh.1]; omega] at t
  exact t
set_option maxHeartbeats 8000000 in
theorem c_fewest (hd : 6 ≤ d) (hT : T.length < 1000) {v : Nat → Int} {R : Nat → Int → Int} {g : Int → Option Nat} (h : LOK v R) (hday : R 7 0 ≤ 100000) (hg : GV g T) {lw : Option im_T} (hl : LWR v g T lw) {pv cv : Nat → Int} {b : Int} {s wd : Int → Int} {sv : Nat → Int} {sR : Nat → Int → Int} {sg : Int → Option Nat} {PR : Nat → Int → Int} (hk : PKO b s wd sv sR PR) (hpb : PRB PR) : im_ct ro T d 23 [mr 0, mr 24] (PC 0 pv cv b s wd sv sR sg PR ++ LC 24 v R g) (fun r w => r = none ∧ ∃ pv1 cv1 b1 s1 wd1 sv1 sR1 sg1 PR1, PKO b1 s1 wd1 sv1 sR1 PR1 ∧ PRB PR1 ∧ (pv1 2 = (fe_ans lw v R).1 ∧ pv1 3 = (fe_ans lw v R).2) ∧ w = PC 0 pv1 cv1 b1 s1 wd1 sv1 sR1 sg1 PR1 ++ LC 24 v R g) := by
  obtain ⟨d, rfl⟩ : ∃ e, d = e + 1 := ⟨d - 1, by omega⟩
  have hp0 := lk_par h
  obtain ⟨hb, hs, hwd, hsh, hs6, hpr⟩ := hk
  have hls : LOK (pl_v sv v) (pl_R sR R) := LOK_take hsh h
  have hlw : LWR (pl_v sv v) (pl_g sg g 6) T lw := LWR_take h hl
  have hST : SHT v R (pl_v sv v) (pl_R sR R) := ⟨rfl, hls, fun p q1 q2 => by have t := pl_R_q sR R p q1 q2; exact ⟨t.1, t.2.1, t.2.2.2.1⟩, (pl_R_q sR R 0 (by decide) (by decide)).2.2.2.2.1, (pl_R_q sR R 0 (by decide) (by decide)).2.2.2.2.2.1, (pl_R_q sR R 0 (by decide) (by decide)).2.2.2.2.2.2⟩
  have hs60 : 0 ≤ (pl_v sv v) 6 ∧ (pl_v sv v) 6 ≤ 1000000 := hs6
  have hinb := in_b_b R (v 0).toNat (by omega)
  have key : ∀ (j m : Nat), (m : Int) + j = (in_b R (v 0).toNat) → ∀ (pvx cv : Nat → Int) (b : Int) (s wd : Int → Int) (sRx PRx : Nat → Int → Int) (x4 : Option im_V), (b = 0 ∨ b = 1) → SOK s → WOK wd → SHT v R (pl_v sv v) sRx → PRB PRx → PRx 4 = PR 4 → CKO lw v R (PRx 2) (PRx 1) → pvx 2 = (fe lw v R (in_b R (v 0).toNat) m).1 → pvx 3 = (fe lw v R (in_b R (v 0).toNat) m).2 → im_wp ro (ab_Ev ro ab_codes d) 3 none ab_k_X3_findFewest 36 T (fun r w => r = none ∧ ∃ pv1 cv1 b1 s1 wd1 sv1 sR1 sg1 PR1, PKO b1 s1 wd1 sv1 sR1 PR1 ∧ PRB PR1 ∧ (pv1 2 = (fe_ans lw v R).1 ∧ pv1 3 = (fe_ans lw v R).2) ∧ w = PC 0 pv1 cv1 b1 s1 wd1 sv1 sR1 sg1 PR1 ++ LC 24 v R g) (70, [some (mr 0), some (mr 24), some (.inl (in_b R (v 0).toNat)), some (.inl ((m : Int) + 1)), x4], [], PC 0 pvx cv b s wd (pl_v sv v) sRx (pl_g sg g 6) PRx ++ LC 24 v R g) := by
    intro j
    induction j with
    | zero =>
      intro m hm pvx cv b s wd sRx PRx x4 hb hs hwd hsh hpb h4 hck hp2 hp3
      have hfb := fe_b lw h (in_b R (v 0).toNat) m
      refine im_g 2 (y := (72, _, _, _)) rfl trivial ?_
      refine im_bT rfl rfl ⟨(by omega), (by omega), trivial⟩ (by omega) ?_
      refine im_r rfl rfl trivial rfl ?_
      obtain rfl : m = (in_b R (v 0).toNat).toNat := by omega
      refine ⟨rfl, pvx, cv, b, s, wd, _, sRx, _, PRx, ⟨hb, hs, hwd, hsh.2.1, hs60, fun r i => ?_⟩, hpb, ⟨hp2, hp3⟩, rfl⟩
      by_cases e4 : r = 4
      · subst e4; rw [h4]; exact hpr 4 i
      · have t := hpb r i e4; omega
    | succ j ih =>
      intro m hm pvx cv b s wd sRx PRx x4 hb hs hwd hsh hpb h4 hck hp2 hp3
      have hfb := fe_b lw h (in_b R (v 0).toNat) m
      have hwb := (wb_b lw h ((m : Int) + 1) (v 0).toNat).2
      have ef : fe lw v R (in_b R (v 0).toNat) (m + 1) = if im_and ((m : Int) + 1) (im_xor (in_b R (v 0).toNat) (-1)) = 0 ∧ (wb lw v R ((m : Int) + 1) (v 0).toNat).2 < (fe lw v R (in_b R (v 0).toNat) m).1 then ((wb lw v R ((m : Int) + 1) (v 0).toNat).2, ((m : Int) + 1)) else fe lw v R (in_b R (v 0).toNat) m := rfl
      generalize hu : (in_b R (v 0).toNat) = u at hm hinb hfb ef ih hp2 hp3 ⊢
      refine im_g 2 (y := (72, _, _, _)) rfl trivial ?_
      refine im_bF rfl rfl ⟨(by omega), (by omega), trivial⟩ (by omega) ?_
      refine im_g 5 (y := (80, _, _, _)) rfl trivial ?_
      refine im_b rfl rfl ⟨(by have t1 := im_and_ir ((m : Int) + 1) (im_xor u (-1)); exact t1), trivial⟩ (fun j1 => ?_) (fun j1 => ?_)
      · refine im_g 2 (y := (70, _, _, _)) rfl trivial ?_
        rw [if_neg (fun z => absurd z.1 (by assumption))] at ef
        have t := ih (m + 1) (by omega) pvx cv b s wd sRx PRx x4 hb hs hwd hsh hpb h4 hck (by rw [ef]; exact hp2) (by rw [ef]; exact hp3)
        rw [show ((m + 1 : Nat) : Int) + 1 = (m : Int) + 1 + 1 by omega] at t
        exact t
      · have hclr : im_and ((m : Int) + 1) (im_xor u (-1)) = 0 := Classical.not_not.mp j1
        refine im_g 3 (y := (86, _, _, _)) rfl trivial ?_
        refine im_call [0,1,2,3,4,5,6,7,8,9,10,11,12,13,14,15,16,17,18,19,20,21,22,23,24,25,26,27,28,29,30,31,32,33,34,35] rfl rfl (c_walk (by omega) hT (g := g) h (pv := pvx) (cv := cv) (sg := (pl_g sg g 6)) (PR := PRx) (sR := sRx) hb hs hwd hsh hday hs60 hlw hpb hck (set := ((m : Int) + 1)) (by omega) (fun x q1 q2 q3 => (hinb.2 x q1 (by omega) (by obtain ⟨nu, hnu⟩ : ∃ n : Nat, u = n := ⟨u.toNat, by omega⟩; obtain ⟨nx, hnx⟩ : ∃ n : Nat, x = n := ⟨x.toNat, by omega⟩; subst hnx; rw [hnu]; exact im_clear (s := m + 1) (u := nu) (by omega) (by omega) (by rw [← hnu]; exact hclr) (by omega) q3)).2)) rfl rfl rfl (by decide) rfl (by decide) hT (fun v1 w1 hq => ?_)
        obtain ⟨rfl, cv1, b1, s1, wd1, sR1, PR1, hb1, hs1, hwd1, hsh1, hpb1, h41, hck1, rfl⟩ := hq
        refine ⟨_, _, PC 0 pvx cv1 b1 s1 wd1 (pl_v sv v) sR1 (pl_g sg g 6) PR1 ++ LC 24 v R g, rfl, rfl, rfl, ?_⟩
        refine im_g 4 (y := (97, _, _, _)) rfl trivial ?_
        refine im_b rfl rfl ⟨(by first | omega | (rw [hp2]; constructor <;> omega)), (by first | omega | (rw [hp2]; constructor <;> omega)), trivial⟩ (fun j2 => ?_) (fun j2 => ?_)
        · refine im_g 2 (y := (70, _, _, _)) rfl trivial ?_
          rw [if_neg (fun z => absurd z.2 (by omega))] at ef
          have t := ih (m + 1) (by omega) pvx cv1 b1 s1 wd1 sR1 PR1 (some (.inl (wb lw v R ((m : Int) + 1) (v 0).toNat).2)) hb1 hs1 hwd1 hsh1 hpb1 (h41.trans h4) hck1 (by rw [ef]; exact hp2) (by rw [ef]; exact hp3)
          rw [show ((m + 1 : Nat) : Int) + 1 = (m : Int) + 1 + 1 by omega] at t
          exact t
        · refine im_g 8 (y := (70, _, _, _)) rfl trivial ?_
          rw [if_pos ⟨by omega, by omega⟩] at ef
          have t := ih (m + 1) (by omega) (pl_U (pl_U pvx 2 (wb lw v R ((m : Int) + 1) (v 0).toNat).2) 3 ((m : Int) + 1)) cv1 b1 s1 wd1 sR1 PR1 (some (.inl (wb lw v R ((m : Int) + 1) (v 0).toNat).2)) hb1 hs1 hwd1 hsh1 hpb1 (h41.trans h4) hck1 (by rw [ef]; rfl) (by rw [ef]; rfl)
          rw [show ((m + 1 : Nat) : Int) + 1 = (m : Int) + 1 + 1 by omega] at t
          exact t
  refine im_ct_of (own := 3) (ret := none) (code := ab_k_X3_findFewest) (nL := 5) (L0 := [some (mr 0), some (mr 24), none, none, none]) (n := 36) rfl rfl rfl rfl rfl rfl rfl rfl rfl ?_
  refine im_g 4 (y := (4, _, _, _)) rfl trivial ?_
  have kb : ∀ (j k : Nat), (k : Int) + j = v 0 → ∀ PRx : Nat → Int → Int, PRB PRx → PRx 4 = PR 4 → (∀ p : Int, 0 ≤ p → p < k → PRx 2 p = -1) → im_wp ro (ab_Ev ro ab_codes d) 3 none ab_k_X3_findFewest 36 T (fun r w => r = none ∧ ∃ pv1 cv1 b1 s1 wd1 sv1 sR1 sg1 PR1, PKO b1 s1 wd1 sv1 sR1 PR1 ∧ PRB PR1 ∧ (pv1 2 = (fe_ans lw v R).1 ∧ pv1 3 = (fe_ans lw v R).2) ∧ w = PC 0 pv1 cv1 b1 s1 wd1 sv1 sR1 sg1 PR1 ++ LC 24 v R g) (4, [some (mr 0), some (mr 24), some (.inl (in_b R k)), some (.inl ((k : Int))), none], [], PC 0 pv cv b s wd sv sR sg PRx ++ LC 24 v R g) := by
    intro j
    induction j with
    | zero =>
      intro k hk PRx hpb h4 hS
      obtain rfl : k = (v 0).toNat := by omega
      have hck0 : CKO lw v R (PRx 2) (PRx 1) := ⟨fun p q1 q2 => Or.inl (hS p q1 (by omega)), fun i => hpb 2 i (by decide), fun i => hpb 1 i (by decide)⟩
      refine im_g 3 (y := (9, _, _, _)) rfl trivial ?_
      refine im_bT rfl rfl ⟨(by omega), (by omega), trivial⟩ (by omega) ?_
      refine im_g 3 (y := (50, _, _, _)) rfl trivial ?_
      refine im_call [5,6,7,8,9,10,11,12,13,14,15,16,24,25,26,27,28,29,30,31,32,33,34,35] rfl rfl (c_takeFrom (v := sv) (v2 := v) (R := sR) (R2 := R) (g := sg) (g2 := g) (by omega) hT (fun t z => hg _ t z)) rfl rfl rfl (by decide) rfl (by decide) hT (fun v1 w1 hq => ?_)
      obtain ⟨rfl, rfl⟩ := hq
      refine ⟨_, _, PC 0 pv cv b s wd (pl_v sv v) (pl_R sR R) (pl_g sg g 6) PRx ++ LC 24 v R g, rfl, rfl, rfl, ?_⟩
      refine im_g 4 (y := (57, _, _, _)) rfl trivial ?_
      refine im_call [0,1,2,3,4,5,6,7,8,9,10,11,12,13,14,15,16,17,18,19,20,21,22,23,24,25,26,27,28,29,30,31,32,33,34,35] rfl rfl (c_walk (by omega) hT (g := g) h (pv := pv) (cv := cv) (sg := (pl_g sg g 6)) (PR := PRx) (sR := (pl_R sR R)) hb hs hwd hST hday hs60 hlw hpb hck0 (set := 0) (by omega) (fun x q1 q2 q3 => absurd q3 (BT_0 x ⟨q1, by omega⟩))) rfl rfl rfl (by decide) rfl (by decide) hT (fun v1 w1 hq => ?_)
      obtain ⟨rfl, cv1, b1, s1, wd1, sR1, PR1, hb1, hs1, hwd1, hsh1, hpb1, h41, hck1, rfl⟩ := hq
      refine ⟨_, _, PC 0 pv cv1 b1 s1 wd1 (pl_v sv v) sR1 (pl_g sg g 6) PR1 ++ LC 24 v R g, rfl, rfl, rfl, ?_⟩
      refine im_g 6 (y := (70, _, _, _)) rfl trivial ?_
      have t := key (in_b R (v 0).toNat).toNat 0 (by omega) (pl_U (pl_U pv 2 (wb lw v R 0 (v 0).toNat).2) 3 0) cv1 b1 s1 wd1 sR1 PR1 none hb1 hs1 hwd1 hsh1 hpb1 (h41.trans h4) hck1 rfl rfl
      exact t
    | succ j ih =>
      intro k hk PRx hpb h4 hS
      have hik := in_b_b R k (by omega)
      have hbk := lk_bel h (k : Int)
      refine im_g 3 (y := (9, _, _, _)) rfl trivial ?_
      refine im_bF rfl rfl ⟨(by omega), (by omega), trivial⟩ (by omega) ?_
      refine im_g 6 (y := (20, _, _, _)) rfl ⟨(by omega), trivial⟩ ?_
      refine im_b rfl rfl ⟨(by omega), (by omega), trivial⟩ (fun j1 => ?_) (fun j1 => ?_)
      · refine im_g 12 (y := (4, _, _, _)) rfl ⟨(by omega), trivial⟩ ?_
        have e1 : in_b R (k + 1) = im_or (in_b R k) (im_shl 1 (k : Int)) := by
          show im_or _ (if _ then _ else _) = _
          rw [if_neg (by omega)]
        have t := ih (k + 1) (by omega) (pl_U PRx 2 (im_up (PRx 2) (k : Int) (-1))) (PRB_U hpb (im_up_b (fun i => hpb 2 i (by decide)) (by decide))) h4 (fun p q1 q2 => by show im_up _ _ _ p = _; unfold im_up; split; rfl; exact hS p q1 (by omega))
        rw [e1] at t
        exact t
      · refine im_g 11 (y := (4, _, _, _)) rfl ⟨(by omega), trivial⟩ ?_
        have e1 : in_b R (k + 1) = im_or (in_b R k) (0) := by
          show im_or _ (if _ then _ else _) = _
          rw [if_pos (by omega)]
        have t := ih (k + 1) (by omega) (pl_U PRx 2 (im_up (PRx 2) (k : Int) (-1))) (PRB_U hpb (im_up_b (fun i => hpb 2 i (by decide)) (by decide))) h4 (fun p q1 q2 => by show im_up _ _ _ p = _; unfold im_up; split; rfl; exact hS p q1 (by omega))
        rw [e1] at t
        exact t
  have t := kb (v 0).toNat 0 (by omega) PR hpb rfl (fun p q1 q2 => absurd q1 (by omega))
  exact t
end Fw
