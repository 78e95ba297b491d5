/-! paper: those hidden -/
theorem hd_all_congr {o o' : Int → Int} {v : Nat → Int} {R : Nat → Int → Int} (h : LOK v R) (ho : ∀ i, 0 ≤ i → i < v 0 → o i = o' i) : ∀ k : Nat, (k : Int) ≤ v 3 → hd_all o v R k = hd_all o' v R k
  | 0, _ => rfl
  | k + 1, hk => by
    have e1 := lk_hof h (k : Int)
    have e2 := lk_hea h (p := (k : Int)) (by omega) (by omega)
    show (hd_all o v R k && decide (o (R 8 (k : Int)) = R 9 (k : Int))) = (hd_all o' v R k && decide (o' (R 8 (k : Int)) = R 9 (k : Int)))
    rw [hd_all_congr h ho k (by omega), ho _ e1.1 e2]
def fh_is (lw : Option im_T) (v : Nat → Int) (R : Nat → Int → Int) (p : Int) : Bool := decide (0 < R 2 p) && hd_all (on_all lw 0 p (-1) v R).2.2.1 v R (v 3).toNat
def fh (lw : Option im_T) (v : Nat → Int) (R : Nat → Int → Int) : Nat → Nat × (Int → Int)
  | 0 => (0, fun _ => 0)
  | k + 1 => if fh_is lw v R (k : Int) = true then ((fh lw v R k).1 + 1, im_up (fh lw v R k).2 ((fh lw v R k).1 : Int) (k : Int)) else fh lw v R k
theorem fh_b (lw : Option im_T) (v : Nat → Int) (R : Nat → Int → Int) : ∀ k, (fh lw v R k).1 ≤ k
  | 0 => Nat.le_refl _
  | k + 1 => by
    have h := fh_b lw v R k
    unfold fh
    split
    · dsimp only; omega
    · omega
def FHI (lw : Option im_T) (v : Nat → Int) (R : Nat → Int → Int) (m : Nat) (pv : Nat → Int) (PR : Nat → Int → Int) : Prop := pv 0 = ((fh lw v R m).1 : Int) ∧ (∀ a : Int, 0 ≤ a → a < pv 0 → PR 6 a = (fh lw v R m).2 a) ∧ ∀ a i : Int, 0 ≤ a → a < pv 0 → 0 ≤ i → i < v 0 → PR 3 (a * 10 + i) = (on_all lw 0 ((fh lw v R m).2 a) (-1) v R).2.2.1 i
theorem FHI_q {lw : Option im_T} {v : Nat → Int} {R : Nat → Int → Int} {m : Nat} {pv : Nat → Int} {PR PR1 : Nat → Int → Int} (h : FHI lw v R m pv PR) (hP : ∀ j, 2 ≤ j → PR1 j = PR j) : FHI lw v R m pv PR1 := by
  obtain ⟨h1, h2, h3⟩ := h
  refine ⟨h1, ?_, ?_⟩
  · rw [hP 6 (by decide)]; exact h2
  · rw [hP 3 (by decide)]; exact h3
theorem FHI_n {lw : Option im_T} {v : Nat → Int} {R : Nat → Int → Int} {m : Nat} {pv : Nat → Int} {PR : Nat → Int → Int} (h : FHI lw v R m pv PR) (hn : fh_is lw v R (m : Int) = false) : FHI lw v R (m + 1) pv PR := by
  have e : fh lw v R (m + 1) = fh lw v R m := if_neg (by rw [hn]; decide)
  unfold FHI
  rw [e]
  exact h
abbrev fh_P (PR : Nat → Int → Int) (z p : Int) : Nat → Int → Int := pl_U (pl_U PR 3 (im_cpy (PR 0) (PR 3) 0 (z * 10) 10)) 6 (im_up (PR 6) z p)
theorem FHI_y {lw : Option im_T} {v : Nat → Int} {R : Nat → Int → Int} {m : Nat} {pv : Nat → Int} {PR : Nat → Int → Int} (h : FHI lw v R m pv PR) (hy : fh_is lw v R (m : Int) = true) (hv : v 0 ≤ 10) (hO : ∀ i, 0 ≤ i → i < v 0 → PR 0 i = (on_all lw 0 (m : Int) (-1) v R).2.2.1 i) : FHI lw v R (m + 1) (pl_U pv 0 (pv 0 + 1)) (fh_P PR (pv 0) (m : Int)) := by
  obtain ⟨h1, h2, h3⟩ := h
  have e : fh lw v R (m + 1) = ((fh lw v R m).1 + 1, im_up (fh lw v R m).2 ((fh lw v R m).1 : Int) (m : Int)) := if_pos hy
  have e0 : pl_U pv 0 (pv 0 + 1) 0 = pv 0 + 1 := rfl
  unfold FHI
  rw [e, e0]
  dsimp only
  rw [← h1]
  refine ⟨by omega, ?_, ?_⟩
  · intro a a1 a2
    show im_up (PR 6) (pv 0) (m : Int) a = im_up (fh lw v R m).2 (pv 0) (m : Int) a
    unfold im_up
    split
    · rfl
    · exact h2 a a1 (by omega)
  · intro a i a1 a2 i1 i2
    show im_cpy (PR 0) (PR 3) 0 (pv 0 * 10) 10 (a * 10 + i) = _
    unfold im_cpy im_up
    by_cases q : a = pv 0
    · rw [if_pos (by omega), if_pos q, show 0 + (a * 10 + i - pv 0 * 10) = i by omega]
      exact hO i i1 i2
    · rw [if_neg (by omega), if_neg q]
      exact h3 a i a1 (by omega) i1 i2
theorem PRB_h {PR : Nat → Int → Int} (h : PRB PR) {z p : Int} (hp : 0 ≤ p ∧ p ≤ 10) : PRB (fh_P PR z p) := by
  intro r i hr
  have a0 := h 0
  have a3 := h 3
  have a6 := h 6 i (by decide)
  show -1000000 ≤ (if r = 6 then _ else if r = 3 then _ else PR r) i ∧ (if r = 6 then _ else if r = 3 then _ else PR r) i ≤ 1000000
  split
  · unfold im_up; split
    · omega
    · exact a6
  split
  · unfold im_cpy; split
    · exact a0 _ (by decide)
    · exact a3 _ (by decide)
  · exact h r i hr
theorem PKO_h {b : Int} {s wd : Int → Int} {sv : Nat → Int} {sR PR : Nat → Int → Int} (h : PKO b s wd sv sR PR) (hb : PRB PR) {z p : Int} (hp : 0 ≤ p ∧ p ≤ 10) : PKO b s wd sv sR (fh_P PR z p) := by
  obtain ⟨h1, h2, h3, h4, h5, h6⟩ := h
  refine ⟨h1, h2, h3, h4, h5, fun r i => ?_⟩
  by_cases q : r = 4
  · subst q
    exact h6 4 i
  · have := PRB_h hb hp (z := z) r i q
    omega
section Hi
variable {ro : ab_R} {T : List im_T} {d : Nat}
set_option maxHeartbeats 4000000 in
theorem c_hidden (hd : 6 ≤ d) (hT : T.length < 1000) {v : Nat → Int} {R : Nat → Int → Int} {g : Int → Option Nat} (h : LOK v R) (hday : R 7 0 ≤ 100000) (hg : GV g T) {lw : Option im_T} (hl : LWR v g T lw) {pv cv : Nat → Int} {b : Int} {s wd : Int → Int} {sv : Nat → Int} {sR : Nat → Int → Int} {sg : Int → Option Nat} {PR : Nat → Int → Int} (hk : PKO b s wd sv sR PR) (hpb : PRB PR) : im_ct ro T d 28 [mr 0, mr 24] (PC 0 pv cv b s wd sv sR sg PR ++ LC 24 v R g) (fun r w => r = none ∧ ∃ pv1 cv1 b1 s1 wd1 sv1 sR1 sg1 PR1, PKO b1 s1 wd1 sv1 sR1 PR1 ∧ PRB PR1 ∧ FHI lw v R (v 0).toNat pv1 PR1 ∧ (∀ j, 1 ≤ j → pv1 j = pv j) ∧ w = PC 0 pv1 cv1 b1 s1 wd1 sv1 sR1 sg1 PR1 ++ LC 24 v R g) := by
  obtain ⟨d, rfl⟩ : ∃ e, d = e + 1 := ⟨d - 1, by omega⟩
  have hpar := lk_par h
  have hhrd := lk_hrd h
  obtain ⟨pv0, hpv0⟩ : ∃ q, q = pv := ⟨pv, rfl⟩
  have key : ∀ (j m : Nat), m + j = (v 0).toNat → ∀ (pv cv : Nat → Int) (b : Int) (s wd : Int → Int) (sv : Nat → Int) (sR : Nat → Int → Int) (sg : Int → Option Nat) (PR : Nat → Int → Int), PKO b s wd sv sR PR → PRB PR → FHI lw v R m pv PR → (∀ j, 1 ≤ j → pv j = pv0 j) → im_wp ro (ab_Ev ro ab_codes d) 3 none ab_k_X3_findHidden 36 T (fun r w => r = none ∧ ∃ pv1 cv1 b1 s1 wd1 sv1 sR1 sg1 PR1, PKO b1 s1 wd1 sv1 sR1 PR1 ∧ PRB PR1 ∧ FHI lw v R (v 0).toNat pv1 PR1 ∧ (∀ j, 1 ≤ j → pv1 j = pv0 j) ∧ w = PC 0 pv1 cv1 b1 s1 wd1 sv1 sR1 sg1 PR1 ++ LC 24 v R g) (7, [some (mr 0), some (mr 24), some (.inl (m : Int))], [], PC 0 pv cv b s wd sv sR sg PR ++ LC 24 v R g) := by
    intro j
    induction j with
    | zero =>
      intro m hm pv cv b s wd sv sR sg PR hk hpb hf hv
      refine im_g 3 (y := (12, _, _, _)) rfl trivial ?_
      refine im_bT rfl rfl ⟨(by omega), (by omega), trivial⟩ (by omega) ?_
      refine im_r rfl rfl trivial rfl ?_
      obtain rfl : m = (v 0).toNat := by omega
      exact ⟨rfl, pv, cv, b, s, wd, sv, sR, sg, PR, hk, hpb, hf, hv, rfl⟩
    | succ j ih =>
      intro m hm pv cv b s wd sv sR sg PR hk hpb hf hv
      have k1 := lk_cnt h (m : Int)
      have k2 := fh_b lw v R m
      have k3 := hf.1
      refine im_g 3 (y := (12, _, _, _)) rfl trivial ?_
      refine im_bF rfl rfl ⟨(by omega), (by omega), trivial⟩ (by omega) ?_
      refine im_g 2 (y := (18, _, _, _)) rfl trivial ?_
      refine im_bF rfl rfl ⟨(by omega), (by omega), trivial⟩ (by omega) ?_
      refine im_g 4 (y := (27, _, _, _)) rfl ⟨(by omega), trivial⟩ ?_
      refine im_b rfl rfl ⟨(by omega), trivial⟩ (fun j1 => ?_) (fun j1 => ?_)
      · refine im_g 2 (y := (7, _, _, _)) rfl trivial ?_
        have c3 : fh_is lw v R (m : Int) = false := by
          show (decide (0 < R 2 (m : Int)) && _) = _
          rw [decide_eq_false (by omega)]
          rfl
        exact ih (m + 1) (by omega) pv cv b s wd sv sR sg PR hk hpb (FHI_n hf c3) hv
      · refine im_g 5 (y := (35, _, _, _)) rfl trivial ?_
        refine im_call [0,1,2,3,4,5,6,7,8,9,10,11,12,13,14,15,16,17,18,19,20,21,22,23,24,25,26,27,28,29,30,31,32,33,34,35] rfl rfl (c_once (by omega) hT h hday hg hl (pv := pv) hk hpb (c := (m : Int)) (y := -1) (ten := 0) (by omega) (by decide) (by decide) (fun z1 z2 => by omega)) rfl rfl rfl (by decide) rfl (by decide) hT (fun v1 w1 hq => ?_)
        obtain ⟨rfl, cv1, b1, s1, wd1, sv1, sR1, sg1, PR1, hk1, e1, o1, hpb1, rfl⟩ := hq
        refine ⟨_, _, PC 0 pv cv1 b1 s1 wd1 sv1 sR1 sg1 PR1 ++ LC 24 v R g, rfl, rfl, rfl, ?_⟩
        have c1 : hd_all (PR1 0) v R (v 3).toNat = hd_all (on_all lw 0 (m : Int) (-1) v R).2.2.1 v R (v 3).toNat := hd_all_congr h (fun i q1 q2 => (o1 i q1 q2).1) _ (by omega)
        have f1 := FHI_q hf e1
        refine im_g 3 (y := (41, _, _, _)) rfl trivial ?_
        refine im_call [0,1,2,3,4,5,6,7,8,9,10,11,12,13,14,15,16,17,18,19,20,21,22,23,24,25,26,27,28,29,30,31,32,33,34,35] rfl rfl (c_heard (by omega) hT h (pv := pv) (cv := cv1) (b := b1) (s := s1) (wd := wd1) (sv := sv1) (sR := sR1) (sg := sg1) hpb1) rfl rfl rfl (by decide) rfl (by decide) hT (fun v1 w1 hq => ?_)
        obtain ⟨rfl, rfl⟩ := hq
        refine ⟨_, _, PC 0 pv cv1 b1 s1 wd1 sv1 sR1 sg1 PR1 ++ LC 24 v R g, rfl, rfl, rfl, ?_⟩
        refine im_b rfl rfl ⟨(by omega), trivial⟩ (fun j2 => ?_) (fun j2 => ?_)
        · have c2 : hd_all (PR1 0) v R (v 3).toNat = false := by
            by_cases z : hd_all (PR1 0) v R (v 3).toNat = true
            · rw [if_pos z] at j2; exact absurd j2 (by decide)
            · exact Bool.eq_false_iff.mpr z
          clear j2
          rw [c1] at c2
          have c3 : fh_is lw v R (m : Int) = false := by
            show (decide (0 < R 2 (m : Int)) && _) = _
            rw [decide_eq_true (by omega), c2]
            rfl
          refine im_g 2 (y := (7, _, _, _)) rfl trivial ?_
          exact ih (m + 1) (by omega) pv cv1 b1 s1 wd1 sv1 sR1 sg1 PR1 hk1 hpb1 (FHI_n f1 c3) hv
        · have c2 : hd_all (PR1 0) v R (v 3).toNat = true := by
            by_cases z : hd_all (PR1 0) v R (v 3).toNat = true
            · exact z
            · rw [if_neg z] at j2; exact absurd rfl j2
          clear j2
          rw [c1] at c2
          have c3 : fh_is lw v R (m : Int) = true := by
            show (decide (0 < R 2 (m : Int)) && _) = _
            rw [decide_eq_true (by omega), c2]
            rfl
          refine im_g 25 (y := (7, _, _, _)) rfl ⟨(by omega), (by omega), (by omega), (by omega), (by omega), (by omega), trivial⟩ ?_
          exact ih (m + 1) (by omega) (pl_U pv 0 (pv 0 + 1)) cv1 b1 s1 wd1 sv1 sR1 sg1 (fh_P PR1 (pv 0) (m : Int)) (PKO_h hk1 hpb1 (by omega)) (PRB_h hpb1 (by omega)) (FHI_y f1 c3 (by omega) (fun i q1 q2 => (o1 i q1 q2).1)) (fun j q => by obtain ⟨j, rfl⟩ : ∃ e, j = e + 1 := ⟨j - 1, by omega⟩; exact hv (j + 1) q)
  refine im_ct_of (own := 3) (ret := none) (code := ab_k_X3_findHidden) (nL := 3) (L0 := [some (mr 0), some (mr 24), none]) (n := 36) rfl rfl rfl rfl rfl rfl rfl rfl rfl ?_
  refine im_g 5 (y := (7, _, _, _)) rfl trivial ?_
  subst hpv0
  exact key (v 0).toNat 0 (by omega) (pl_U pv0 0 0) cv b s wd sv sR sg PR hk hpb ⟨rfl, fun a a1 a2 => absurd a2 (by show ¬ a < 0; omega), fun a i a1 a2 => absurd a2 (by show ¬ a < 0; omega)⟩ (fun j q => by obtain ⟨j, rfl⟩ : ∃ e, j = e + 1 := ⟨j - 1, by omega⟩; rfl)
end Hi
