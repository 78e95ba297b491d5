/-! paper: where to look -/
def fl (G : Int → Int) (n : Nat) : Nat → Int × Int
  | 0 => (-1, -1)
  | k + 1 => if (fl G n k).1 = -1 ∨ ma_all G (k : Int) n n < (fl G n k).2 then ((k : Int), ma_all G (k : Int) n n) else fl G n k
theorem fl_b (G : Int → Int) (n : Nat) : ∀ k, (-1 ≤ (fl G n k).1 ∧ (fl G n k).1 ≤ k) ∧ -1 ≤ (fl G n k).2 ∧ (fl G n k).2 ≤ n
  | 0 => by
    show (-1 ≤ (-1 : Int) ∧ (-1 : Int) ≤ (0 : Nat)) ∧ -1 ≤ (-1 : Int) ∧ (-1 : Int) ≤ n
    omega
  | k + 1 => by
    have h := fl_b G n k
    have h2 := ma_all_b G (k : Int) n n
    unfold fl
    split
    · dsimp only; omega
    · omega
section Lo
variable {ro : ab_R} {T : List im_T} {d : Nat}
set_option maxHeartbeats 4000000 in
theorem c_look (hd : 7 ≤ d) (hT : T.length < 1000) {v : Nat → Int} {R : Nat → Int → Int} {g : Int → Option Nat} (h : LOK v R) (hday : R 7 0 ≤ 100000) (hg : GV g T) {lw : Option im_T} (hl : LWR v g T lw) {pv cv : Nat → Int} {b : Int} {s wd : Int → Int} {sv : Nat → Int} {sR : Nat → Int → Int} {sg : Int → Option Nat} {PR : Nat → Int → Int} (hk : PKO b s wd sv sR PR) (hpb : PRB PR) : im_ct ro T d 30 [mr 0, mr 24] (PC 0 pv cv b s wd sv sR sg PR ++ LC 24 v R g) (fun r w => r = none ∧ ∃ pv1 cv1 b1 s1 wd1 sv1 sR1 sg1 PR1, PKO b1 s1 wd1 sv1 sR1 PR1 ∧ PRB PR1 ∧ FHI lw v R (v 0).toNat pv1 PR1 ∧ (pv1 6 = (if pv1 0 = 0 then -1 else (fl (PR1 3) (pv1 0).toNat (v 0).toNat).1) ∧ pv1 7 = (if pv1 0 = 0 then -1 else (fl (PR1 3) (pv1 0).toNat (v 0).toNat).2)) ∧ w = PC 0 pv1 cv1 b1 s1 wd1 sv1 sR1 sg1 PR1 ++ LC 24 v R g) := by
  obtain ⟨d, rfl⟩ : ∃ e, d = e + 1 := ⟨d - 1, by omega⟩
  have hpar := lk_par h
  have key : ∀ (cv : Nat → Int) (b : Int) (s wd : Int → Int) (sv : Nat → Int) (sR : Nat → Int → Int) (sg : Int → Option Nat) (PR : Nat → Int → Int), PKO b s wd sv sR PR → PRB PR → ∀ (j m : Nat), m + j = (v 0).toNat → ∀ (pv : Nat → Int) (x3 : Option im_V), ¬ pv 0 = 0 → FHI lw v R (v 0).toNat pv PR → pv 6 = (fl (PR 3) (pv 0).toNat m).1 → pv 7 = (fl (PR 3) (pv 0).toNat m).2 → im_wp ro (ab_Ev ro ab_codes d) 3 none ab_k_X3_findLook 36 T (fun r w => r = none ∧ ∃ pv1 cv1 b1 s1 wd1 sv1 sR1 sg1 PR1, PKO b1 s1 wd1 sv1 sR1 PR1 ∧ PRB PR1 ∧ FHI lw v R (v 0).toNat pv1 PR1 ∧ (pv1 6 = (if pv1 0 = 0 then -1 else (fl (PR1 3) (pv1 0).toNat (v 0).toNat).1) ∧ pv1 7 = (if pv1 0 = 0 then -1 else (fl (PR1 3) (pv1 0).toNat (v 0).toNat).2)) ∧ w = PC 0 pv1 cv1 b1 s1 wd1 sv1 sR1 sg1 PR1 ++ LC 24 v R g) (25, [some (mr 0), some (mr 24), some (.inl (m : Int)), x3], [], PC 0 pv cv b s wd sv sR sg PR ++ LC 24 v R g) := by
    intro cv b s wd sv sR sg PR hk hpb j
    induction j with
    | zero =>
      intro m hm pv x3 hz hf h6 h7
      refine im_g 3 (y := (30, _, _, _)) rfl trivial ?_
      refine im_bT rfl rfl ⟨(by omega), (by omega), trivial⟩ (by omega) ?_
      refine im_r rfl rfl trivial rfl ?_
      obtain rfl : m = (v 0).toNat := by omega
      exact ⟨rfl, pv, cv, b, s, wd, sv, sR, sg, PR, hk, hpb, hf, ⟨by rw [if_neg hz]; exact h6, by rw [if_neg hz]; exact h7⟩, rfl⟩
    | succ j ih =>
      intro m hm pv x3 hz hf h6 h7
      have k2 := fh_b lw v R (v 0).toNat
      have k3 := hf.1
      have k4 := ma_all_b (PR 3) (m : Int) (pv 0).toNat (pv 0).toNat
      have k5 := fl_b (PR 3) (pv 0).toNat m
      refine im_g 3 (y := (30, _, _, _)) rfl trivial ?_
      refine im_bF rfl rfl ⟨(by omega), (by omega), trivial⟩ (by omega) ?_
      refine im_g 2 (y := (35, _, _, _)) rfl trivial ?_
      refine im_call [0,1,2,3,4,5,6,7,8,9,10,11,12,13,14,15,16,17,18,19,20,21,22,23] rfl rfl (c_alike (by omega) hT hpb (pv := pv) (p := (m : Int)) (by omega) (by omega)) rfl rfl rfl (by decide) rfl (by decide) hT (fun v1 w1 hq => ?_)
      obtain ⟨rfl, rfl⟩ := hq
      refine ⟨_, _, PC 0 pv cv b s wd sv sR sg PR ++ LC 24 v R g, rfl, rfl, rfl, ?_⟩
      refine im_g 4 (y := (44, _, _, _)) rfl trivial ?_
      refine im_b rfl rfl ⟨(by omega), (by omega), trivial⟩ (fun j1 => ?_) (fun j1 => ?_)
      · refine im_g 8 (y := (25, _, _, _)) rfl trivial ?_
        have e1 : fl (PR 3) (pv 0).toNat (m + 1) = ((m : Int), (ma_all (PR 3) (m : Int) (pv 0).toNat (pv 0).toNat)) := if_pos (Or.inl (by omega))
        exact ih (m + 1) (by omega) (pl_U (pl_U pv 6 (m : Int)) 7 (ma_all (PR 3) (m : Int) (pv 0).toNat (pv 0).toNat)) _ hz hf (by show (m : Int) = (fl (PR 3) (pv 0).toNat (m + 1)).1; rw [e1]) (by show (ma_all (PR 3) (m : Int) (pv 0).toNat (pv 0).toNat) = (fl (PR 3) (pv 0).toNat (m + 1)).2; rw [e1])
      · refine im_g 3 (y := (52, _, _, _)) rfl trivial ?_
        refine im_b rfl rfl ⟨(by omega), (by omega), trivial⟩ (fun j2 => ?_) (fun j2 => ?_)
        · refine im_g 2 (y := (25, _, _, _)) rfl trivial ?_
          have e1 : fl (PR 3) (pv 0).toNat (m + 1) = fl (PR 3) (pv 0).toNat m := if_neg (by intro z; rcases z with z | z; omega; omega)
          exact ih (m + 1) (by omega) pv _ hz hf (by rw [e1]; exact h6) (by rw [e1]; exact h7)
        · refine im_g 8 (y := (25, _, _, _)) rfl trivial ?_
          have e1 : fl (PR 3) (pv 0).toNat (m + 1) = ((m : Int), (ma_all (PR 3) (m : Int) (pv 0).toNat (pv 0).toNat)) := if_pos (Or.inr (by omega))
          exact ih (m + 1) (by omega) (pl_U (pl_U pv 6 (m : Int)) 7 (ma_all (PR 3) (m : Int) (pv 0).toNat (pv 0).toNat)) _ hz hf (by show (m : Int) = (fl (PR 3) (pv 0).toNat (m + 1)).1; rw [e1]) (by show (ma_all (PR 3) (m : Int) (pv 0).toNat (pv 0).toNat) = (fl (PR 3) (pv 0).toNat (m + 1)).2; rw [e1])
  refine im_ct_of (own := 3) (ret := none) (code := ab_k_X3_findLook) (nL := 4) (L0 := [some (mr 0), some (mr 24), none, none]) (n := 36) rfl rfl rfl rfl rfl rfl rfl rfl rfl ?_
  refine im_g 2 (y := (2, _, _, _)) rfl trivial ?_
  refine im_call [0,1,2,3,4,5,6,7,8,9,10,11,12,13,14,15,16,17,18,19,20,21,22,23,24,25,26,27,28,29,30,31,32,33,34,35] rfl rfl (c_hidden (by omega) hT h hday hg hl (pv := pv) hk hpb) rfl rfl rfl (by decide) rfl (by decide) hT (fun v1 w1 hq => ?_)
  obtain ⟨rfl, pv1, cv1, b1, s1, wd1, sv1, sR1, sg1, PR1, hk1, hpb1, hf1, hv1, rfl⟩ := hq
  refine ⟨_, _, PC 0 pv1 cv1 b1 s1 wd1 sv1 sR1 sg1 PR1 ++ LC 24 v R g, rfl, rfl, rfl, ?_⟩
  have q2 := fh_b lw v R (v 0).toNat
  have q3 := hf1.1
  refine im_g 8 (y := (19, _, _, _)) rfl trivial ?_
  refine im_b rfl rfl ⟨(by omega), trivial⟩ (fun j1 => ?_) (fun j1 => ?_)
  · refine im_g 2 (y := (25, _, _, _)) rfl trivial ?_
    exact key cv1 b1 s1 wd1 sv1 sR1 sg1 PR1 hk1 hpb1 (v 0).toNat 0 (by omega) (pl_U (pl_U pv1 6 (-1)) 7 (-1)) none (by show ¬ pv1 0 = 0; omega) hf1 rfl rfl
  · refine im_r rfl rfl trivial rfl ?_
    have z0 : (pl_U (pl_U pv1 6 (-1)) 7 (-1)) 0 = 0 := by show pv1 0 = 0; omega
    exact ⟨rfl, (pl_U (pl_U pv1 6 (-1)) 7 (-1)), cv1, b1, s1, wd1, sv1, sR1, sg1, PR1, hk1, hpb1, hf1, ⟨by rw [if_pos z0]; rfl, by rw [if_pos z0]; rfl⟩, rfl⟩
end Lo
