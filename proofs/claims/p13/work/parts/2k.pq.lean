/-! paper: heard, alike, moved, the ten -/
theorem on_all_b {lw : Option im_T} {ten c y : Int} {v : Nat → Int} {R : Nat → Int → Int} (h : LOK v R) (hch : 0 ≤ c → c < v 0 → 0 ≤ R 2 c + y ∧ R 2 c + y ≤ 999) : (0 ≤ (on_all lw ten c y v R).1 6 ∧ (on_all lw ten c y v R).1 6 ≤ 980) ∧ (∀ i, -1000000 ≤ (on_all lw ten c y v R).2.2.1 i ∧ (on_all lw ten c y v R).2.2.1 i ≤ 1000000) ∧ (∀ i, -1000000 ≤ (on_all lw ten c y v R).2.2.2 i ∧ (on_all lw ten c y v R).2.2.2 i ≤ 1000000) := by
  have hp := lk_par h
  have h0 : AOI (v 0) v (ao_ch c y v R) 0 ((pl_U v 6 0, ao_ch c y v R, fun _ => 0, fun _ => 0) : ao_Q) := ⟨LOK_v6 (LOK_ch h hch) 0, ⟨rfl, rfl⟩, ⟨Int.le_refl _, Int.le_refl _⟩, ⟨rfl, rfl⟩, fun i => (show -1000000 ≤ (0 : Int) ∧ (0 : Int) ≤ 1000000 by decide), fun i => (show -1000000 ≤ (0 : Int) ∧ (0 : Int) ≤ 1000000 by decide)⟩
  have hA := AOI_m (lw := lw) (ten := ten) h0 (v 0).toNat
  obtain ⟨-, -, h6, -, h7, h8⟩ := hA
  exact ⟨⟨h6.1, Int.le_trans h6.2 (by omega)⟩, h7, h8⟩
theorem hd_all_no {ov : Int → Int} {v : Nat → Int} {R : Nat → Int → Int} {k : Nat} (h : hd_all ov v R (k + 1) = false) : ∀ n, hd_all ov v R (k + 1 + n) = false
  | 0 => h
  | n + 1 => by
    show (hd_all ov v R (k + 1 + n) && _) = false
    rw [hd_all_no h n]
    rfl
/-- the ten by which the fewest come to the sea -/
def fb (lw : Option im_T) (v : Nat → Int) (R : Nat → Int → Int) : Nat → Int × Int
  | 0 => (2, (on_all lw 2 (-1) 0 v R).1 6)
  | m + 1 => if (on_all lw ((m : Int) + 3) (-1) 0 v R).1 6 < (fb lw v R m).2 then ((m : Int) + 3, (on_all lw ((m : Int) + 3) (-1) 0 v R).1 6) else fb lw v R m
/-- how many rows of a grid are alike to one; the most -/
def ma_in (G : Int → Int) (p i : Int) : Nat → Int
  | 0 => 0
  | k + 1 => if G (i * 10 + p) = G ((k : Int) * 10 + p) then ma_in G p i k + 1 else ma_in G p i k
theorem ma_in_b (G : Int → Int) (p i : Int) : ∀ k, 0 ≤ ma_in G p i k ∧ ma_in G p i k ≤ k
  | 0 => ⟨Int.le_refl _, Int.le_refl _⟩
  | k + 1 => by
    have h := ma_in_b G p i k
    unfold ma_in
    split <;> omega
def ma_all (G : Int → Int) (p : Int) (n : Nat) : Nat → Int
  | 0 => 0
  | k + 1 => max (ma_all G p n k) (ma_in G p k n)
theorem ma_all_b (G : Int → Int) (p : Int) (n : Nat) : ∀ k, 0 ≤ ma_all G p n k ∧ ma_all G p n k ≤ n
  | 0 => ⟨Int.le_refl _, by show (0 : Int) ≤ n; omega⟩
  | k + 1 => by
    have h := ma_all_b G p n k
    have h2 := ma_in_b G p k n
    unfold ma_all
    omega
/-- bits of those whose number differs -/
def mv_bits (a b : Int → Int) : Nat → Int
  | 0 => 0
  | k + 1 => im_or (mv_bits a b k) (if a k = b k then 0 else im_shl 1 k)
section Pq
variable {ro : ab_R} {T : List im_T} {d : Nat}
set_option maxHeartbeats 4000000 in
theorem c_heard (hd : 2 ≤ d) (hT : T.length < 1000) {v : Nat → Int} {R : Nat → Int → Int} {g : Int → Option Nat} (h : LOK v R) {pv cv : Nat → Int} {b : Int} {s wd : Int → Int} {sv : Nat → Int} {sR : Nat → Int → Int} {sg : Int → Option Nat} {PR : Nat → Int → Int} (hpb : PRB PR) : im_ct ro T d 29 [mr 0, mr 24] (PC 0 pv cv b s wd sv sR sg PR ++ LC 24 v R g) (fun r w => r = some (.inl (if hd_all (PR 0) v R (v 3).toNat = true then 1 else 0)) ∧ w = PC 0 pv cv b s wd sv sR sg PR ++ LC 24 v R g) := by
  obtain ⟨d, rfl⟩ : ∃ e, d = e + 1 := ⟨d - 1, by omega⟩
  have hpar := lk_par h
  have hhrd := lk_hrd h
  have key : ∀ (j m : Nat), m + j = (v 3).toNat → hd_all (PR 0) v R m = true → ∀ x3 : Option im_V, im_wp ro (ab_Ev ro ab_codes d) 3 (some .boolean) ab_k_X3_isAsHeard 36 T (fun r w => r = some (.inl (if hd_all (PR 0) v R (v 3).toNat = true then 1 else 0)) ∧ w = PC 0 pv cv b s wd sv sR sg PR ++ LC 24 v R g) (2, [some (mr 0), some (mr 24), some (.inl (m : Int)), x3], [], PC 0 pv cv b s wd sv sR sg PR ++ LC 24 v R g) := by
    intro j
    induction j with
    | zero =>
      intro m hm hh x3
      refine im_g 3 (y := (7, _, _, _)) rfl trivial ?_
      refine im_bT rfl rfl ⟨(by omega), (by omega), trivial⟩ (by omega) ?_
      refine im_g 1 (y := (55, _, _, _)) rfl trivial ?_
      refine im_r rfl rfl ⟨(by omega), trivial⟩ rfl ?_
      obtain rfl : m = (v 3).toNat := by omega
      rw [if_pos hh]
      exact ⟨rfl, rfl⟩
    | succ j ih =>
      intro m hm hh x3
      have k1 := lk_hea h (p := (m : Int)) (by omega) (by omega)
      have k2 := lk_hof h (m : Int)
      have k3 := lk_hov h (m : Int)
      have k4 := hpb 0 (R 8 (m : Int)) (by decide)
      refine im_g 3 (y := (7, _, _, _)) rfl trivial ?_
      refine im_bF rfl rfl ⟨(by omega), (by omega), trivial⟩ (by omega) ?_
      refine im_g 2 (y := (13, _, _, _)) rfl trivial ?_
      refine im_bF rfl rfl ⟨(by omega), (by omega), trivial⟩ (by omega) ?_
      refine im_g 7 (y := (25, _, _, _)) rfl ⟨(by omega), trivial⟩ ?_
      refine im_call [24,25,26,27,28,29,30,31,32,33,34,35] rfl rfl (c_has (v := v) (R := R) (g := g) (p := R 8 (m : Int)) (by omega) hT (by omega) hpar) rfl rfl rfl (by decide) rfl (by decide) hT (fun v1 w1 hq => ?_)
      obtain ⟨rfl, rfl⟩ := hq
      refine ⟨_, _, PC 0 pv cv b s wd sv sR sg PR ++ LC 24 v R g, rfl, rfl, rfl, ?_⟩
      refine im_bF rfl rfl ⟨(by omega), trivial⟩ (by rw [if_pos ⟨k2.1, k1, by omega⟩]; decide) ?_
      refine im_g 8 (y := (43, _, _, _)) rfl ⟨(by omega), (by omega), trivial⟩ ?_
      refine im_b rfl rfl ⟨(by omega), (by omega), trivial⟩ (fun j1 => ?_) (fun j1 => ?_)
      · refine im_g 2 (y := (2, _, _, _)) rfl trivial ?_
        exact ih (m + 1) (by omega) (by show (hd_all (PR 0) v R m && decide (PR 0 (R 8 (m : Int)) = R 9 (m : Int))) = true; rw [hh, decide_eq_true (by omega)]; rfl) _
      · refine im_g 1 (y := (47, _, _, _)) rfl trivial ?_
        refine im_r rfl rfl ⟨(by omega), trivial⟩ rfl ?_
        have e1 : hd_all (PR 0) v R (m + 1) = false := by
          show (hd_all (PR 0) v R m && decide (PR 0 (R 8 (m : Int)) = R 9 (m : Int))) = false
          rw [decide_eq_false (by omega), Bool.and_false]
        have e2 := hd_all_no e1 j
        rw [show (v 3).toNat = m + 1 + j by omega, e2]
        exact ⟨rfl, rfl⟩
  refine im_ct_of (own := 3) (ret := (some .boolean)) (code := ab_k_X3_isAsHeard) (nL := 4) (L0 := [some (mr 0), some (mr 24), none, none]) (n := 36) rfl rfl rfl rfl rfl rfl rfl rfl rfl ?_
  refine im_g 2 (y := (2, _, _, _)) rfl trivial ?_
  exact key (v 3).toNat 0 (by omega) rfl none
set_option maxHeartbeats 8000000 in
theorem c_alike (hd : 1 ≤ d) (hT : T.length < 1000) {pv cv : Nat → Int} {b : Int} {s wd : Int → Int} {sv : Nat → Int} {sR : Nat → Int → Int} {sg : Int → Option Nat} {PR : Nat → Int → Int} (hpb : PRB PR) {p : Int} (hp : 0 ≤ p ∧ p ≤ 9) (h0 : 0 ≤ pv 0 ∧ pv 0 ≤ 10) : im_ct ro T d 31 [mr 0, .inl p] (PC 0 pv cv b s wd sv sR sg PR) (fun r w => r = some (.inl (ma_all (PR 3) p (pv 0).toNat (pv 0).toNat)) ∧ w = PC 0 pv cv b s wd sv sR sg PR) := by
  obtain ⟨d, rfl⟩ : ∃ e, d = e + 1 := ⟨d - 1, by omega⟩
  refine im_ct_of (own := 3) (ret := (some .int)) (code := ab_k_X3_mostAlike) (nL := 6) (L0 := [some (mr 0), some (.inl p), none, none, none, none]) (n := 24) rfl rfl rfl rfl rfl rfl rfl rfl rfl ?_
  refine im_g 4 (y := (4, _, _, _)) rfl trivial ?_
  have inner : ∀ (i : Nat), (i : Int) < pv 0 → (∀ x4 x5 : Option im_V, im_wp ro (ab_Ev ro ab_codes d) 3 (some .int) ab_k_X3_mostAlike 24 T (fun r w => r = some (.inl (ma_all (PR 3) p (pv 0).toNat (pv 0).toNat)) ∧ w = PC 0 pv cv b s wd sv sR sg PR) (4, [some (mr 0), some (.inl p), some (.inl (ma_all (PR 3) p (pv 0).toNat (i + 1))), some (.inl (((i + 1 : Nat) : Int))), x4, x5], [], PC 0 pv cv b s wd sv sR sg PR)) → ∀ x4 x5 : Option im_V, im_wp ro (ab_Ev ro ab_codes d) 3 (some .int) ab_k_X3_mostAlike 24 T (fun r w => r = some (.inl (ma_all (PR 3) p (pv 0).toNat (pv 0).toNat)) ∧ w = PC 0 pv cv b s wd sv sR sg PR) (4, [some (mr 0), some (.inl p), some (.inl (ma_all (PR 3) p (pv 0).toNat i)), some (.inl ((i : Int))), x4, x5], [], PC 0 pv cv b s wd sv sR sg PR) := by
    intro i hi ih x4 x5
    have b1 := ma_all_b (PR 3) p (pv 0).toNat i
    refine im_g 3 (y := (9, _, _, _)) rfl trivial ?_
    refine im_bF rfl rfl ⟨(by omega), (by omega), trivial⟩ (by omega) ?_
    refine im_g 4 (y := (18, _, _, _)) rfl trivial ?_
    refine im_for (pv 0).toNat (fun k => (18, [some (mr 0), some (.inl p), some (.inl (ma_all (PR 3) p (pv 0).toNat i)), some (.inl ((i : Int))), some (.inl (ma_in (PR 3) p i k)), some (.inl (k : Int))], [], PC 0 pv cv b s wd sv sR sg PR)) (fun k hk ih2 => ?_) ?_
    · have b2 := ma_in_b (PR 3) p i k
      have b3 := hpb 3 ((i : Int) * 10 + p) (by decide)
      have b4 := hpb 3 ((k : Int) * 10 + p) (by decide)
      refine im_g 3 (y := (24, _, _, _)) rfl trivial ?_
      refine im_bF rfl rfl ⟨(by omega), (by omega), trivial⟩ (by omega) ?_
      refine im_g 16 (y := (50, _, _, _)) rfl ⟨(by omega), (by omega), trivial⟩ ?_
      refine im_b rfl rfl ⟨(by omega), (by omega), trivial⟩ (fun j1 => ?_) (fun j1 => ?_)
      · refine im_g 2 (y := (18, _, _, _)) rfl trivial ?_
        rw [show ma_in (PR 3) p i (k + 1) = ma_in (PR 3) p i k from if_neg (by omega)] at ih2
        exact ih2
      · refine im_g 3 (y := (18, _, _, _)) rfl trivial ?_
        rw [show ma_in (PR 3) p i (k + 1) = ma_in (PR 3) p i k + 1 from if_pos (by omega)] at ih2
        exact ih2
    · have b2 := ma_in_b (PR 3) p i (pv 0).toNat
      refine im_g 3 (y := (24, _, _, _)) rfl trivial ?_
      refine im_bT rfl rfl ⟨(by omega), (by omega), trivial⟩ (by omega) ?_
      refine im_g 6 (y := (4, _, _, _)) rfl ⟨(by omega), (by omega), trivial⟩ ?_
      exact ih _ _
  have all : ∀ (j i : Nat), i + j = (pv 0).toNat → ∀ x4 x5 : Option im_V, im_wp ro (ab_Ev ro ab_codes d) 3 (some .int) ab_k_X3_mostAlike 24 T (fun r w => r = some (.inl (ma_all (PR 3) p (pv 0).toNat (pv 0).toNat)) ∧ w = PC 0 pv cv b s wd sv sR sg PR) (4, [some (mr 0), some (.inl p), some (.inl (ma_all (PR 3) p (pv 0).toNat i)), some (.inl ((i : Int))), x4, x5], [], PC 0 pv cv b s wd sv sR sg PR) := by
    intro j
    induction j with
    | zero =>
      intro i hi x4 x5
      have b1 := ma_all_b (PR 3) p (pv 0).toNat i
      refine im_g 3 (y := (9, _, _, _)) rfl trivial ?_
      refine im_bT rfl rfl ⟨(by omega), (by omega), trivial⟩ (by omega) ?_
      refine im_g 1 (y := (76, _, _, _)) rfl trivial ?_
      refine im_r rfl rfl trivial rfl ?_
      obtain rfl : i = (pv 0).toNat := by omega
      exact ⟨rfl, rfl⟩
    | succ j ihj =>
      intro i hi x4 x5
      exact inner i (by omega) (ihj (i + 1) (by omega)) x4 x5
  exact all (pv 0).toNat 0 (by omega) none none
set_option maxHeartbeats 4000000 in
theorem c_best (hd : 6 ≤ d) (hT : T.length < 1000) {v : Nat → Int} {R : Nat → Int → Int} {g : Int → Option Nat} (h : LOK v R) (hday : R 7 0 ≤ 100000) (hg : GV g T) {lw : Option im_T} (hl : LWR v g T lw) {pv cv : Nat → Int} {b : Int} {s wd : Int → Int} {sv : Nat → Int} {sR : Nat → Int → Int} {sg : Int → Option Nat} {PR : Nat → Int → Int} (hk : PKO b s wd sv sR PR) (hpb : PRB PR) : im_ct ro T d 27 [mr 0, mr 24] (PC 0 pv cv b s wd sv sR sg PR ++ LC 24 v R g) (fun r w => r = none ∧ ∃ pv1 cv1 b1 s1 wd1 sv1 sR1 sg1 PR1, PKO b1 s1 wd1 sv1 sR1 PR1 ∧ PRB PR1 ∧ (pv1 4 = (fb lw v R 97).1 ∧ pv1 5 = (fb lw v R 97).2) ∧ w = PC 0 pv1 cv1 b1 s1 wd1 sv1 sR1 sg1 PR1 ++ LC 24 v R g) := by
  obtain ⟨d, rfl⟩ : ∃ e, d = e + 1 := ⟨d - 1, by omega⟩
  have hS : ∀ t, 0 ≤ (on_all lw t (-1) 0 v R).1 6 ∧ (on_all lw t (-1) 0 v R).1 6 ≤ 980 := fun t => (on_all_b h (fun z => absurd z (by decide))).1
  have hF : ∀ m, 0 ≤ (fb lw v R m).2 ∧ (fb lw v R m).2 ≤ 980 := by
    intro m
    induction m with
    | zero => exact hS 2
    | succ m ih =>
      unfold fb
      split
      · exact hS _
      · exact ih
  have key : ∀ (j m : Nat), m + j = 97 → ∀ (pv cv : Nat → Int) (b : Int) (s wd : Int → Int) (sv : Nat → Int) (sR : Nat → Int → Int) (sg : Int → Option Nat) (PR : Nat → Int → Int) (x3 : Option im_V), PKO b s wd sv sR PR → PRB PR → pv 4 = (fb lw v R m).1 → pv 5 = (fb lw v R m).2 → im_wp ro (ab_Ev ro ab_codes d) 3 none ab_k_X3_findBest 36 T (fun r w => r = none ∧ ∃ pv1 cv1 b1 s1 wd1 sv1 sR1 sg1 PR1, PKO b1 s1 wd1 sv1 sR1 PR1 ∧ PRB PR1 ∧ (pv1 4 = (fb lw v R 97).1 ∧ pv1 5 = (fb lw v R 97).2) ∧ w = PC 0 pv1 cv1 b1 s1 wd1 sv1 sR1 sg1 PR1 ++ LC 24 v R g) (19, [some (mr 0), some (mr 24), some (.inl ((m : Int) + 3)), x3], [], PC 0 pv cv b s wd sv sR sg PR ++ LC 24 v R g) := by
    intro j
    induction j with
    | zero =>
      intro m hm pv cv b s wd sv sR sg PR x3 hk hpb h4 h5
      refine im_g 2 (y := (22, _, _, _)) rfl trivial ?_
      refine im_bT rfl rfl ⟨(by omega), (by omega), trivial⟩ (by omega) ?_
      refine im_r rfl rfl trivial rfl ?_
      obtain rfl : m = 97 := by omega
      exact ⟨rfl, pv, cv, b, s, wd, sv, sR, sg, PR, hk, hpb, ⟨h4, h5⟩, rfl⟩
    | succ j ih =>
      intro m hm pv cv b s wd sv sR sg PR x3 hk hpb h4 h5
      have k1 := hS ((m : Int) + 3)
      have k2 := hF m
      refine im_g 2 (y := (22, _, _, _)) rfl trivial ?_
      refine im_bF rfl rfl ⟨(by omega), (by omega), trivial⟩ (by omega) ?_
      refine im_g 5 (y := (30, _, _, _)) rfl trivial ?_
      refine im_call [0,1,2,3,4,5,6,7,8,9,10,11,12,13,14,15,16,17,18,19,20,21,22,23,24,25,26,27,28,29,30,31,32,33,34,35] rfl rfl (c_once (by omega) hT h hday hg hl (pv := pv) hk hpb (c := -1) (y := 0) (ten := (m : Int) + 3) (by decide) (by decide) (by omega) (fun z => absurd z (by decide))) rfl rfl rfl (by decide) rfl (by decide) hT (fun v1 w1 hq => ?_)
      obtain ⟨rfl, cv1, b1, s1, wd1, sv1, sR1, sg1, PR1, hk1, -, -, hpb1, rfl⟩ := hq
      refine ⟨_, _, PC 0 pv cv1 b1 s1 wd1 sv1 sR1 sg1 PR1 ++ LC 24 v R g, rfl, rfl, rfl, ?_⟩
      refine im_g 4 (y := (39, _, _, _)) rfl trivial ?_
      refine im_b rfl rfl ⟨(by omega), (by omega), trivial⟩ (fun j1 => ?_) (fun j1 => ?_)
      · refine im_g 2 (y := (19, _, _, _)) rfl trivial ?_
        have e1 : fb lw v R (m + 1) = fb lw v R m := if_neg (by omega)
        exact im_eqs (congrArg (fun z => ((19, [some (mr 0), some (mr 24), some (.inl z), some (.inl ((on_all lw ((m : Int) + 3) (-1) 0 v R).1 6))], [], PC 0 pv cv1 b1 s1 wd1 sv1 sR1 sg1 PR1 ++ LC 24 v R g) : im_S)) (show (m : Int) + 3 + 1 = ((m + 1 : Nat) : Int) + 3 by omega)) (ih (m + 1) (by omega) pv cv1 b1 s1 wd1 sv1 sR1 sg1 PR1 _ hk1 hpb1 (by rw [e1]; exact h4) (by rw [e1]; exact h5))
      · refine im_g 8 (y := (19, _, _, _)) rfl trivial ?_
        have e1 : fb lw v R (m + 1) = ((m : Int) + 3, (on_all lw ((m : Int) + 3) (-1) 0 v R).1 6) := if_pos (by omega)
        exact im_eqs (congrArg (fun z => ((19, [some (mr 0), some (mr 24), some (.inl z), some (.inl ((on_all lw ((m : Int) + 3) (-1) 0 v R).1 6))], [], PC 0 (pl_U (pl_U pv 4 ((m : Int) + 3)) 5 ((on_all lw ((m : Int) + 3) (-1) 0 v R).1 6)) cv1 b1 s1 wd1 sv1 sR1 sg1 PR1 ++ LC 24 v R g) : im_S)) (show (m : Int) + 3 + 1 = ((m + 1 : Nat) : Int) + 3 by omega)) (ih (m + 1) (by omega) (pl_U (pl_U pv 4 ((m : Int) + 3)) 5 ((on_all lw ((m : Int) + 3) (-1) 0 v R).1 6)) cv1 b1 s1 wd1 sv1 sR1 sg1 PR1 _ hk1 hpb1 (by rw [e1]; rfl) (by rw [e1]; rfl))
  refine im_ct_of (own := 3) (ret := none) (code := ab_k_X3_findBest) (nL := 4) (L0 := [some (mr 0), some (mr 24), none, none]) (n := 36) rfl rfl rfl rfl rfl rfl rfl rfl rfl ?_
  refine im_g 9 (y := (11, _, _, _)) rfl trivial ?_
  refine im_call [0,1,2,3,4,5,6,7,8,9,10,11,12,13,14,15,16,17,18,19,20,21,22,23,24,25,26,27,28,29,30,31,32,33,34,35] rfl rfl (c_once (by omega) hT h hday hg hl (pv := (pl_U pv 4 2)) hk hpb (c := -1) (y := 0) (ten := 2) (by decide) (by decide) (by omega) (fun z => absurd z (by decide))) rfl rfl rfl (by decide) rfl (by decide) hT (fun v1 w1 hq => ?_)
  obtain ⟨rfl, cv1, b1, s1, wd1, sv1, sR1, sg1, PR1, hk1, -, -, hpb1, rfl⟩ := hq
  refine ⟨_, _, PC 0 (pl_U pv 4 2) cv1 b1 s1 wd1 sv1 sR1 sg1 PR1 ++ LC 24 v R g, rfl, rfl, rfl, ?_⟩
  refine im_g 3 (y := (19, _, _, _)) rfl trivial ?_
  exact key 97 0 rfl (pl_U (pl_U pv 4 2) 5 ((on_all lw 2 (-1) 0 v R).1 6)) cv1 b1 s1 wd1 sv1 sR1 sg1 PR1 none hk1 hpb1 rfl rfl
end Pq
