/-! the reference: along a clause of orders -/
def KCo (N : Int) (K : Int → Int) : Int → Int := fun i => if i < N then K (121 + i) else 0
def QO (v : Nat → Int) (R : Nat → Int → Int) (v' : Nat → Int) (R' : Nat → Int → Int) : Prop := (∀ j, j ≠ 22 → j ≠ 23 → j ≠ 24 → j ≠ 25 → j ≠ 43 → j ≠ 44 → j ≠ 45 → j ≠ 46 → v' j = v j) ∧ ∀ j, j ≠ 12 → j ≠ 13 → j ≠ 22 → R' j = R j
theorem QO_0 (v : Nat → Int) (R : Nat → Int → Int) : QO v R v R := ⟨fun _ _ _ _ _ _ _ _ _ => rfl, fun _ _ _ _ => rfl⟩
theorem QO_v {v : Nat → Int} {R : Nat → Int → Int} {v' : Nat → Int} {R' : Nat → Int → Int} (h : QO v R v' R') {k : Nat} (hk : k = 22 ∨ k = 23 ∨ k = 24 ∨ k = 25 ∨ k = 43 ∨ k = 44 ∨ k = 45 ∨ k = 46) (x : Int) : QO v R (pl_U v' k x) R' := by
  refine ⟨fun j q1 q2 q3 q4 q5 q6 q7 q8 => ?_, h.2⟩
  have e : j ≠ k := by omega
  exact (if_neg e).trans (h.1 j q1 q2 q3 q4 q5 q6 q7 q8)
theorem QO_R {v : Nat → Int} {R : Nat → Int → Int} {v' : Nat → Int} {R' : Nat → Int → Int} (h : QO v R v' R') {k : Nat} (hk : k = 12 ∨ k = 13 ∨ k = 22) (f : Int → Int) : QO v R v' (pl_U R' k f) := by
  refine ⟨h.1, fun j q1 q2 q3 => ?_⟩
  have e : j ≠ k := by omega
  exact (if_neg e).trans (h.2 j q1 q2 q3)
theorem QO_ev {v : Nat → Int} {R : Nat → Int → Int} {v' : Nat → Int} {R' : Nat → Int → Int} (h : QO v R v' R') (g ge b o : Int) (a : Int → Int) : QO v R (EV4 v' g ge b o) (pl_U R' 12 a) := QO_R (QO_v (QO_v (QO_v (QO_v h (by omega) g) (by omega) ge) (by omega) b) (by omega) o) (by omega) a
theorem QO_t {v : Nat → Int} {R : Nat → Int → Int} {v' : Nat → Int} {R' : Nat → Int → Int} {v2 : Nat → Int} {R2 : Nat → Int → Int} (h : QO v R v' R') (h2 : QO v' R' v2 R2) : QO v R v2 R2 := ⟨fun j q1 q2 q3 q4 q5 q6 q7 q8 => (h2.1 j q1 q2 q3 q4 q5 q6 q7 q8).trans (h.1 j q1 q2 q3 q4 q5 q6 q7 q8), fun j q1 q2 q3 => (h2.2 j q1 q2 q3).trans (h.2 j q1 q2 q3)⟩
def hd_c (K : Int) : Int := if K = 0 then 21 else if K = 1 then 22 else if K = 2 then 23 else 25
/-- a test is so -/
def tw (r : Option Int) : Prop := (d_enc r).2 = 0 ∧ ¬ (d_enc r).1 = 0
theorem EPR_o {lw : Option im_T} {v : Nat → Int} {R : Nat → Int → Int} {lv : Nat → Int} {L : Nat → Int → Int} (hr : KR (R 2) lv L) (hlo : LOK lv L) (hd9 : L 7 0 ≤ 100000) (hkt : KT (R 2)) (h23 : 0 ≤ v 23 ∧ v 23 ≤ 2800) (h25 : v 25 = 1) (h27 : 0 ≤ v 27 ∧ v 27 ≤ 100000) (h28 : -1 ≤ v 28 ∧ v 28 ≤ 98) (h13 : ∀ p, 0 ≤ p → p < lv 0 → R 13 p = as_over lw p 0 L) : EPR true v R (fw lw 1023 (v 28) (v 27) lv L) := by
  have hpar := lk_par hlo
  have hgr := lk_grp hlo
  have htr := lk_trm hlo
  have hsea := lk_sea hlo
  have fwb : WOK (fw lw 1023 (v 28) (v 27) lv L) := by
    intro i
    unfold fw
    have t1 := fw_cnt_b hlo (i - 5)
    have t2 := fw_ovr_b lw 1023 lv L (i - 15)
    have t3 := pl_sum_b (fun g => lk_siz hlo g) (lv 1).toNat
    split
    · omega
    split
    · omega
    split
    · omega
    split
    · omega
    split
    · omega
    split
    · omega
    · omega
  refine ⟨h23, ⟨h25, fun c k hc hk1 hk2 => ?_, fun c hc1 hc2 => ?_⟩, fwb, ?_, ?_, fun g q1 q2 => ?_, hkt.1, hkt.2.1⟩
  · rcases hc with rfl | rfl
    · show (if 0 ≤ k ∧ k ≤ R 2 110 - 1 then R 2 (0 + k) else -1) = fw lw 1023 (v 28) (v 27) lv L (5 + k)
      have e : fw lw 1023 (v 28) (v 27) lv L (5 + k) = fw_cnt lv L k := by
        unfold fw
        rw [if_neg (by omega), if_neg (by omega), if_neg (by omega), if_neg (by omega), if_neg (by omega), if_pos (by omega), show 5 + k - 5 = k by omega]
      rw [e, hr.1.1]
      unfold fw_cnt
      by_cases c : 0 ≤ k ∧ k ≤ lv 0 - 1
      · rw [if_pos c, if_pos (by omega)]
        exact (hr.2.2.1 k hk1 (by omega)).2.2.1
      · rw [if_neg c, if_neg (by omega)]
    · show (if 0 ≤ k ∧ k ≤ R 2 110 - 1 then R 13 k else -1) = fw lw 1023 (v 28) (v 27) lv L (15 + k)
      have e : fw lw 1023 (v 28) (v 27) lv L (15 + k) = fw_ovr lw 1023 lv L k := by
        unfold fw
        rw [if_neg (by omega), if_neg (by omega), if_neg (by omega), if_neg (by omega), if_neg (by omega), if_neg (by omega), show 15 + k - 15 = k by omega]
      rw [e, hr.1.1]
      unfold fw_ovr
      by_cases c : 0 ≤ k ∧ k ≤ lv 0 - 1
      · rw [if_pos c, if_pos ⟨by omega, BT_all ⟨hk1, by omega⟩⟩]
        exact h13 k hk1 (by omega)
      · rw [if_neg c, if_neg (fun z => c (by omega))]
  · have hcc : c = 16 ∨ c = 17 ∨ c = 18 ∨ c = 19 ∨ c = 20 := by omega
    rcases hcc with rfl | rfl | rfl | rfl | rfl
    · exact hr.2.1.1
    · rfl
    · rfl
    · exact hr.1.2.2.1
    · show kp_wlk (R 2) (R 2 68).toNat = pl_sum (L 5) (lv 1).toNat
      rw [hr.1.2.1]
      exact wlk_sum hr _ (by omega)
  · rw [hr.1.1]; exact hpar
  · rw [hr.1.2.1]; exact hgr
  · rw [hr.1.2.1] at q2
    rw [(hr.2.2.2.1 g q1 q2).2.1]
    have t := lk_siz hlo g
    omega
section Go
variable {ro : ab_R} {T : List im_T} {d : Nat}
set_option maxHeartbeats 8000000 in
theorem t_goes (hT : T.length < 1000) (hd : 75 ≤ d) {v : Nat → Int} {R : Nat → Int → Int} {e : Int → Int} (hE : EPR true v R e) {N live j1 l1 b0 jz lz K Kz t : Int} {m1 m2 a1 a2 m3 : dM} {n : Nat} (hlive : live = 0 ∨ live = 1) (hj1 : 0 ≤ j1 ∧ j1 ≤ v 23) (hdn : d_times (EC v R) (EX R) n j1 l1 K m1 m2 = some (.inr (jz, lz, Kz, t, a1, a2, m3))) (x3 x4 : Option im_V) : im_wp ro (ab_Ev ro ab_codes d) 9 none ab_k_X9_goesAlong 24 T (fun r w => r = none ∧ ∃ v', w = MW v' R ∧ (∀ j, j ≠ 22 → j ≠ 24 → j ≠ 43 → j ≠ 46 → v' j = v j) ∧ v' 22 = jz + 1 ∧ v' 43 = t ∧ (live = 1 → (v' 46 = 0 ∨ v' 46 = 1) ∧ (v' 46 = 1 ↔ tw (m3 e)))) (173, [some (mr 0), some (.inl N), some (.inl live), x3, x4], [], MW (EW v j1 b0) R) := by
  have h23 := hE.1
  have hcb := @EC_b true v R e hE
  unfold d_times at hdn
  by_cases h27 : EC v R j1 = 27
  · rw [if_pos h27] at hdn
    have hin0 := EC_in (v := v) (R := R) (i := j1) (by rw [h27]; decide)
    by_cases hX : EC v R (j1 + 1) = 50 ∧ 1 ≤ EX R (j1 + 1) ∧ EX R (j1 + 1) ≤ 20
    · rw [if_pos hX] at hdn
      have hin1 := EC_in (v := v) (R := R) (i := j1 + 1) (by rw [hX.1]; decide)
      refine im_g 5 (y := (181, _, _, _)) rfl trivial ?_
      refine im_cM rfl rfl (e_passes (v := (pl_U v 43 1)) (R := R) (i := j1) (b := b0) (c := 27) (by omega) hT (by omega) (by decide) (hcb (by omega)) h23) rfl hT (fun v1 w1 hq => ?_)
      obtain ⟨rfl, rfl⟩ := hq; rw [if_pos (show EC (pl_U v 43 1) R j1 = 27 from h27), if_pos (show EC (pl_U v 43 1) R j1 = 27 from h27)]
      refine ⟨(EW (pl_U v 43 1) (j1 + 1) b0), R, rfl, rfl, ?_⟩
      refine im_bF rfl rfl ⟨(by decide), trivial⟩ (by decide) ?_
      refine im_g 15 (y := (214, _, _, _)) rfl ⟨(by first | omega | (show 0 ≤ 2921 + (j1 + 1) ∧ 2921 + (j1 + 1) < ((5721 : Nat) : Int) ∧ 2921 + (j1 + 1) < 2147483648; omega)), trivial⟩ ?_
      refine im_eqs (y := (214, [some (mr 0), some (.inl N), some (.inl live), x3, x4], [], MW (EW (pl_U v 43 (EX R (j1 + 1))) (j1 + 2) b0) R)) ?_ ?_
      · show ((214, [some (mr 0), some (.inl N), some (.inl live), x3, x4], [], MW (EW (pl_U v 43 (EX R (j1 + 1))) (j1 + 1 + 1) b0) R) : im_S) = _
        rw [show j1 + 1 + 1 = j1 + 2 by omega]
      rcases d_if_r hdn with ⟨hc5, mm, qd, hres⟩ | ⟨hc5, hjz, hlz, hres⟩
      · cases hres
        have hin := EC_in (v := v) (R := R) (i := (j1 + 2)) (by rw [hc5]; decide)
        refine im_g 6 (y := (222, _, _, _)) rfl ⟨(by omega), trivial⟩ ?_
        refine im_cM rfl rfl (e_passes (v := (pl_U v 43 (EX R (j1 + 1)))) (R := R) (i := (j1 + 2)) (b := 0) (c := 5) (by omega) hT (by omega) (by decide) (hcb (by omega)) h23) rfl hT (fun v1 w1 hq => ?_)
        obtain ⟨rfl, rfl⟩ := hq; rw [if_pos (show EC (pl_U v 43 (EX R (j1 + 1))) R (j1 + 2) = 5 from hc5), if_pos (show EC (pl_U v 43 (EX R (j1 + 1))) R (j1 + 2) = 5 from hc5)]
        refine ⟨(EW (pl_U v 43 (EX R (j1 + 1))) ((j1 + 2) + 1) 0), R, rfl, rfl, ?_⟩
        refine im_bF rfl rfl ⟨(by decide), trivial⟩ (by decide) ?_
        refine im_g 2 (y := (230, _, _, _)) rfl trivial ?_
        refine im_cM rfl rfl (show im_ct ro T d 179 [mr 0, .inl live] (MW (EW (pl_U v 43 (EX R (j1 + 1))) ((j1 + 2) + 1) 0) R) (fun r w => ∃ y b', r = some (VI y) ∧ w = MW (EW (pl_U v 43 (EX R (j1 + 1))) jz b') R ∧ ET live 0 b' y m3 e) from (e_all (ro := ro) (T := T) hT n).2.2.2.2.2.2.1 d true (pl_U v 43 (EX R (j1 + 1))) R e 0 ((j1 + 2) + 1) _ live 0 jz _ m3 (show EPR true (pl_U v 43 (EX R (j1 + 1))) R e from hE) (by decide) (by omega) (show 0 ≤ (j1 + 2) + 1 ∧ (j1 + 2) + 1 ≤ v 23 by omega) hlive (Or.inl rfl) qd) rfl hT (fun v1 w1 hq => ?_)
        obtain ⟨y, b', rfl, rfl, hET⟩ := hq; obtain ⟨t1, t2, t3, t4, t5⟩ := hET
        refine ⟨(EW (pl_U v 43 (EX R (j1 + 1))) jz b'), R, rfl, rfl, ?_⟩
        refine im_b rfl rfl ⟨(by rcases t3 with rfl | rfl <;> decide), trivial⟩ (fun br1 => ?_) (fun br1 => ?_)
        · refine im_g 5 (y := (249, _, _, _)) rfl ⟨(by decide), trivial⟩ ?_
          refine im_bT rfl rfl ⟨(by first | exact (show im_ir (1 : Int) by decide) | exact (show im_ir (0 : Int) by decide)), trivial⟩ (show (0 : Int) = 0 from rfl) ?_
          refine im_g 8 (y := (277, _, _, _)) rfl ⟨(by decide), trivial⟩ ?_
          refine im_r rfl rfl trivial rfl ?_
          refine ⟨rfl, (pl_U (pl_U (EW (pl_U v 43 (EX R (j1 + 1))) jz b') 46 0) 22 (jz + 1)), rfl, fun j q1 q2 q3 q4 => ?_, rfl, rfl, fun hl => ?_⟩
          · unfold EW pl_U; simp only [q1, q2, q3, q4, if_false]
          · have hy : y = 0 := by omega
            have t6 := t5 hl rfl
            refine ⟨Or.inl rfl, ⟨fun z => absurd z (show ¬ (0 : Int) = 1 by decide), fun z => ?_⟩⟩
            unfold tw at z
            rcases t6 with ⟨_, z2⟩ | ⟨_, z2⟩
            · rw [z2, hy] at z
              exact absurd rfl z.2
            · rw [z2] at z
              exact absurd z.1 (by decide)
        · refine im_g 6 (y := (249, _, _, _)) rfl ⟨(by decide), trivial⟩ ?_
          refine im_bF rfl rfl ⟨(by first | exact (show im_ir (1 : Int) by decide) | exact (show im_ir (0 : Int) by decide)), trivial⟩ (show ¬ (1 : Int) = 0 by decide) ?_
          refine im_g 2 (y := (256, _, _, _)) rfl trivial ?_
          refine im_b rfl rfl ⟨(by show im_ir b'; rcases t1 with rfl | rfl <;> decide), trivial⟩ (fun br2 => ?_) (fun br2 => ?_)
          · replace br2 : ¬ b' = 0 := br2
            refine im_g 8 (y := (277, _, _, _)) rfl ⟨(by decide), trivial⟩ ?_
            refine im_r rfl rfl trivial rfl ?_
            refine ⟨rfl, (pl_U (pl_U (EW (pl_U v 43 (EX R (j1 + 1))) jz b') 46 0) 22 (jz + 1)), rfl, fun j q1 q2 q3 q4 => ?_, rfl, rfl, fun hl => ?_⟩
            · unfold EW pl_U; simp only [q1, q2, q3, q4, if_false]
            · have hb1 : b' = 1 := by omega
              have t6 := t5 hl rfl
              have em : m3 e = none := by rcases t6 with ⟨z, _⟩ | ⟨_, z⟩; omega; exact z
              refine ⟨Or.inl rfl, ⟨fun z => absurd z (show ¬ (0 : Int) = 1 by decide), fun z => ?_⟩⟩
              unfold tw at z
              rw [em] at z
              exact absurd z.1 (by decide)
          · replace br2 : ¬ ¬ b' = 0 := br2
            refine im_g 9 (y := (277, _, _, _)) rfl ⟨(by decide), trivial⟩ ?_
            refine im_r rfl rfl trivial rfl ?_
            refine ⟨rfl, (pl_U (pl_U (EW (pl_U v 43 (EX R (j1 + 1))) jz b') 46 1) 22 (jz + 1)), rfl, fun j q1 q2 q3 q4 => ?_, rfl, rfl, fun hl => ?_⟩
            · unfold EW pl_U; simp only [q1, q2, q3, q4, if_false]
            · have hb0 : b' = 0 := by omega
              have hy : y = 1 := by omega
              have t6 := t5 hl rfl
              have em : m3 e = some 1 := by rcases t6 with ⟨_, z⟩ | ⟨z, _⟩; rw [z, hy]; omega
              refine ⟨Or.inr rfl, ⟨fun _ => ?_, fun _ => rfl⟩⟩
              unfold tw
              rw [em]
              exact ⟨rfl, by decide⟩
      · cases hres
        refine im_g 6 (y := (222, _, _, _)) rfl ⟨(by omega), trivial⟩ ?_
        refine im_cM rfl rfl (e_passes (v := (pl_U v 43 (EX R (j1 + 1)))) (R := R) (i := (j1 + 2)) (b := 0) (c := 5) (by omega) hT (by omega) (by decide) (hcb (by omega)) h23) rfl hT (fun v1 w1 hq => ?_)
        obtain ⟨rfl, rfl⟩ := hq; rw [if_neg (show ¬ EC (pl_U v 43 (EX R (j1 + 1))) R (j1 + 2) = 5 from hc5), if_neg (show ¬ EC (pl_U v 43 (EX R (j1 + 1))) R (j1 + 2) = 5 from hc5)]
        refine ⟨(EW (pl_U v 43 (EX R (j1 + 1))) (j1 + 2) 0), R, rfl, rfl, ?_⟩
        refine im_bT rfl rfl ⟨(by decide), trivial⟩ rfl ?_
        refine im_g 6 (y := (249, _, _, _)) rfl ⟨(by decide), trivial⟩ ?_
        refine im_bF rfl rfl ⟨(by exact (show im_ir (1 : Int) by decide)), trivial⟩ (show ¬ (1 : Int) = 0 by decide) ?_
        refine im_g 2 (y := (256, _, _, _)) rfl trivial ?_
        refine im_bF rfl rfl ⟨(by exact (show im_ir (0 : Int) by decide)), trivial⟩ (fun z => z rfl) ?_
        refine im_g 9 (y := (277, _, _, _)) rfl ⟨(by decide), trivial⟩ ?_
        refine im_r rfl rfl trivial rfl ?_
        refine ⟨rfl, (pl_U (pl_U (EW (pl_U v 43 (EX R (j1 + 1))) (j1 + 2) 0) 46 1) 22 ((j1 + 2) + 1)), rfl, fun j q1 q2 q3 q4 => ?_, by rw [hjz]; rfl, rfl, fun hl => ⟨Or.inr rfl, ⟨fun _ => ⟨rfl, (show ¬ (1 : Int) = 0 by decide)⟩, fun _ => rfl⟩⟩⟩
        unfold EW pl_U; simp only [q1, q2, q3, q4, if_false]
    · rw [if_neg hX] at hdn
      exact nomatch hdn
  · rw [if_neg h27] at hdn
    refine im_g 5 (y := (181, _, _, _)) rfl trivial ?_
    refine im_cM rfl rfl (e_passes (v := (pl_U v 43 1)) (R := R) (i := j1) (b := b0) (c := 27) (by omega) hT (by omega) (by decide) (hcb (by omega)) h23) rfl hT (fun v1 w1 hq => ?_)
    obtain ⟨rfl, rfl⟩ := hq; rw [if_neg (show ¬ EC (pl_U v 43 1) R j1 = 27 from h27), if_neg (show ¬ EC (pl_U v 43 1) R j1 = 27 from h27)]
    refine ⟨(EW (pl_U v 43 1) j1 b0), R, rfl, rfl, ?_⟩
    refine im_bT rfl rfl ⟨(by decide), trivial⟩ rfl ?_
    rcases d_if_r hdn with ⟨hc5, mm, qd, hres⟩ | ⟨hc5, hjz, hlz, hres⟩
    · cases hres
      have hin := EC_in (v := v) (R := R) (i := j1) (by rw [hc5]; decide)
      refine im_g 6 (y := (222, _, _, _)) rfl ⟨(by omega), trivial⟩ ?_
      refine im_cM rfl rfl (e_passes (v := (pl_U v 43 1)) (R := R) (i := j1) (b := 0) (c := 5) (by omega) hT (by omega) (by decide) (hcb (by omega)) h23) rfl hT (fun v1 w1 hq => ?_)
      obtain ⟨rfl, rfl⟩ := hq; rw [if_pos (show EC (pl_U v 43 1) R j1 = 5 from hc5), if_pos (show EC (pl_U v 43 1) R j1 = 5 from hc5)]
      refine ⟨(EW (pl_U v 43 1) (j1 + 1) 0), R, rfl, rfl, ?_⟩
      refine im_bF rfl rfl ⟨(by decide), trivial⟩ (by decide) ?_
      refine im_g 2 (y := (230, _, _, _)) rfl trivial ?_
      refine im_cM rfl rfl (show im_ct ro T d 179 [mr 0, .inl live] (MW (EW (pl_U v 43 1) (j1 + 1) 0) R) (fun r w => ∃ y b', r = some (VI y) ∧ w = MW (EW (pl_U v 43 1) jz b') R ∧ ET live 0 b' y m3 e) from (e_all (ro := ro) (T := T) hT n).2.2.2.2.2.2.1 d true (pl_U v 43 1) R e 0 (j1 + 1) _ live 0 jz _ m3 (show EPR true (pl_U v 43 1) R e from hE) (by decide) (by omega) (show 0 ≤ j1 + 1 ∧ j1 + 1 ≤ v 23 by omega) hlive (Or.inl rfl) qd) rfl hT (fun v1 w1 hq => ?_)
      obtain ⟨y, b', rfl, rfl, hET⟩ := hq; obtain ⟨t1, t2, t3, t4, t5⟩ := hET
      refine ⟨(EW (pl_U v 43 1) jz b'), R, rfl, rfl, ?_⟩
      refine im_b rfl rfl ⟨(by rcases t3 with rfl | rfl <;> decide), trivial⟩ (fun br1 => ?_) (fun br1 => ?_)
      · refine im_g 5 (y := (249, _, _, _)) rfl ⟨(by decide), trivial⟩ ?_
        refine im_bT rfl rfl ⟨(by first | exact (show im_ir (1 : Int) by decide) | exact (show im_ir (0 : Int) by decide)), trivial⟩ (show (0 : Int) = 0 from rfl) ?_
        refine im_g 8 (y := (277, _, _, _)) rfl ⟨(by decide), trivial⟩ ?_
        refine im_r rfl rfl trivial rfl ?_
        refine ⟨rfl, (pl_U (pl_U (EW (pl_U v 43 1) jz b') 46 0) 22 (jz + 1)), rfl, fun j q1 q2 q3 q4 => ?_, rfl, rfl, fun hl => ?_⟩
        · unfold EW pl_U; simp only [q1, q2, q3, q4, if_false]
        · have hy : y = 0 := by omega
          have t6 := t5 hl rfl
          refine ⟨Or.inl rfl, ⟨fun z => absurd z (show ¬ (0 : Int) = 1 by decide), fun z => ?_⟩⟩
          unfold tw at z
          rcases t6 with ⟨_, z2⟩ | ⟨_, z2⟩
          · rw [z2, hy] at z
            exact absurd rfl z.2
          · rw [z2] at z
            exact absurd z.1 (by decide)
      · refine im_g 6 (y := (249, _, _, _)) rfl ⟨(by decide), trivial⟩ ?_
        refine im_bF rfl rfl ⟨(by first | exact (show im_ir (1 : Int) by decide) | exact (show im_ir (0 : Int) by decide)), trivial⟩ (show ¬ (1 : Int) = 0 by decide) ?_
        refine im_g 2 (y := (256, _, _, _)) rfl trivial ?_
        refine im_b rfl rfl ⟨(by show im_ir b'; rcases t1 with rfl | rfl <;> decide), trivial⟩ (fun br2 => ?_) (fun br2 => ?_)
        · replace br2 : ¬ b' = 0 := br2
          refine im_g 8 (y := (277, _, _, _)) rfl ⟨(by decide), trivial⟩ ?_
          refine im_r rfl rfl trivial rfl ?_
          refine ⟨rfl, (pl_U (pl_U (EW (pl_U v 43 1) jz b') 46 0) 22 (jz + 1)), rfl, fun j q1 q2 q3 q4 => ?_, rfl, rfl, fun hl => ?_⟩
          · unfold EW pl_U; simp only [q1, q2, q3, q4, if_false]
          · have hb1 : b' = 1 := by omega
            have t6 := t5 hl rfl
            have em : m3 e = none := by rcases t6 with ⟨z, _⟩ | ⟨_, z⟩; omega; exact z
            refine ⟨Or.inl rfl, ⟨fun z => absurd z (show ¬ (0 : Int) = 1 by decide), fun z => ?_⟩⟩
            unfold tw at z
            rw [em] at z
            exact absurd z.1 (by decide)
        · replace br2 : ¬ ¬ b' = 0 := br2
          refine im_g 9 (y := (277, _, _, _)) rfl ⟨(by decide), trivial⟩ ?_
          refine im_r rfl rfl trivial rfl ?_
          refine ⟨rfl, (pl_U (pl_U (EW (pl_U v 43 1) jz b') 46 1) 22 (jz + 1)), rfl, fun j q1 q2 q3 q4 => ?_, rfl, rfl, fun hl => ?_⟩
          · unfold EW pl_U; simp only [q1, q2, q3, q4, if_false]
          · have hb0 : b' = 0 := by omega
            have hy : y = 1 := by omega
            have t6 := t5 hl rfl
            have em : m3 e = some 1 := by rcases t6 with ⟨_, z⟩ | ⟨z, _⟩; rw [z, hy]; omega
            refine ⟨Or.inr rfl, ⟨fun _ => ?_, fun _ => rfl⟩⟩
            unfold tw
            rw [em]
            exact ⟨rfl, by decide⟩
    · cases hres
      refine im_g 6 (y := (222, _, _, _)) rfl ⟨(by omega), trivial⟩ ?_
      refine im_cM rfl rfl (e_passes (v := (pl_U v 43 1)) (R := R) (i := j1) (b := 0) (c := 5) (by omega) hT (by omega) (by decide) (hcb (by omega)) h23) rfl hT (fun v1 w1 hq => ?_)
      obtain ⟨rfl, rfl⟩ := hq; rw [if_neg (show ¬ EC (pl_U v 43 1) R j1 = 5 from hc5), if_neg (show ¬ EC (pl_U v 43 1) R j1 = 5 from hc5)]
      refine ⟨(EW (pl_U v 43 1) j1 0), R, rfl, rfl, ?_⟩
      refine im_bT rfl rfl ⟨(by decide), trivial⟩ rfl ?_
      refine im_g 6 (y := (249, _, _, _)) rfl ⟨(by decide), trivial⟩ ?_
      refine im_bF rfl rfl ⟨(by exact (show im_ir (1 : Int) by decide)), trivial⟩ (show ¬ (1 : Int) = 0 by decide) ?_
      refine im_g 2 (y := (256, _, _, _)) rfl trivial ?_
      refine im_bF rfl rfl ⟨(by exact (show im_ir (0 : Int) by decide)), trivial⟩ (fun z => z rfl) ?_
      refine im_g 9 (y := (277, _, _, _)) rfl ⟨(by decide), trivial⟩ ?_
      refine im_r rfl rfl trivial rfl ?_
      refine ⟨rfl, (pl_U (pl_U (EW (pl_U v 43 1) j1 0) 46 1) 22 (j1 + 1)), rfl, fun j q1 q2 q3 q4 => ?_, by rw [hjz]; rfl, rfl, fun hl => ⟨Or.inr rfl, ⟨fun _ => ⟨rfl, (show ¬ (1 : Int) = 0 by decide)⟩, fun _ => rfl⟩⟩⟩
      unfold EW pl_U; simp only [q1, q2, q3, q4, if_false]
end Go
