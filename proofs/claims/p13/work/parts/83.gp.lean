/-! the reference: along a clause of orders, whole; obeys -/
section Gp
variable {ro : ab_R} {T : List im_T} {d : Nat} {v : Nat → Int} {R : Nat → Int → Int} {lv : Nat → Int} {L : Nat → Int → Int} {lw : Option im_T}
theorem KCo_0 {N : Int} {K : Int → Int} {k : Int} (h : N ≤ k) : KCo N K k = 0 := if_neg (by omega)
theorem KCo_in {N : Int} {K : Int → Int} {i : Int} (h : ¬ KCo N K i = 0) : i < N := by
  by_cases c : i < N
  · exact c
  · exact absurd (if_neg c) h
theorem d_times_r {c x : Int → Int} {n : Nat} {i l K jz lz Kz t : Int} {m1 m2 a1 a2 m3 : dM} (h : d_times c x n i l K m1 m2 = some (.inr (jz, lz, Kz, t, a1, a2, m3))) : Kz = K ∧ a1 = m1 ∧ a2 = m2 := by
  unfold d_times at h
  have key : ∀ {i t0 : Int}, d_if true c x n i l K t0 m1 m2 = some (.inr (jz, lz, Kz, t, a1, a2, m3)) → Kz = K ∧ a1 = m1 ∧ a2 = m2 := by
    intro i t0 hq
    rcases d_if_r hq with ⟨_, m, _, e⟩ | ⟨_, _, _, e⟩
    · cases e; exact ⟨rfl, rfl, rfl⟩
    · cases e; exact ⟨rfl, rfl, rfl⟩
  split at h
  · split at h
    · exact key h
    · cases h
  · exact key h
set_option maxHeartbeats 8000000 in
theorem m_goes (hd : 82 ≤ d) (hT : T.length < 1000) (ht : TLS v R lv L lw) (h30 : v 30 = 0) (hw27 : 0 ≤ v 27 ∧ v 27 ≤ 100000) (hw28 : -1 ≤ v 28 ∧ v 28 ≤ 98) (h22 : ∀ i, 0 ≤ i → i < 2 → -1000000000 ≤ R 22 i ∧ R 22 i ≤ 1000000000) {N i live l jz lz K t : Int} {m1 m2 m3 : dM} {n : Nat} (hN : N ≤ 2800) (hi : 0 ≤ i ∧ i < N) (h42 : v 42 = i) (hlive : live = 0 ∨ live = 1) (hdn : d_order (KCo N (R 2)) (EX R) n i l = some (.inr (jz, lz, K, t, m1, m2, m3))) : im_ct ro T d 230 [mr 0, .inl N, .inl live] (MW v R) (fun r w => r = none ∧ ∃ v' R', w = MW v' R' ∧ QO v R v' R' ∧ v' 22 = jz + 1 ∧ v' 43 = t ∧ v' 44 = hd_c K ∧ (∀ i, 0 ≤ i → i < 2 → -1000000000 ≤ R' 22 i ∧ R' 22 i ≤ 1000000000) ∧ (live = 1 → (v' 46 = 0 ∨ v' 46 = 1) ∧ (v' 46 = 1 ↔ tw (m3 (fw lw 1023 (v 28) (v 27) lv L))) ∧ (v' 45 = 0 ∨ v' 45 = 1) ∧ (v' 45 = 1 ↔ ((d_enc (m1 (fw lw 1023 (v 28) (v 27) lv L))).2 = 0 ∧ (d_enc (m2 (fw lw 1023 (v 28) (v 27) lv L))).2 = 0)) ∧ (v' 45 = 1 → (K ≠ 1 → R' 22 0 = (d_enc (m1 (fw lw 1023 (v 28) (v 27) lv L))).1) ∧ ((K = 2 ∨ K = 3) → R' 22 1 = (d_enc (m2 (fw lw 1023 (v 28) (v 27) lv L))).1)))) := by
  obtain ⟨d, rfl⟩ : ∃ e, d = e + 1 := ⟨d - 1, by omega⟩
  have hpar := lk_par ht.2.1
  refine im_ct_of (own := 9) (ret := none) (code := ab_k_X9_goesAlong) (nL := 5) (L0 := [some (mr 0), some (.inl N), some (.inl live), none, none]) (n := 24) rfl rfl rfl rfl rfl rfl rfl rfl rfl ?_
  refine im_g 2 (y := (2, _, _, _)) rfl trivial ?_
  have key : ∀ (jj k : Nat), (k : Int) + jj = lv 0 → ∀ (vx : Nat → Int) (Rx : Nat → Int → Int) (x4 : Option im_V), QO v R vx Rx → vx 27 = v 27 → vx 28 = v 28 → (∀ i, 0 ≤ i → i < 2 → -1000000000 ≤ Rx 22 i ∧ Rx 22 i ≤ 1000000000) → (∀ p, 0 ≤ p → p < (k : Int) → Rx 13 p = as_over lw p 0 L) → im_wp ro (ab_Ev ro ab_codes d) 9 none ab_k_X9_goesAlong 24 T (fun r w => r = none ∧ ∃ v' R', w = MW v' R' ∧ QO v R v' R' ∧ v' 22 = jz + 1 ∧ v' 43 = t ∧ v' 44 = hd_c K ∧ (∀ i, 0 ≤ i → i < 2 → -1000000000 ≤ R' 22 i ∧ R' 22 i ≤ 1000000000) ∧ (live = 1 → (v' 46 = 0 ∨ v' 46 = 1) ∧ (v' 46 = 1 ↔ tw (m3 (fw lw 1023 (v 28) (v 27) lv L))) ∧ (v' 45 = 0 ∨ v' 45 = 1) ∧ (v' 45 = 1 ↔ ((d_enc (m1 (fw lw 1023 (v 28) (v 27) lv L))).2 = 0 ∧ (d_enc (m2 (fw lw 1023 (v 28) (v 27) lv L))).2 = 0)) ∧ (v' 45 = 1 → (K ≠ 1 → R' 22 0 = (d_enc (m1 (fw lw 1023 (v 28) (v 27) lv L))).1) ∧ ((K = 2 ∨ K = 3) → R' 22 1 = (d_enc (m2 (fw lw 1023 (v 28) (v 27) lv L))).1)))) (2, [some (mr 0), some (.inl N), some (.inl live), some (.inl (k : Int)), x4], [], MW vx Rx) := by
    intro jj
    induction jj with
    | zero =>
      intro k hk vx Rx x4 hQ h27 h28 h22b h13
      have hR2 : Rx 2 = R 2 := hQ.2 2 (by decide) (by decide) (by decide)
      have h42x : vx 42 = i := (hQ.1 42 (by decide) (by decide) (by decide) (by decide) (by decide) (by decide) (by decide) (by decide)).trans h42
      have e1 : Rx 2 110 = lv 0 := by rw [hR2]; exact ht.1.1.1
      refine im_g 5 (y := (10, _, _, _)) rfl ⟨(by omega), trivial⟩ ?_
      refine im_bT rfl rfl ⟨(by first | (rw [e1]; constructor <;> omega) | omega), (by first | (rw [e1]; constructor <;> omega) | omega), trivial⟩ (by omega) ?_
      have hE : EPR true (pl_U (pl_U vx 25 1) 23 N) Rx (fw lw 1023 (v 28) (v 27) lv L) := by
        have t := EPR_o (lw := lw) (v := (pl_U (pl_U vx 25 1) 23 N)) (R := Rx) (by rw [hR2]; exact ht.1) ht.2.1 ht.2.2.1 (by rw [hR2]; exact ht.2.2.2.1) (show 0 ≤ N ∧ N ≤ 2800 by omega) rfl (show 0 ≤ vx 27 ∧ vx 27 ≤ 100000 by rw [h27]; exact hw27) (show -1 ≤ vx 28 ∧ vx 28 ≤ 98 by rw [h28]; exact hw28) (fun p q1 q2 => h13 p q1 (by omega))
        rw [show (pl_U (pl_U vx 25 1) 23 N) 28 = v 28 from h28, show (pl_U (pl_U vx 25 1) 23 N) 27 = v 27 from h27] at t
        exact t
      rw [← hR2] at hdn
      have hEX : EX R = EX Rx := by unfold EX; rw [hR2]
      rw [hEX] at hdn
      generalize (fw lw 1023 (v 28) (v 27) lv L) = e at hE ⊢
      unfold d_order at hdn
      by_cases c21 : KCo N (Rx 2) i = 21
      · rw [if_pos c21] at hdn
        obtain ⟨j1, l1, m1_, q1, q3⟩ := d_bq_r hdn
        have hci := c21
        have hle1 := dn_le (N := N) (fun k hk => KCo_0 hk) _ _ _ _ _ _ _ _ _ (by decide) (by omega) q1
        have hge1 := (dn_ge _ _ _ _ _ _ _ _ _ (by decide) q1).1
        have hk12 := d_times_r q3
        refine im_g 10 (y := (48, _, _, _)) rfl ⟨(by omega), trivial⟩ ?_
        refine im_eqs (y := (48, [some (mr 0), some (.inl N), some (.inl live), some (.inl (k : Int)), x4], [], MW (EW (pl_U (pl_U vx 25 1) 23 N) i (vx 24)) Rx)) ?_ ?_
        · show ((48, [some (mr 0), some (.inl N), some (.inl live), some (.inl (k : Int)), x4], [], MW (EW (pl_U (pl_U vx 25 1) 23 N) (vx 42) (vx 24)) Rx) : im_S) = _
          rw [h42x]
        refine im_g 4 (y := (54, _, _, _)) rfl trivial ?_
        refine im_cM rfl rfl (e_codeAt (v := (pl_U (pl_U vx 25 1) 23 N)) (R := Rx) (i := i) (b := vx 24) (k := i) (by omega) hT (by omega) (by omega) (show 0 ≤ N ∧ N ≤ 2800 by omega)) rfl hT (fun v1 w1 hq => ?_)
        obtain ⟨rfl, rfl⟩ := hq
        refine ⟨(EW (pl_U (pl_U vx 25 1) 23 N) i (vx 24)), Rx, rfl, rfl, ?_⟩
        rw [show EC (pl_U (pl_U vx 25 1) 23 N) Rx i = 21 from hci]
        refine im_g 13 (y := (81, _, _, _)) rfl ⟨(by omega), trivial⟩ ?_
        refine im_bT rfl rfl ⟨(by first | exact (show im_ir (21 : Int) by decide) | decide), (by first | exact (show im_ir (21 : Int) by decide) | decide), trivial⟩ (show ¬ (21 : Int) = 22 by decide) ?_
        refine im_g 3 (y := (94, _, _, _)) rfl trivial ?_
        refine im_bF rfl rfl ⟨(by first | exact (show im_ir (21 : Int) by decide) | decide), (by first | exact (show im_ir (21 : Int) by decide) | decide), trivial⟩ (show ¬ ¬ ((21 : Int) = 21) from fun z => z rfl) ?_
        refine im_g 5 (y := (106, _, _, _)) rfl trivial ?_
        refine im_g 2 (y := (109, _, _, _)) rfl trivial ?_
        refine im_bF rfl rfl ⟨(by decide), (by decide), trivial⟩ (by decide) ?_
        refine im_g 1 (y := (114, _, _, _)) rfl trivial ?_
        refine im_bT rfl rfl ⟨(by decide), trivial⟩ (by decide) ?_
        refine im_g 8 (y := (140, _, _, _)) rfl ⟨(by omega), trivial⟩ ?_
        refine im_cM rfl rfl (show im_ct ro T d 175 [mr 0, .inl live] (MW (EW (pl_U (pl_U (pl_U (pl_U vx 25 1) 23 N) 44 21) 45 1) (i + 1) 0) Rx) (fun r w => ∃ y b', r = some (VJ y) ∧ w = MW (EW (pl_U (pl_U (pl_U (pl_U vx 25 1) 23 N) 44 21) 45 1) j1 b') Rx ∧ EG live 0 b' y m1_ e) from (e_all (ro := ro) (T := T) hT n).2.2.1 d true (pl_U (pl_U (pl_U (pl_U vx 25 1) 23 N) 44 21) 45 1) Rx e 0 (i + 1) l live 0 j1 l1 m1_ (show EPR true (pl_U (pl_U (pl_U (pl_U vx 25 1) 23 N) 44 21) 45 1) Rx e from hE) (by decide) (by omega) (show 0 ≤ i + 1 ∧ i + 1 ≤ N by omega) hlive (Or.inl rfl) q1) rfl hT (fun v1 w1 hq => ?_)
        obtain ⟨y1, b1, rfl, rfl, hG1⟩ := hq; obtain ⟨u11, u21, u31, u41, u51, u61⟩ := hG1
        refine ⟨(EW (pl_U (pl_U (pl_U (pl_U vx 25 1) 23 N) 44 21) 45 1) j1 b1), Rx, rfl, rfl, ?_⟩
        refine im_g 4 (y := (149, _, _, _)) rfl ⟨(by omega), trivial⟩ ?_
        refine im_bF rfl rfl ⟨(by exact (show im_ir (1 : Int) by decide)), trivial⟩ (show ¬ (1 : Int) = 0 by decide) ?_
        refine im_g 2 (y := (156, _, _, _)) rfl trivial ?_
        refine im_b rfl rfl ⟨(by show im_ir b1; rcases u11 with rfl | rfl <;> decide), trivial⟩ (fun br1 => ?_) (fun br1 => ?_)
        · replace br1 : ¬ b1 = 0 := br1
          refine im_g 4 (y := (106, _, _, _)) rfl ⟨(by decide), trivial⟩ ?_
          refine im_g 2 (y := (109, _, _, _)) rfl trivial ?_
          refine im_bT rfl rfl ⟨(by decide), (by decide), trivial⟩ (by decide) ?_
          refine im_q (fun r w hq => ?_) (t_goes (v := (pl_U (pl_U (pl_U (pl_U (pl_U vx 25 1) 23 N) 44 21) 45 1) 45 0)) (R := (pl_U Rx 22 (im_up (Rx 22) 0 y1))) (e := e) hT (by omega) (show EPR true (pl_U (pl_U (pl_U (pl_U (pl_U vx 25 1) 23 N) 44 21) 45 1) 45 0) (pl_U Rx 22 (im_up (Rx 22) 0 y1)) e from hE) hlive (show 0 ≤ j1 ∧ j1 ≤ N by omega) q3 _ _)
          obtain ⟨hr, v2, rfl, hv2, hv22, hv43, hv46⟩ := hq
          refine ⟨hr, v2, (pl_U Rx 22 (im_up (Rx 22) 0 y1)), rfl, ?_, hv22, hv43, (hv2 44 (by decide) (by decide) (by decide) (by decide)).trans (by rw [hk12.1]; rfl), ?_, fun hl => ⟨(hv46 hl).1, (hv46 hl).2, ?_, ?_, ?_⟩⟩
          · refine QO_t hQ ⟨fun j q1 q2 q3 q4 q5 q6 q7 q8 => (hv2 j q1 q3 q5 q8).trans ?_, fun j q1 q2 q3 => ?_⟩
            · unfold pl_U; simp only [q2, q4, q6, q7, if_false]
            · unfold pl_U; simp only [q3, if_false]
          · exact (fun i q1 q2 => by show -1000000000 ≤ im_up _ _ _ i ∧ im_up _ _ _ i ≤ 1000000000; unfold im_up; split; omega; exact h22b i q1 q2)
          · rw [hv2 45 (by decide) (by decide) (by decide) (by decide)]; exact Or.inl rfl
          · rw [hv2 45 (by decide) (by decide) (by decide) (by decide)]
            obtain ⟨rfl, rfl, rfl⟩ := hk12
            have t6 := u61 hl rfl
            have em : m1 e = none := by rcases t6 with ⟨z, _⟩ | ⟨_, z⟩; omega; exact z
            refine ⟨fun z => absurd z (show ¬ (0 : Int) = 1 by decide), fun z => ?_⟩
            rw [em] at z
            exact absurd z.1 (by decide)
          · rw [hv2 45 (by decide) (by decide) (by decide) (by decide)]
            exact fun z => absurd z (show ¬ (0 : Int) = 1 by decide)
        · replace br1 : ¬ ¬ b1 = 0 := br1
          refine im_g 5 (y := (106, _, _, _)) rfl ⟨(by decide), trivial⟩ ?_
          refine im_g 2 (y := (109, _, _, _)) rfl trivial ?_
          refine im_bT rfl rfl ⟨(by decide), (by decide), trivial⟩ (by decide) ?_
          refine im_q (fun r w hq => ?_) (t_goes (v := (pl_U (pl_U (pl_U (pl_U (pl_U vx 25 1) 23 N) 44 21) 45 1) 45 1)) (R := (pl_U Rx 22 (im_up (Rx 22) 0 y1))) (e := e) hT (by omega) (show EPR true (pl_U (pl_U (pl_U (pl_U (pl_U vx 25 1) 23 N) 44 21) 45 1) 45 1) (pl_U Rx 22 (im_up (Rx 22) 0 y1)) e from hE) hlive (show 0 ≤ j1 ∧ j1 ≤ N by omega) q3 _ _)
          obtain ⟨hr, v2, rfl, hv2, hv22, hv43, hv46⟩ := hq
          refine ⟨hr, v2, (pl_U Rx 22 (im_up (Rx 22) 0 y1)), rfl, ?_, hv22, hv43, (hv2 44 (by decide) (by decide) (by decide) (by decide)).trans (by rw [hk12.1]; rfl), ?_, fun hl => ⟨(hv46 hl).1, (hv46 hl).2, ?_, ?_, ?_⟩⟩
          · refine QO_t hQ ⟨fun j q1 q2 q3 q4 q5 q6 q7 q8 => (hv2 j q1 q3 q5 q8).trans ?_, fun j q1 q2 q3 => ?_⟩
            · unfold pl_U; simp only [q2, q4, q6, q7, if_false]
            · unfold pl_U; simp only [q3, if_false]
          · exact (fun i q1 q2 => by show -1000000000 ≤ im_up _ _ _ i ∧ im_up _ _ _ i ≤ 1000000000; unfold im_up; split; omega; exact h22b i q1 q2)
          · rw [hv2 45 (by decide) (by decide) (by decide) (by decide)]; exact Or.inr rfl
          · rw [hv2 45 (by decide) (by decide) (by decide) (by decide)]
            obtain ⟨rfl, rfl, rfl⟩ := hk12
            have t6 := u61 hl rfl
            have em : m1 e = some y1 := by rcases t6 with ⟨_, z⟩ | ⟨z, _⟩; exact z; omega
            refine ⟨fun _ => ⟨?_, rfl⟩, fun _ => rfl⟩
            rw [em]; rfl
          · intro _
            obtain ⟨rfl, rfl, rfl⟩ := hk12
            have t6 := u61 hl rfl
            have em : m1 e = some y1 := by rcases t6 with ⟨_, z⟩ | ⟨z, _⟩; exact z; omega
            refine ⟨fun _ => ?_, fun z => absurd z (by decide)⟩
            rw [em]; show im_up (Rx 22) 0 y1 0 = y1; exact im_up_self _ _ _
      rw [if_neg c21] at hdn
      by_cases c23 : KCo N (Rx 2) i = 23
      · rw [if_pos c23] at hdn
        unfold d_two at hdn
        obtain ⟨j1, l1, m1_, q1, q3⟩ := d_bq_r hdn
        have hci := c23
        have hle1 := dn_le (N := N) (fun k hk => KCo_0 hk) _ _ _ _ _ _ _ _ _ (by decide) (by omega) q1
        have hge1 := (dn_ge _ _ _ _ _ _ _ _ _ (by decide) q1).1
        by_cases c24 : KCo N (Rx 2) j1 = 24
        · rw [if_pos c24] at q3
          have hin1 := KCo_in (N := N) (K := Rx 2) (i := j1) (by rw [c24]; decide)
          obtain ⟨j2, l2, m2_, q2, q4⟩ := d_bq_r q3
          have hle2 := dn_le (N := N) (fun k hk => KCo_0 hk) _ _ _ _ _ _ _ _ _ (by decide) (by omega) q2
          have hge2 := (dn_ge _ _ _ _ _ _ _ _ _ (by decide) q2).1
          have hk12 := d_times_r q4
          refine im_g 10 (y := (48, _, _, _)) rfl ⟨(by omega), trivial⟩ ?_
          refine im_eqs (y := (48, [some (mr 0), some (.inl N), some (.inl live), some (.inl (k : Int)), x4], [], MW (EW (pl_U (pl_U vx 25 1) 23 N) i (vx 24)) Rx)) ?_ ?_
          · show ((48, [some (mr 0), some (.inl N), some (.inl live), some (.inl (k : Int)), x4], [], MW (EW (pl_U (pl_U vx 25 1) 23 N) (vx 42) (vx 24)) Rx) : im_S) = _
            rw [h42x]
          refine im_g 4 (y := (54, _, _, _)) rfl trivial ?_
          refine im_cM rfl rfl (e_codeAt (v := (pl_U (pl_U vx 25 1) 23 N)) (R := Rx) (i := i) (b := vx 24) (k := i) (by omega) hT (by omega) (by omega) (show 0 ≤ N ∧ N ≤ 2800 by omega)) rfl hT (fun v1 w1 hq => ?_)
          obtain ⟨rfl, rfl⟩ := hq
          refine ⟨(EW (pl_U (pl_U vx 25 1) 23 N) i (vx 24)), Rx, rfl, rfl, ?_⟩
          rw [show EC (pl_U (pl_U vx 25 1) 23 N) Rx i = 23 from hci]
          refine im_g 13 (y := (81, _, _, _)) rfl ⟨(by omega), trivial⟩ ?_
          refine im_bT rfl rfl ⟨(by first | exact (show im_ir (23 : Int) by decide) | decide), (by first | exact (show im_ir (23 : Int) by decide) | decide), trivial⟩ (show ¬ (23 : Int) = 22 by decide) ?_
          refine im_g 3 (y := (94, _, _, _)) rfl trivial ?_
          refine im_bT rfl rfl ⟨(by first | exact (show im_ir (23 : Int) by decide) | decide), (by first | exact (show im_ir (23 : Int) by decide) | decide), trivial⟩ (show ¬ (23 : Int) = 21 by decide) ?_
          refine im_g 4 (y := (106, _, _, _)) rfl trivial ?_
          refine im_g 2 (y := (109, _, _, _)) rfl trivial ?_
          refine im_bF rfl rfl ⟨(by decide), (by decide), trivial⟩ (by decide) ?_
          refine im_g 1 (y := (114, _, _, _)) rfl trivial ?_
          refine im_bT rfl rfl ⟨(by decide), trivial⟩ (by decide) ?_
          refine im_g 8 (y := (140, _, _, _)) rfl ⟨(by omega), trivial⟩ ?_
          refine im_cM rfl rfl (show im_ct ro T d 175 [mr 0, .inl live] (MW (EW (pl_U (pl_U (pl_U (pl_U vx 25 1) 23 N) 44 23) 45 1) (i + 1) 0) Rx) (fun r w => ∃ y b', r = some (VJ y) ∧ w = MW (EW (pl_U (pl_U (pl_U (pl_U vx 25 1) 23 N) 44 23) 45 1) j1 b') Rx ∧ EG live 0 b' y m1_ e) from (e_all (ro := ro) (T := T) hT n).2.2.1 d true (pl_U (pl_U (pl_U (pl_U vx 25 1) 23 N) 44 23) 45 1) Rx e 0 (i + 1) l live 0 j1 l1 m1_ (show EPR true (pl_U (pl_U (pl_U (pl_U vx 25 1) 23 N) 44 23) 45 1) Rx e from hE) (by decide) (by omega) (show 0 ≤ i + 1 ∧ i + 1 ≤ N by omega) hlive (Or.inl rfl) q1) rfl hT (fun v1 w1 hq => ?_)
          obtain ⟨y1, b1, rfl, rfl, hG1⟩ := hq; obtain ⟨u11, u21, u31, u41, u51, u61⟩ := hG1
          refine ⟨(EW (pl_U (pl_U (pl_U (pl_U vx 25 1) 23 N) 44 23) 45 1) j1 b1), Rx, rfl, rfl, ?_⟩
          refine im_g 4 (y := (149, _, _, _)) rfl ⟨(by omega), trivial⟩ ?_
          refine im_bF rfl rfl ⟨(by exact (show im_ir (1 : Int) by decide)), trivial⟩ (show ¬ (1 : Int) = 0 by decide) ?_
          refine im_g 2 (y := (156, _, _, _)) rfl trivial ?_
          refine im_b rfl rfl ⟨(by show im_ir b1; rcases u11 with rfl | rfl <;> decide), trivial⟩ (fun br1 => ?_) (fun br1 => ?_)
          · replace br1 : ¬ b1 = 0 := br1
            refine im_g 4 (y := (106, _, _, _)) rfl ⟨(by decide), trivial⟩ ?_
            refine im_g 2 (y := (109, _, _, _)) rfl trivial ?_
            refine im_bF rfl rfl ⟨(by decide), (by decide), trivial⟩ (by decide) ?_
            refine im_g 1 (y := (114, _, _, _)) rfl trivial ?_
            refine im_bF rfl rfl ⟨(by decide), trivial⟩ (by decide) ?_
            refine im_g 14 (y := (140, _, _, _)) rfl ⟨(by omega), trivial⟩ ?_
            refine im_cM rfl rfl (show im_ct ro T d 175 [mr 0, .inl live] (MW (EW (pl_U (pl_U (pl_U (pl_U (pl_U vx 25 1) 23 N) 44 23) 45 1) 45 0) (j1 + 1) 0) (pl_U Rx 22 (im_up (Rx 22) 0 y1))) (fun r w => ∃ y b', r = some (VJ y) ∧ w = MW (EW (pl_U (pl_U (pl_U (pl_U (pl_U vx 25 1) 23 N) 44 23) 45 1) 45 0) j2 b') (pl_U Rx 22 (im_up (Rx 22) 0 y1)) ∧ EG live 0 b' y m2_ e) from (e_all (ro := ro) (T := T) hT n).2.2.1 d true (pl_U (pl_U (pl_U (pl_U (pl_U vx 25 1) 23 N) 44 23) 45 1) 45 0) (pl_U Rx 22 (im_up (Rx 22) 0 y1)) e 0 (j1 + 1) l1 live 0 j2 l2 m2_ (show EPR true (pl_U (pl_U (pl_U (pl_U (pl_U vx 25 1) 23 N) 44 23) 45 1) 45 0) (pl_U Rx 22 (im_up (Rx 22) 0 y1)) e from hE) (by decide) (by omega) (show 0 ≤ j1 + 1 ∧ j1 + 1 ≤ N by omega) hlive (Or.inl rfl) q2) rfl hT (fun v1 w1 hq => ?_)
            obtain ⟨y2, b2, rfl, rfl, hG2⟩ := hq; obtain ⟨u12, u22, u32, u42, u52, u62⟩ := hG2
            refine ⟨(EW (pl_U (pl_U (pl_U (pl_U (pl_U vx 25 1) 23 N) 44 23) 45 1) 45 0) j2 b2), (pl_U Rx 22 (im_up (Rx 22) 0 y1)), rfl, rfl, ?_⟩
            refine im_g 4 (y := (149, _, _, _)) rfl ⟨(by omega), trivial⟩ ?_
            refine im_bT rfl rfl ⟨(by exact (show im_ir (0 : Int) by decide)), trivial⟩ (show (0 : Int) = 0 from rfl) ?_
            refine im_g 4 (y := (106, _, _, _)) rfl ⟨(by decide), trivial⟩ ?_
            refine im_g 2 (y := (109, _, _, _)) rfl trivial ?_
            refine im_bT rfl rfl ⟨(by decide), (by decide), trivial⟩ (by decide) ?_
            refine im_q (fun r w hq => ?_) (t_goes (v := (pl_U (pl_U (pl_U (pl_U (pl_U (pl_U vx 25 1) 23 N) 44 23) 45 1) 45 0) 45 0)) (R := (pl_U (pl_U Rx 22 (im_up (Rx 22) 0 y1)) 22 (im_up (im_up (Rx 22) 0 y1) 1 y2))) (e := e) hT (by omega) (show EPR true (pl_U (pl_U (pl_U (pl_U (pl_U (pl_U vx 25 1) 23 N) 44 23) 45 1) 45 0) 45 0) (pl_U (pl_U Rx 22 (im_up (Rx 22) 0 y1)) 22 (im_up (im_up (Rx 22) 0 y1) 1 y2)) e from hE) hlive (show 0 ≤ j2 ∧ j2 ≤ N by omega) q4 _ _)
            obtain ⟨hr, v2, rfl, hv2, hv22, hv43, hv46⟩ := hq
            refine ⟨hr, v2, (pl_U (pl_U Rx 22 (im_up (Rx 22) 0 y1)) 22 (im_up (im_up (Rx 22) 0 y1) 1 y2)), rfl, ?_, hv22, hv43, (hv2 44 (by decide) (by decide) (by decide) (by decide)).trans (by rw [hk12.1]; rfl), ?_, fun hl => ⟨(hv46 hl).1, (hv46 hl).2, ?_, ?_, ?_⟩⟩
            · refine QO_t hQ ⟨fun j q1 q2 q3 q4 q5 q6 q7 q8 => (hv2 j q1 q3 q5 q8).trans ?_, fun j q1 q2 q3 => ?_⟩
              · unfold pl_U; simp only [q2, q4, q6, q7, if_false]
              · unfold pl_U; simp only [q3, if_false]
            · exact (fun i q1 q2 => by show -1000000000 ≤ im_up _ _ _ i ∧ im_up _ _ _ i ≤ 1000000000; unfold im_up; split; omega; split; omega; exact h22b i q1 q2)
            · rw [hv2 45 (by decide) (by decide) (by decide) (by decide)]; exact Or.inl rfl
            · rw [hv2 45 (by decide) (by decide) (by decide) (by decide)]
              obtain ⟨rfl, rfl, rfl⟩ := hk12
              have t6 := u61 hl rfl
              have em1 : m1 e = none := by rcases t6 with ⟨z, _⟩ | ⟨_, z⟩; omega; exact z
              refine ⟨fun z => absurd z (show ¬ (0 : Int) = 1 by decide), fun z => ?_⟩
              rw [em1] at z
              exact absurd z.1 (by decide)
            · rw [hv2 45 (by decide) (by decide) (by decide) (by decide)]
              exact fun z => absurd z (show ¬ (0 : Int) = 1 by decide)
          · replace br1 : ¬ ¬ b1 = 0 := br1
            refine im_g 5 (y := (106, _, _, _)) rfl ⟨(by decide), trivial⟩ ?_
            refine im_g 2 (y := (109, _, _, _)) rfl trivial ?_
            refine im_bF rfl rfl ⟨(by decide), (by decide), trivial⟩ (by decide) ?_
            refine im_g 1 (y := (114, _, _, _)) rfl trivial ?_
            refine im_bF rfl rfl ⟨(by decide), trivial⟩ (by decide) ?_
            refine im_g 14 (y := (140, _, _, _)) rfl ⟨(by omega), trivial⟩ ?_
            refine im_cM rfl rfl (show im_ct ro T d 175 [mr 0, .inl live] (MW (EW (pl_U (pl_U (pl_U (pl_U (pl_U vx 25 1) 23 N) 44 23) 45 1) 45 1) (j1 + 1) 0) (pl_U Rx 22 (im_up (Rx 22) 0 y1))) (fun r w => ∃ y b', r = some (VJ y) ∧ w = MW (EW (pl_U (pl_U (pl_U (pl_U (pl_U vx 25 1) 23 N) 44 23) 45 1) 45 1) j2 b') (pl_U Rx 22 (im_up (Rx 22) 0 y1)) ∧ EG live 0 b' y m2_ e) from (e_all (ro := ro) (T := T) hT n).2.2.1 d true (pl_U (pl_U (pl_U (pl_U (pl_U vx 25 1) 23 N) 44 23) 45 1) 45 1) (pl_U Rx 22 (im_up (Rx 22) 0 y1)) e 0 (j1 + 1) l1 live 0 j2 l2 m2_ (show EPR true (pl_U (pl_U (pl_U (pl_U (pl_U vx 25 1) 23 N) 44 23) 45 1) 45 1) (pl_U Rx 22 (im_up (Rx 22) 0 y1)) e from hE) (by decide) (by omega) (show 0 ≤ j1 + 1 ∧ j1 + 1 ≤ N by omega) hlive (Or.inl rfl) q2) rfl hT (fun v1 w1 hq => ?_)
            obtain ⟨y2, b2, rfl, rfl, hG2⟩ := hq; obtain ⟨u12, u22, u32, u42, u52, u62⟩ := hG2
            refine ⟨(EW (pl_U (pl_U (pl_U (pl_U (pl_U vx 25 1) 23 N) 44 23) 45 1) 45 1) j2 b2), (pl_U Rx 22 (im_up (Rx 22) 0 y1)), rfl, rfl, ?_⟩
            refine im_g 4 (y := (149, _, _, _)) rfl ⟨(by omega), trivial⟩ ?_
            refine im_bF rfl rfl ⟨(by exact (show im_ir (1 : Int) by decide)), trivial⟩ (show ¬ (1 : Int) = 0 by decide) ?_
            refine im_g 2 (y := (156, _, _, _)) rfl trivial ?_
            refine im_b rfl rfl ⟨(by show im_ir b2; rcases u12 with rfl | rfl <;> decide), trivial⟩ (fun br1 => ?_) (fun br1 => ?_)
            · replace br1 : ¬ b2 = 0 := br1
              refine im_g 4 (y := (106, _, _, _)) rfl ⟨(by decide), trivial⟩ ?_
              refine im_g 2 (y := (109, _, _, _)) rfl trivial ?_
              refine im_bT rfl rfl ⟨(by decide), (by decide), trivial⟩ (by decide) ?_
              refine im_q (fun r w hq => ?_) (t_goes (v := (pl_U (pl_U (pl_U (pl_U (pl_U (pl_U vx 25 1) 23 N) 44 23) 45 1) 45 1) 45 0)) (R := (pl_U (pl_U Rx 22 (im_up (Rx 22) 0 y1)) 22 (im_up (im_up (Rx 22) 0 y1) 1 y2))) (e := e) hT (by omega) (show EPR true (pl_U (pl_U (pl_U (pl_U (pl_U (pl_U vx 25 1) 23 N) 44 23) 45 1) 45 1) 45 0) (pl_U (pl_U Rx 22 (im_up (Rx 22) 0 y1)) 22 (im_up (im_up (Rx 22) 0 y1) 1 y2)) e from hE) hlive (show 0 ≤ j2 ∧ j2 ≤ N by omega) q4 _ _)
              obtain ⟨hr, v2, rfl, hv2, hv22, hv43, hv46⟩ := hq
              refine ⟨hr, v2, (pl_U (pl_U Rx 22 (im_up (Rx 22) 0 y1)) 22 (im_up (im_up (Rx 22) 0 y1) 1 y2)), rfl, ?_, hv22, hv43, (hv2 44 (by decide) (by decide) (by decide) (by decide)).trans (by rw [hk12.1]; rfl), ?_, fun hl => ⟨(hv46 hl).1, (hv46 hl).2, ?_, ?_, ?_⟩⟩
              · refine QO_t hQ ⟨fun j q1 q2 q3 q4 q5 q6 q7 q8 => (hv2 j q1 q3 q5 q8).trans ?_, fun j q1 q2 q3 => ?_⟩
                · unfold pl_U; simp only [q2, q4, q6, q7, if_false]
                · unfold pl_U; simp only [q3, if_false]
              · exact (fun i q1 q2 => by show -1000000000 ≤ im_up _ _ _ i ∧ im_up _ _ _ i ≤ 1000000000; unfold im_up; split; omega; split; omega; exact h22b i q1 q2)
              · rw [hv2 45 (by decide) (by decide) (by decide) (by decide)]; exact Or.inl rfl
              · rw [hv2 45 (by decide) (by decide) (by decide) (by decide)]
                obtain ⟨rfl, rfl, rfl⟩ := hk12
                have t7 := u62 hl rfl
                have em2 : m2 e = none := by rcases t7 with ⟨z, _⟩ | ⟨_, z⟩; omega; exact z
                refine ⟨fun z => absurd z (show ¬ (0 : Int) = 1 by decide), fun z => ?_⟩
                rw [em2] at z
                exact absurd z.2 (by decide)
              · rw [hv2 45 (by decide) (by decide) (by decide) (by decide)]
                exact fun z => absurd z (show ¬ (0 : Int) = 1 by decide)
            · replace br1 : ¬ ¬ b2 = 0 := br1
              refine im_g 5 (y := (106, _, _, _)) rfl ⟨(by decide), trivial⟩ ?_
              refine im_g 2 (y := (109, _, _, _)) rfl trivial ?_
              refine im_bT rfl rfl ⟨(by decide), (by decide), trivial⟩ (by decide) ?_
              refine im_q (fun r w hq => ?_) (t_goes (v := (pl_U (pl_U (pl_U (pl_U (pl_U (pl_U vx 25 1) 23 N) 44 23) 45 1) 45 1) 45 1)) (R := (pl_U (pl_U Rx 22 (im_up (Rx 22) 0 y1)) 22 (im_up (im_up (Rx 22) 0 y1) 1 y2))) (e := e) hT (by omega) (show EPR true (pl_U (pl_U (pl_U (pl_U (pl_U (pl_U vx 25 1) 23 N) 44 23) 45 1) 45 1) 45 1) (pl_U (pl_U Rx 22 (im_up (Rx 22) 0 y1)) 22 (im_up (im_up (Rx 22) 0 y1) 1 y2)) e from hE) hlive (show 0 ≤ j2 ∧ j2 ≤ N by omega) q4 _ _)
              obtain ⟨hr, v2, rfl, hv2, hv22, hv43, hv46⟩ := hq
              refine ⟨hr, v2, (pl_U (pl_U Rx 22 (im_up (Rx 22) 0 y1)) 22 (im_up (im_up (Rx 22) 0 y1) 1 y2)), rfl, ?_, hv22, hv43, (hv2 44 (by decide) (by decide) (by decide) (by decide)).trans (by rw [hk12.1]; rfl), ?_, fun hl => ⟨(hv46 hl).1, (hv46 hl).2, ?_, ?_, ?_⟩⟩
              · refine QO_t hQ ⟨fun j q1 q2 q3 q4 q5 q6 q7 q8 => (hv2 j q1 q3 q5 q8).trans ?_, fun j q1 q2 q3 => ?_⟩
                · unfold pl_U; simp only [q2, q4, q6, q7, if_false]
                · unfold pl_U; simp only [q3, if_false]
              · exact (fun i q1 q2 => by show -1000000000 ≤ im_up _ _ _ i ∧ im_up _ _ _ i ≤ 1000000000; unfold im_up; split; omega; split; omega; exact h22b i q1 q2)
              · rw [hv2 45 (by decide) (by decide) (by decide) (by decide)]; exact Or.inr rfl
              · rw [hv2 45 (by decide) (by decide) (by decide) (by decide)]
                obtain ⟨rfl, rfl, rfl⟩ := hk12
                have t6 := u61 hl rfl
                have em1 : m1 e = some y1 := by rcases t6 with ⟨_, z⟩ | ⟨z, _⟩; exact z; omega
                have t7 := u62 hl rfl
                have em2 : m2 e = some y2 := by rcases t7 with ⟨_, z⟩ | ⟨z, _⟩; exact z; omega
                refine ⟨fun _ => ⟨?_, ?_⟩, fun _ => rfl⟩
                · rw [em1]; rfl
                · rw [em2]; rfl
              · intro _
                obtain ⟨rfl, rfl, rfl⟩ := hk12
                have t6 := u61 hl rfl
                have em1 : m1 e = some y1 := by rcases t6 with ⟨_, z⟩ | ⟨z, _⟩; exact z; omega
                have t7 := u62 hl rfl
                have em2 : m2 e = some y2 := by rcases t7 with ⟨_, z⟩ | ⟨z, _⟩; exact z; omega
                refine ⟨fun _ => ?_, fun _ => ?_⟩
                · rw [em1]; show im_up (im_up (Rx 22) 0 y1) 1 y2 0 = y1; rw [im_up_ne _ _ (by decide)]; exact im_up_self _ _ _
                · rw [em2]; show im_up (im_up (Rx 22) 0 y1) 1 y2 1 = y2; exact im_up_self _ _ _
        · rw [if_neg c24] at q3; exact nomatch q3
      rw [if_neg c23] at hdn
      by_cases c25 : KCo N (Rx 2) i = 25
      · rw [if_pos c25] at hdn
        unfold d_two at hdn
        obtain ⟨j1, l1, m1_, q1, q3⟩ := d_bq_r hdn
        have hci := c25
        have hle1 := dn_le (N := N) (fun k hk => KCo_0 hk) _ _ _ _ _ _ _ _ _ (by decide) (by omega) q1
        have hge1 := (dn_ge _ _ _ _ _ _ _ _ _ (by decide) q1).1
        by_cases c24 : KCo N (Rx 2) j1 = 26
        · rw [if_pos c24] at q3
          have hin1 := KCo_in (N := N) (K := Rx 2) (i := j1) (by rw [c24]; decide)
          obtain ⟨j2, l2, m2_, q2, q4⟩ := d_bq_r q3
          have hle2 := dn_le (N := N) (fun k hk => KCo_0 hk) _ _ _ _ _ _ _ _ _ (by decide) (by omega) q2
          have hge2 := (dn_ge _ _ _ _ _ _ _ _ _ (by decide) q2).1
          have hk12 := d_times_r q4
          refine im_g 10 (y := (48, _, _, _)) rfl ⟨(by omega), trivial⟩ ?_
          refine im_eqs (y := (48, [some (mr 0), some (.inl N), some (.inl live), some (.inl (k : Int)), x4], [], MW (EW (pl_U (pl_U vx 25 1) 23 N) i (vx 24)) Rx)) ?_ ?_
          · show ((48, [some (mr 0), some (.inl N), some (.inl live), some (.inl (k : Int)), x4], [], MW (EW (pl_U (pl_U vx 25 1) 23 N) (vx 42) (vx 24)) Rx) : im_S) = _
            rw [h42x]
          refine im_g 4 (y := (54, _, _, _)) rfl trivial ?_
          refine im_cM rfl rfl (e_codeAt (v := (pl_U (pl_U vx 25 1) 23 N)) (R := Rx) (i := i) (b := vx 24) (k := i) (by omega) hT (by omega) (by omega) (show 0 ≤ N ∧ N ≤ 2800 by omega)) rfl hT (fun v1 w1 hq => ?_)
          obtain ⟨rfl, rfl⟩ := hq
          refine ⟨(EW (pl_U (pl_U vx 25 1) 23 N) i (vx 24)), Rx, rfl, rfl, ?_⟩
          rw [show EC (pl_U (pl_U vx 25 1) 23 N) Rx i = 25 from hci]
          refine im_g 13 (y := (81, _, _, _)) rfl ⟨(by omega), trivial⟩ ?_
          refine im_bT rfl rfl ⟨(by first | exact (show im_ir (25 : Int) by decide) | decide), (by first | exact (show im_ir (25 : Int) by decide) | decide), trivial⟩ (show ¬ (25 : Int) = 22 by decide) ?_
          refine im_g 3 (y := (94, _, _, _)) rfl trivial ?_
          refine im_bT rfl rfl ⟨(by first | exact (show im_ir (25 : Int) by decide) | decide), (by first | exact (show im_ir (25 : Int) by decide) | decide), trivial⟩ (show ¬ (25 : Int) = 21 by decide) ?_
          refine im_g 4 (y := (106, _, _, _)) rfl trivial ?_
          refine im_g 2 (y := (109, _, _, _)) rfl trivial ?_
          refine im_bF rfl rfl ⟨(by decide), (by decide), trivial⟩ (by decide) ?_
          refine im_g 1 (y := (114, _, _, _)) rfl trivial ?_
          refine im_bT rfl rfl ⟨(by decide), trivial⟩ (by decide) ?_
          refine im_g 8 (y := (140, _, _, _)) rfl ⟨(by omega), trivial⟩ ?_
          refine im_cM rfl rfl (show im_ct ro T d 175 [mr 0, .inl live] (MW (EW (pl_U (pl_U (pl_U (pl_U vx 25 1) 23 N) 44 25) 45 1) (i + 1) 0) Rx) (fun r w => ∃ y b', r = some (VJ y) ∧ w = MW (EW (pl_U (pl_U (pl_U (pl_U vx 25 1) 23 N) 44 25) 45 1) j1 b') Rx ∧ EG live 0 b' y m1_ e) from (e_all (ro := ro) (T := T) hT n).2.2.1 d true (pl_U (pl_U (pl_U (pl_U vx 25 1) 23 N) 44 25) 45 1) Rx e 0 (i + 1) l live 0 j1 l1 m1_ (show EPR true (pl_U (pl_U (pl_U (pl_U vx 25 1) 23 N) 44 25) 45 1) Rx e from hE) (by decide) (by omega) (show 0 ≤ i + 1 ∧ i + 1 ≤ N by omega) hlive (Or.inl rfl) q1) rfl hT (fun v1 w1 hq => ?_)
          obtain ⟨y1, b1, rfl, rfl, hG1⟩ := hq; obtain ⟨u11, u21, u31, u41, u51, u61⟩ := hG1
          refine ⟨(EW (pl_U (pl_U (pl_U (pl_U vx 25 1) 23 N) 44 25) 45 1) j1 b1), Rx, rfl, rfl, ?_⟩
          refine im_g 4 (y := (149, _, _, _)) rfl ⟨(by omega), trivial⟩ ?_
          refine im_bF rfl rfl ⟨(by exact (show im_ir (1 : Int) by decide)), trivial⟩ (show ¬ (1 : Int) = 0 by decide) ?_
          refine im_g 2 (y := (156, _, _, _)) rfl trivial ?_
          refine im_b rfl rfl ⟨(by show im_ir b1; rcases u11 with rfl | rfl <;> decide), trivial⟩ (fun br1 => ?_) (fun br1 => ?_)
          · replace br1 : ¬ b1 = 0 := br1
            refine im_g 4 (y := (106, _, _, _)) rfl ⟨(by decide), trivial⟩ ?_
            refine im_g 2 (y := (109, _, _, _)) rfl trivial ?_
            refine im_bF rfl rfl ⟨(by decide), (by decide), trivial⟩ (by decide) ?_
            refine im_g 1 (y := (114, _, _, _)) rfl trivial ?_
            refine im_bF rfl rfl ⟨(by decide), trivial⟩ (by decide) ?_
            refine im_g 14 (y := (140, _, _, _)) rfl ⟨(by omega), trivial⟩ ?_
            refine im_cM rfl rfl (show im_ct ro T d 175 [mr 0, .inl live] (MW (EW (pl_U (pl_U (pl_U (pl_U (pl_U vx 25 1) 23 N) 44 25) 45 1) 45 0) (j1 + 1) 0) (pl_U Rx 22 (im_up (Rx 22) 0 y1))) (fun r w => ∃ y b', r = some (VJ y) ∧ w = MW (EW (pl_U (pl_U (pl_U (pl_U (pl_U vx 25 1) 23 N) 44 25) 45 1) 45 0) j2 b') (pl_U Rx 22 (im_up (Rx 22) 0 y1)) ∧ EG live 0 b' y m2_ e) from (e_all (ro := ro) (T := T) hT n).2.2.1 d true (pl_U (pl_U (pl_U (pl_U (pl_U vx 25 1) 23 N) 44 25) 45 1) 45 0) (pl_U Rx 22 (im_up (Rx 22) 0 y1)) e 0 (j1 + 1) l1 live 0 j2 l2 m2_ (show EPR true (pl_U (pl_U (pl_U (pl_U (pl_U vx 25 1) 23 N) 44 25) 45 1) 45 0) (pl_U Rx 22 (im_up (Rx 22) 0 y1)) e from hE) (by decide) (by omega) (show 0 ≤ j1 + 1 ∧ j1 + 1 ≤ N by omega) hlive (Or.inl rfl) q2) rfl hT (fun v1 w1 hq => ?_)
            obtain ⟨y2, b2, rfl, rfl, hG2⟩ := hq; obtain ⟨u12, u22, u32, u42, u52, u62⟩ := hG2
            refine ⟨(EW (pl_U (pl_U (pl_U (pl_U (pl_U vx 25 1) 23 N) 44 25) 45 1) 45 0) j2 b2), (pl_U Rx 22 (im_up (Rx 22) 0 y1)), rfl, rfl, ?_⟩
            refine im_g 4 (y := (149, _, _, _)) rfl ⟨(by omega), trivial⟩ ?_
            refine im_bT rfl rfl ⟨(by exact (show im_ir (0 : Int) by decide)), trivial⟩ (show (0 : Int) = 0 from rfl) ?_
            refine im_g 4 (y := (106, _, _, _)) rfl ⟨(by decide), trivial⟩ ?_
            refine im_g 2 (y := (109, _, _, _)) rfl trivial ?_
            refine im_bT rfl rfl ⟨(by decide), (by decide), trivial⟩ (by decide) ?_
            refine im_q (fun r w hq => ?_) (t_goes (v := (pl_U (pl_U (pl_U (pl_U (pl_U (pl_U vx 25 1) 23 N) 44 25) 45 1) 45 0) 45 0)) (R := (pl_U (pl_U Rx 22 (im_up (Rx 22) 0 y1)) 22 (im_up (im_up (Rx 22) 0 y1) 1 y2))) (e := e) hT (by omega) (show EPR true (pl_U (pl_U (pl_U (pl_U (pl_U (pl_U vx 25 1) 23 N) 44 25) 45 1) 45 0) 45 0) (pl_U (pl_U Rx 22 (im_up (Rx 22) 0 y1)) 22 (im_up (im_up (Rx 22) 0 y1) 1 y2)) e from hE) hlive (show 0 ≤ j2 ∧ j2 ≤ N by omega) q4 _ _)
            obtain ⟨hr, v2, rfl, hv2, hv22, hv43, hv46⟩ := hq
            refine ⟨hr, v2, (pl_U (pl_U Rx 22 (im_up (Rx 22) 0 y1)) 22 (im_up (im_up (Rx 22) 0 y1) 1 y2)), rfl, ?_, hv22, hv43, (hv2 44 (by decide) (by decide) (by decide) (by decide)).trans (by rw [hk12.1]; rfl), ?_, fun hl => ⟨(hv46 hl).1, (hv46 hl).2, ?_, ?_, ?_⟩⟩
            · refine QO_t hQ ⟨fun j q1 q2 q3 q4 q5 q6 q7 q8 => (hv2 j q1 q3 q5 q8).trans ?_, fun j q1 q2 q3 => ?_⟩
              · unfold pl_U; simp only [q2, q4, q6, q7, if_false]
              · unfold pl_U; simp only [q3, if_false]
            · exact (fun i q1 q2 => by show -1000000000 ≤ im_up _ _ _ i ∧ im_up _ _ _ i ≤ 1000000000; unfold im_up; split; omega; split; omega; exact h22b i q1 q2)
            · rw [hv2 45 (by decide) (by decide) (by decide) (by decide)]; exact Or.inl rfl
            · rw [hv2 45 (by decide) (by decide) (by decide) (by decide)]
              obtain ⟨rfl, rfl, rfl⟩ := hk12
              have t6 := u61 hl rfl
              have em1 : m1 e = none := by rcases t6 with ⟨z, _⟩ | ⟨_, z⟩; omega; exact z
              refine ⟨fun z => absurd z (show ¬ (0 : Int) = 1 by decide), fun z => ?_⟩
              rw [em1] at z
              exact absurd z.1 (by decide)
            · rw [hv2 45 (by decide) (by decide) (by decide) (by decide)]
              exact fun z => absurd z (show ¬ (0 : Int) = 1 by decide)
          · replace br1 : ¬ ¬ b1 = 0 := br1
            refine im_g 5 (y := (106, _, _, _)) rfl ⟨(by decide), trivial⟩ ?_
            refine im_g 2 (y := (109, _, _, _)) rfl trivial ?_
            refine im_bF rfl rfl ⟨(by decide), (by decide), trivial⟩ (by decide) ?_
            refine im_g 1 (y := (114, _, _, _)) rfl trivial ?_
            refine im_bF rfl rfl ⟨(by decide), trivial⟩ (by decide) ?_
            refine im_g 14 (y := (140, _, _, _)) rfl ⟨(by omega), trivial⟩ ?_
            refine im_cM rfl rfl (show im_ct ro T d 175 [mr 0, .inl live] (MW (EW (pl_U (pl_U (pl_U (pl_U (pl_U vx 25 1) 23 N) 44 25) 45 1) 45 1) (j1 + 1) 0) (pl_U Rx 22 (im_up (Rx 22) 0 y1))) (fun r w => ∃ y b', r = some (VJ y) ∧ w = MW (EW (pl_U (pl_U (pl_U (pl_U (pl_U vx 25 1) 23 N) 44 25) 45 1) 45 1) j2 b') (pl_U Rx 22 (im_up (Rx 22) 0 y1)) ∧ EG live 0 b' y m2_ e) from (e_all (ro := ro) (T := T) hT n).2.2.1 d true (pl_U (pl_U (pl_U (pl_U (pl_U vx 25 1) 23 N) 44 25) 45 1) 45 1) (pl_U Rx 22 (im_up (Rx 22) 0 y1)) e 0 (j1 + 1) l1 live 0 j2 l2 m2_ (show EPR true (pl_U (pl_U (pl_U (pl_U (pl_U vx 25 1) 23 N) 44 25) 45 1) 45 1) (pl_U Rx 22 (im_up (Rx 22) 0 y1)) e from hE) (by decide) (by omega) (show 0 ≤ j1 + 1 ∧ j1 + 1 ≤ N by omega) hlive (Or.inl rfl) q2) rfl hT (fun v1 w1 hq => ?_)
            obtain ⟨y2, b2, rfl, rfl, hG2⟩ := hq; obtain ⟨u12, u22, u32, u42, u52, u62⟩ := hG2
            refine ⟨(EW (pl_U (pl_U (pl_U (pl_U (pl_U vx 25 1) 23 N) 44 25) 45 1) 45 1) j2 b2), (pl_U Rx 22 (im_up (Rx 22) 0 y1)), rfl, rfl, ?_⟩
            refine im_g 4 (y := (149, _, _, _)) rfl ⟨(by omega), trivial⟩ ?_
            refine im_bF rfl rfl ⟨(by exact (show im_ir (1 : Int) by decide)), trivial⟩ (show ¬ (1 : Int) = 0 by decide) ?_
            refine im_g 2 (y := (156, _, _, _)) rfl trivial ?_
            refine im_b rfl rfl ⟨(by show im_ir b2; rcases u12 with rfl | rfl <;> decide), trivial⟩ (fun br1 => ?_) (fun br1 => ?_)
            · replace br1 : ¬ b2 = 0 := br1
              refine im_g 4 (y := (106, _, _, _)) rfl ⟨(by decide), trivial⟩ ?_
              refine im_g 2 (y := (109, _, _, _)) rfl trivial ?_
              refine im_bT rfl rfl ⟨(by decide), (by decide), trivial⟩ (by decide) ?_
              refine im_q (fun r w hq => ?_) (t_goes (v := (pl_U (pl_U (pl_U (pl_U (pl_U (pl_U vx 25 1) 23 N) 44 25) 45 1) 45 1) 45 0)) (R := (pl_U (pl_U Rx 22 (im_up (Rx 22) 0 y1)) 22 (im_up (im_up (Rx 22) 0 y1) 1 y2))) (e := e) hT (by omega) (show EPR true (pl_U (pl_U (pl_U (pl_U (pl_U (pl_U vx 25 1) 23 N) 44 25) 45 1) 45 1) 45 0) (pl_U (pl_U Rx 22 (im_up (Rx 22) 0 y1)) 22 (im_up (im_up (Rx 22) 0 y1) 1 y2)) e from hE) hlive (show 0 ≤ j2 ∧ j2 ≤ N by omega) q4 _ _)
              obtain ⟨hr, v2, rfl, hv2, hv22, hv43, hv46⟩ := hq
              refine ⟨hr, v2, (pl_U (pl_U Rx 22 (im_up (Rx 22) 0 y1)) 22 (im_up (im_up (Rx 22) 0 y1) 1 y2)), rfl, ?_, hv22, hv43, (hv2 44 (by decide) (by decide) (by decide) (by decide)).trans (by rw [hk12.1]; rfl), ?_, fun hl => ⟨(hv46 hl).1, (hv46 hl).2, ?_, ?_, ?_⟩⟩
              · refine QO_t hQ ⟨fun j q1 q2 q3 q4 q5 q6 q7 q8 => (hv2 j q1 q3 q5 q8).trans ?_, fun j q1 q2 q3 => ?_⟩
                · unfold pl_U; simp only [q2, q4, q6, q7, if_false]
                · unfold pl_U; simp only [q3, if_false]
              · exact (fun i q1 q2 => by show -1000000000 ≤ im_up _ _ _ i ∧ im_up _ _ _ i ≤ 1000000000; unfold im_up; split; omega; split; omega; exact h22b i q1 q2)
              · rw [hv2 45 (by decide) (by decide) (by decide) (by decide)]; exact Or.inl rfl
              · rw [hv2 45 (by decide) (by decide) (by decide) (by decide)]
                obtain ⟨rfl, rfl, rfl⟩ := hk12
                have t7 := u62 hl rfl
                have em2 : m2 e = none := by rcases t7 with ⟨z, _⟩ | ⟨_, z⟩; omega; exact z
                refine ⟨fun z => absurd z (show ¬ (0 : Int) = 1 by decide), fun z => ?_⟩
                rw [em2] at z
                exact absurd z.2 (by decide)
              · rw [hv2 45 (by decide) (by decide) (by decide) (by decide)]
                exact fun z => absurd z (show ¬ (0 : Int) = 1 by decide)
            · replace br1 : ¬ ¬ b2 = 0 := br1
              refine im_g 5 (y := (106, _, _, _)) rfl ⟨(by decide), trivial⟩ ?_
              refine im_g 2 (y := (109, _, _, _)) rfl trivial ?_
              refine im_bT rfl rfl ⟨(by decide), (by decide), trivial⟩ (by decide) ?_
              refine im_q (fun r w hq => ?_) (t_goes (v := (pl_U (pl_U (pl_U (pl_U (pl_U (pl_U vx 25 1) 23 N) 44 25) 45 1) 45 1) 45 1)) (R := (pl_U (pl_U Rx 22 (im_up (Rx 22) 0 y1)) 22 (im_up (im_up (Rx 22) 0 y1) 1 y2))) (e := e) hT (by omega) (show EPR true (pl_U (pl_U (pl_U (pl_U (pl_U (pl_U vx 25 1) 23 N) 44 25) 45 1) 45 1) 45 1) (pl_U (pl_U Rx 22 (im_up (Rx 22) 0 y1)) 22 (im_up (im_up (Rx 22) 0 y1) 1 y2)) e from hE) hlive (show 0 ≤ j2 ∧ j2 ≤ N by omega) q4 _ _)
              obtain ⟨hr, v2, rfl, hv2, hv22, hv43, hv46⟩ := hq
              refine ⟨hr, v2, (pl_U (pl_U Rx 22 (im_up (Rx 22) 0 y1)) 22 (im_up (im_up (Rx 22) 0 y1) 1 y2)), rfl, ?_, hv22, hv43, (hv2 44 (by decide) (by decide) (by decide) (by decide)).trans (by rw [hk12.1]; rfl), ?_, fun hl => ⟨(hv46 hl).1, (hv46 hl).2, ?_, ?_, ?_⟩⟩
              · refine QO_t hQ ⟨fun j q1 q2 q3 q4 q5 q6 q7 q8 => (hv2 j q1 q3 q5 q8).trans ?_, fun j q1 q2 q3 => ?_⟩
                · unfold pl_U; simp only [q2, q4, q6, q7, if_false]
                · unfold pl_U; simp only [q3, if_false]
              · exact (fun i q1 q2 => by show -1000000000 ≤ im_up _ _ _ i ∧ im_up _ _ _ i ≤ 1000000000; unfold im_up; split; omega; split; omega; exact h22b i q1 q2)
              · rw [hv2 45 (by decide) (by decide) (by decide) (by decide)]; exact Or.inr rfl
              · rw [hv2 45 (by decide) (by decide) (by decide) (by decide)]
                obtain ⟨rfl, rfl, rfl⟩ := hk12
                have t6 := u61 hl rfl
                have em1 : m1 e = some y1 := by rcases t6 with ⟨_, z⟩ | ⟨z, _⟩; exact z; omega
                have t7 := u62 hl rfl
                have em2 : m2 e = some y2 := by rcases t7 with ⟨_, z⟩ | ⟨z, _⟩; exact z; omega
                refine ⟨fun _ => ⟨?_, ?_⟩, fun _ => rfl⟩
                · rw [em1]; rfl
                · rw [em2]; rfl
              · intro _
                obtain ⟨rfl, rfl, rfl⟩ := hk12
                have t6 := u61 hl rfl
                have em1 : m1 e = some y1 := by rcases t6 with ⟨_, z⟩ | ⟨z, _⟩; exact z; omega
                have t7 := u62 hl rfl
                have em2 : m2 e = some y2 := by rcases t7 with ⟨_, z⟩ | ⟨z, _⟩; exact z; omega
                refine ⟨fun _ => ?_, fun _ => ?_⟩
                · rw [em1]; show im_up (im_up (Rx 22) 0 y1) 1 y2 0 = y1; rw [im_up_ne _ _ (by decide)]; exact im_up_self _ _ _
                · rw [em2]; show im_up (im_up (Rx 22) 0 y1) 1 y2 1 = y2; exact im_up_self _ _ _
        · rw [if_neg c24] at q3; exact nomatch q3
      rw [if_neg c25] at hdn
      by_cases c22 : KCo N (Rx 2) i = 22
      · rw [if_pos c22] at hdn
        have hci := c22
        have hk12 := d_times_r hdn
        refine im_g 10 (y := (48, _, _, _)) rfl ⟨(by omega), trivial⟩ ?_
        refine im_eqs (y := (48, [some (mr 0), some (.inl N), some (.inl live), some (.inl (k : Int)), x4], [], MW (EW (pl_U (pl_U vx 25 1) 23 N) i (vx 24)) Rx)) ?_ ?_
        · show ((48, [some (mr 0), some (.inl N), some (.inl live), some (.inl (k : Int)), x4], [], MW (EW (pl_U (pl_U vx 25 1) 23 N) (vx 42) (vx 24)) Rx) : im_S) = _
          rw [h42x]
        refine im_g 4 (y := (54, _, _, _)) rfl trivial ?_
        refine im_cM rfl rfl (e_codeAt (v := (pl_U (pl_U vx 25 1) 23 N)) (R := Rx) (i := i) (b := vx 24) (k := i) (by omega) hT (by omega) (by omega) (show 0 ≤ N ∧ N ≤ 2800 by omega)) rfl hT (fun v1 w1 hq => ?_)
        obtain ⟨rfl, rfl⟩ := hq
        refine ⟨(EW (pl_U (pl_U vx 25 1) 23 N) i (vx 24)), Rx, rfl, rfl, ?_⟩
        rw [show EC (pl_U (pl_U vx 25 1) 23 N) Rx i = 22 from hci]
        refine im_g 13 (y := (81, _, _, _)) rfl ⟨(by omega), trivial⟩ ?_
        refine im_bF rfl rfl ⟨(by first | exact (show im_ir (22 : Int) by decide) | decide), (by first | exact (show im_ir (22 : Int) by decide) | decide), trivial⟩ (show ¬ ¬ ((22 : Int) = 22) from fun z => z rfl) ?_
        refine im_g 5 (y := (106, _, _, _)) rfl trivial ?_
        refine im_g 2 (y := (109, _, _, _)) rfl trivial ?_
        refine im_bT rfl rfl ⟨(by decide), (by decide), trivial⟩ (by decide) ?_
        refine im_q (fun r w hq => ?_) (t_goes (v := (pl_U (pl_U (pl_U (pl_U vx 25 1) 23 N) 44 22) 45 1)) (R := Rx) (e := e) hT (by omega) (show EPR true (pl_U (pl_U (pl_U (pl_U vx 25 1) 23 N) 44 22) 45 1) Rx e from hE) hlive (show 0 ≤ (i + 1) ∧ (i + 1) ≤ N by omega) hdn _ _)
        obtain ⟨hr, v2, rfl, hv2, hv22, hv43, hv46⟩ := hq
        refine ⟨hr, v2, Rx, rfl, ?_, hv22, hv43, (hv2 44 (by decide) (by decide) (by decide) (by decide)).trans (by rw [hk12.1]; rfl), ?_, fun hl => ⟨(hv46 hl).1, (hv46 hl).2, ?_, ?_, ?_⟩⟩
        · refine QO_t hQ ⟨fun j q1 q2 q3 q4 q5 q6 q7 q8 => (hv2 j q1 q3 q5 q8).trans ?_, fun j q1 q2 q3 => ?_⟩
          · unfold pl_U; simp only [q2, q4, q6, q7, if_false]
          · rfl
        · exact h22b
        · rw [hv2 45 (by decide) (by decide) (by decide) (by decide)]; exact Or.inr rfl
        · rw [hv2 45 (by decide) (by decide) (by decide) (by decide)]
          obtain ⟨rfl, rfl, rfl⟩ := hk12
          exact ⟨fun _ => ⟨rfl, rfl⟩, fun _ => rfl⟩
        · intro _
          obtain ⟨rfl, rfl, rfl⟩ := hk12
          exact ⟨fun z => absurd rfl z, fun z => absurd z (by decide)⟩
      · rw [if_neg c22] at hdn; exact nomatch hdn
    | succ jj ih =>
      intro k hk vx Rx x4 hQ h27 h28 h22b h13
      have hR2 : Rx 2 = R 2 := hQ.2 2 (by decide) (by decide) (by decide)
      have h42x : vx 42 = i := (hQ.1 42 (by decide) (by decide) (by decide) (by decide) (by decide) (by decide) (by decide) (by decide)).trans h42
      have e1 : Rx 2 110 = lv 0 := by rw [hR2]; exact ht.1.1.1
      have h30x : vx 30 = 0 := (hQ.1 30 (by decide) (by decide) (by decide) (by decide) (by decide) (by decide) (by decide) (by decide)).trans h30
      have htl : TLS vx Rx lv L lw := by
        obtain ⟨x1, x2, x3, x4, x5, x6⟩ := ht
        unfold TLS
        rw [hR2]
        exact ⟨x1, x2, x3, x4, x5, Or.inl h30x⟩
      have hp10 : 0 ≤ (k : Int) ∧ (k : Int) < 10 := by omega
      refine im_g 5 (y := (10, _, _, _)) rfl ⟨(by omega), trivial⟩ ?_
      refine im_bF rfl rfl ⟨(by first | (rw [e1]; constructor <;> omega) | omega), (by first | (rw [e1]; constructor <;> omega) | omega), trivial⟩ (by omega) ?_
      refine im_g 5 (y := (20, _, _, _)) rfl trivial ?_
      refine im_cM rfl rfl (show im_ct ro T d 185 [mr 0, .inl (k : Int)] (MW vx Rx) (fun r w => r = some (.inl (as_over lw (k : Int) 0 L)) ∧ QS vx Rx w) from (by have t := m_over (ro := ro) (T := T) (d := d) (v := vx) (R := Rx) (lv := lv) (L := L) (lw := lw) (p := (k : Int)) (by omega) hT htl hp10; rw [h30x] at t; exact t)) rfl hT (fun v1 w1 hq => ?_)
      obtain ⟨rfl, g, ge, b, o, a, rfl⟩ := hq
      refine ⟨(EV4 vx g ge b o), (pl_U Rx 12 a), rfl, rfl, ?_⟩
      refine im_g 3 (y := (2, _, _, _)) rfl ⟨(by omega), trivial⟩ ?_
      exact ih (k + 1) (by omega) (EV4 vx g ge b o) (pl_U (pl_U Rx 12 a) 13 (im_up (Rx 13) (k : Int) (as_over lw (k : Int) 0 L))) _ (QO_R (QO_ev hQ g ge b o a) (by omega) _) h27 h28 h22b (fun p q1 q2 => by show im_up (Rx 13) (k : Int) (as_over lw (k : Int) 0 L) p = _; unfold im_up; split; (rename_i z; rw [z]); exact h13 p q1 (by omega))
  exact key (lv 0).toNat 0 (by omega) v R none (QO_0 v R) rfl rfl h22 (fun p q1 q2 => absurd q1 (by omega))
end Gp
