/-! the reference: obeys, runs -/
def OBX (v : Nat → Int) (R : Nat → Int → Int) (v' : Nat → Int) (R' : Nat → Int → Int) : Prop := (∀ j, j ≠ 22 → j ≠ 23 → j ≠ 24 → j ≠ 25 → j ≠ 28 → j ≠ 31 → j ≠ 34 → v' j = v j) ∧ ∀ j, j ≠ 2 → j ≠ 12 → j ≠ 14 → R' j = R j
theorem OBX_0 (v : Nat → Int) (R : Nat → Int → Int) : OBX v R v R := ⟨fun _ _ _ _ _ _ _ _ => rfl, fun _ _ _ _ => rfl⟩
theorem OBX_v {v : Nat → Int} {R : Nat → Int → Int} {v' : Nat → Int} {R' : Nat → Int → Int} (h : OBX v R v' R') {k : Nat} (hk : k = 22 ∨ k = 23 ∨ k = 24 ∨ k = 25 ∨ k = 28 ∨ k = 31 ∨ k = 34) (x : Int) : OBX v R (pl_U v' k x) R' := by
  refine ⟨fun j q1 q2 q3 q4 q5 q6 q7 => ?_, h.2⟩
  have e : j ≠ k := by omega
  exact (if_neg e).trans (h.1 j q1 q2 q3 q4 q5 q6 q7)
theorem OBX_R {v : Nat → Int} {R : Nat → Int → Int} {v' : Nat → Int} {R' : Nat → Int → Int} (h : OBX v R v' R') {k : Nat} (hk : k = 2 ∨ k = 12 ∨ k = 14) (f : Int → Int) : OBX v R v' (pl_U R' k f) := by
  refine ⟨h.1, fun j q1 q2 q3 => ?_⟩
  have e : j ≠ k := by omega
  exact (if_neg e).trans (h.2 j q1 q2 q3)
theorem OBX_ev {v : Nat → Int} {R : Nat → Int → Int} {v' : Nat → Int} {R' : Nat → Int → Int} (h : OBX v R v' R') (g ge b o : Int) (a : Int → Int) : OBX v R (EV4 v' g ge b o) (pl_U R' 12 a) := OBX_R (OBX_v (OBX_v (OBX_v (OBX_v h (by omega) g) (by omega) ge) (by omega) b) (by omega) o) (by omega) a
theorem km_lend_st {a b n : Int} {v : Nat → Int} {R : Nat → Int → Int} (h1 : R 2 110 ≤ 10) (hc : ∀ p, 0 ≤ p → p < 10 → 0 ≤ R 2 (0 + p) ∧ R 2 (0 + p) ≤ 999) : ((km_lend a b n v R).1 < 0 ∧ (km_lend a b n v R).2 = (v, R)) ∨ (0 ≤ (km_lend a b n v R).1 ∧ ∃ K', (km_lend a b n v R).2 = (pl_U v 34 (kp_un v + 1), pl_U (pl_U R 14 (kp_keep 2 v R)) 2 K')) := by
  unfold km_lend
  split
  · split
    · split
      · rename_i c1 c2 c3
        refine Or.inr ⟨?_, _, rfl⟩
        have ha := hc a (by omega) (by omega)
        have hb := hc b (by omega) (by omega)
        show 0 ≤ im_up (im_up (R 2) (0 + a) (R 2 (0 + a) - n)) (0 + b) (im_up (R 2) (0 + a) (R 2 (0 + a) - n) (0 + b) + n) (0 + a)
        unfold im_up
        by_cases e : 0 + a = 0 + b
        · rw [if_pos e, if_pos e.symm]
          omega
        · rw [if_neg e, if_pos rfl]
          omega
      · exact Or.inl ⟨(show (-3 : Int) < 0 by decide), rfl⟩
    · exact Or.inl ⟨(show (-2 : Int) < 0 by decide), rfl⟩
  · exact Or.inl ⟨(show (-1 : Int) < 0 by decide), rfl⟩
theorem km_grow_st {p b : Int} {v : Nat → Int} {R : Nat → Int → Int} : ((km_grow p b v R).1 < 0 ∧ (km_grow p b v R).2 = (v, R)) ∨ (0 ≤ (km_grow p b v R).1 ∧ ∃ K', (km_grow p b v R).2 = (pl_U v 34 (kp_un v + 1), pl_U (pl_U R 14 (kp_keep 3 v R)) 2 K')) := by
  unfold km_grow
  split
  · split
    · split
      · rename_i c1 c2 c3
        refine Or.inr ⟨?_, _, rfl⟩
        show 0 ≤ im_up (R 2) (0 + p) (R 2 (0 + p) + b) (0 + p)
        rw [im_up_self]
        exact c3.1
      · exact Or.inl ⟨(show (-3 : Int) < 0 by decide), rfl⟩
    · exact Or.inl ⟨(show (-2 : Int) < 0 by decide), rfl⟩
  · exact Or.inl ⟨(show (-1 : Int) < 0 by decide), rfl⟩
theorem pl_act_0 (lw : Option im_T) {v : Nat → Int} {R : Nat → Int → Int} (h : LOK v R) (K a b n : Int) : (pl_act lw K a b n v R).2.1 0 = v 0 := by
  unfold pl_act
  split
  · exact (pl_send_75 lw a v R).2.2
  split
  · split
    · exact pl_day_0 h
    · rfl
  split
  · rfl
  · rfl
theorem act_arg {lw : Option im_T} {K a b a' b' : Int} {v : Nat → Int} {R : Nat → Int → Int} (h1 : K ≠ 1 → a = a') (h2 : K ≠ 0 → K ≠ 1 → b = b') : pl_act lw K a b 1 v R = pl_act lw K a' b' 1 v R := by
  unfold pl_act
  by_cases k0 : K = 0
  · rw [if_pos k0, if_pos k0, h1 (by omega)]
  rw [if_neg k0, if_neg k0]
  by_cases k1 : K = 1
  · rw [if_pos k1, if_pos k1]
  rw [if_neg k1, if_neg k1, h1 k1, h2 k0 k1]
section Or1
variable {ro : ab_R} {T : List im_T} {d : Nat} {v : Nat → Int} {R : Nat → Int → Int} {lv : Nat → Int} {L : Nat → Int → Int} {lw : Option im_T}
set_option maxHeartbeats 8000000 in
theorem m_small (hd : 1 ≤ d) (hT : T.length < 1000) {x : Int} (hx : -1000000000 ≤ x ∧ x ≤ 1000000000) : im_ct ro T d 231 [.inr (.inl x)] ([]) (fun r w => r = some (.inl (sm x)) ∧ w = []) := by
  obtain ⟨d, rfl⟩ : ∃ e, d = e + 1 := ⟨d - 1, by omega⟩
  refine im_ct_of (own := 9) (ret := (some .int)) (code := ab_k_X9_small) (nL := 2) (L0 := [some (.inr (.inl x)), none]) (n := 0) rfl rfl rfl rfl rfl rfl rfl rfl rfl ?_
  refine im_g 3 (y := (5, _, _, _)) rfl ⟨(by omega), (by omega), trivial⟩ ?_
  refine im_b rfl rfl ⟨(by exact im_cmp_ir _ _), trivial⟩ (fun br1 => ?_) (fun br1 => ?_)
  · rw [im_cmp_neg] at br1
    refine im_g 2 (y := (23, _, _, _)) rfl trivial ?_
    refine im_r rfl rfl trivial rfl ?_
    rw [show sm x = 1000000 from if_pos (by omega)]
    exact ⟨rfl, rfl⟩
  · rw [im_cmp_neg] at br1
    refine im_g 3 (y := (13, _, _, _)) rfl ⟨(by omega), (by omega), trivial⟩ ?_
    refine im_b rfl rfl ⟨(by exact im_cmp_ir _ _), trivial⟩ (fun br2 => ?_) (fun br2 => ?_)
    · rw [im_cmp_np] at br2
      refine im_g 2 (y := (23, _, _, _)) rfl trivial ?_
      refine im_r rfl rfl trivial rfl ?_
      rw [show sm x = x from if_neg (by omega)]
      exact ⟨rfl, rfl⟩
    · rw [im_cmp_np] at br2
      refine im_g 2 (y := (23, _, _, _)) rfl trivial ?_
      refine im_r rfl rfl trivial rfl ?_
      rw [show sm x = 1000000 from if_pos (by omega)]
      exact ⟨rfl, rfl⟩
set_option maxHeartbeats 8000000 in
theorem m_obeys (hd : 86 ≤ d) (hT : T.length < 1000) (ht : TLS v R lv L lw) (h30 : v 30 = 0) (hd9 : L 7 0 ≤ 999) (h34 : 0 ≤ v 34 ∧ v 34 ≤ 16) (h22 : ∀ i, 0 ≤ i → i < 2 → -1000000000 ≤ R 22 i ∧ R 22 i ≤ 1000000000) {K : Int} (hK : 0 ≤ K ∧ K ≤ 3) (h44 : v 44 = hd_c K) : im_ct ro T d 232 [mr 0] (MW v R) (fun r w => r = some (.inl ((pl_act lw K (sm (R 22 0)) (sm (R 22 1)) 1 lv L).1)) ∧ ∃ v1 R1, w = MW v1 R1 ∧ OBX v R v1 R1 ∧ (((pl_act lw K (sm (R 22 0)) (sm (R 22 1)) 1 lv L).1 < 0 ∧ R1 2 = R 2 ∧ v1 34 = v 34 ∧ R1 14 = R 14 ∧ v1 28 = v 28) ∨ (0 ≤ (pl_act lw K (sm (R 22 0)) (sm (R 22 1)) 1 lv L).1 ∧ v1 34 = kp_un v + 1 ∧ R1 14 = kp_keep K v R ∧ KR (R1 2) (pl_act lw K (sm (R 22 0)) (sm (R 22 1)) 1 lv L).2.1 (pl_act lw K (sm (R 22 0)) (sm (R 22 1)) 1 lv L).2.2 ∧ KFr (R 2) (R1 2) ∧ v1 28 = if K = 0 then (pl_act lw K (sm (R 22 0)) (sm (R 22 1)) 1 lv L).1 else v 28))) := by
  obtain ⟨d, rfl⟩ : ∃ e, d = e + 1 := ⟨d - 1, by omega⟩
  have hpar := lk_par ht.2.1
  have hb0 := h22 0 (by decide) (by decide)
  have hb1 := h22 1 (by decide) (by decide)
  have hs0 : -1000000 ≤ sm (R 22 0) ∧ sm (R 22 0) ≤ 1000000 := by unfold sm; split <;> omega
  have hs1 : -1000000 ≤ sm (R 22 1) ∧ sm (R 22 1) ≤ 1000000 := by unfold sm; split <;> omega
  have hkp : ∀ p, 0 ≤ p → p < 10 → -1 ≤ R 2 (71 + p) ∧ R 2 (71 + p) ≤ 9 := fun p q1 q2 => (KR_p ht.1 ht.2.1 p q1 q2).1
  have hkc : ∀ p, 0 ≤ p → p < 10 → 0 ≤ R 2 (0 + p) ∧ R 2 (0 + p) ≤ 999 := fun p q1 q2 => (KR_p ht.1 ht.2.1 p q1 q2).2.2.1
  have h110 : 0 ≤ R 2 110 ∧ R 2 110 ≤ 10 := by rw [ht.1.1.1]; exact hpar
  have hkk : K = 0 ∨ K = 1 ∨ K = 2 ∨ K = 3 := by omega
  rcases hkk with rfl | rfl | rfl | rfl
  · refine im_ct_of (own := 9) (ret := (some .int)) (code := ab_k_X9_obeys) (nL := 4) (L0 := [some (mr 0), none, none, none]) (n := 24) rfl rfl rfl rfl rfl rfl rfl rfl rfl ?_
    refine im_g 4 (y := (6, _, _, _)) rfl ⟨(by omega), trivial⟩ ?_
    refine im_call [] rfl rfl (m_small (x := R 22 0) (by omega) hT hb0) rfl rfl rfl (by decide) rfl (by decide) hT (fun v1 w1 hq => ?_)
    obtain ⟨rfl, rfl⟩ := hq
    refine ⟨_, _, MW v R, rfl, rfl, rfl, ?_⟩
    refine im_g 5 (y := (16, _, _, _)) rfl ⟨(by omega), trivial⟩ ?_
    refine im_call [] rfl rfl (m_small (x := R 22 1) (by omega) hT hb1) rfl rfl rfl (by decide) rfl (by decide) hT (fun v1 w1 hq => ?_)
    obtain ⟨rfl, rfl⟩ := hq
    refine ⟨_, _, MW v R, rfl, rfl, rfl, ?_⟩
    refine im_g 3 (y := (24, _, _, _)) rfl trivial ?_
    have h44k : v 44 = 21 := h44
    rw [h44k]
    refine im_sw (tgt := 76) rfl (by decide) (by decide) (Or.inl (by decide)) (by decide) ?_
    refine im_g 2 (y := (78, _, _, _)) rfl trivial ?_
    refine im_cM rfl rfl (m_reckK (v := v) (R := R) (lv := lv) (L := L) (lw := lw) (p := sm (R 22 0)) (by omega) hT ht h30 h34 (by omega)) rfl hT (fun v1 w1 hq => ?_)
    have ea : (pl_act lw 0 (sm (R 22 0)) (sm (R 22 1)) 1 lv L) = pl_send lw (sm (R 22 0)) lv L := rfl
    have hsb := pl_send_b lw (sm (R 22 0)) lv L
    rw [ea]
    rcases hq with ⟨e9, rfl, g, ge, b, o, a, rfl⟩ | ⟨e9, rfl, g, ge, b, o, a, K', rfl, hK2, hfr2⟩
    · refine ⟨(EV4 v g ge b o), (pl_U R 12 a), rfl, rfl, ?_⟩
      refine im_g 3 (y := (84, _, _, _)) rfl trivial ?_
      refine im_bF rfl rfl ⟨(by omega), trivial⟩ (by omega) ?_
      refine im_g 5 (y := (99, _, _, _)) rfl trivial ?_
      refine im_r rfl rfl trivial rfl ?_
      exact ⟨rfl, (pl_U (EV4 v g ge b o) 28 ((EV4 v g ge b o) 28)), _, rfl, OBX_v (OBX_ev (OBX_0 v R) g ge b o a) (by omega) _, Or.inl ⟨e9, rfl, rfl, rfl, rfl⟩⟩
    · refine ⟨(EV4 (pl_U v 34 (kp_un v + 1)) g ge b o), (pl_U (pl_U (pl_U R 14 (kp_keep 0 v R)) 12 a) 2 K'), rfl, rfl, ?_⟩
      refine im_g 3 (y := (84, _, _, _)) rfl trivial ?_
      refine im_bT rfl rfl ⟨(by omega), trivial⟩ (by omega) ?_
      refine im_g 3 (y := (99, _, _, _)) rfl trivial ?_
      refine im_r rfl rfl trivial rfl ?_
      exact ⟨rfl, (pl_U (EV4 (pl_U v 34 (kp_un v + 1)) g ge b o) 28 (pl_send lw (sm (R 22 0)) lv L).1), _, rfl, OBX_v (OBX_R (OBX_ev (OBX_R (OBX_v (OBX_0 v R) (by omega) _) (by omega) _) g ge b o a) (by omega) _) (by omega) _, Or.inr ⟨e9, rfl, rfl, hK2, hfr2, rfl⟩⟩
  · refine im_ct_of (own := 9) (ret := (some .int)) (code := ab_k_X9_obeys) (nL := 4) (L0 := [some (mr 0), none, none, none]) (n := 24) rfl rfl rfl rfl rfl rfl rfl rfl rfl ?_
    refine im_g 4 (y := (6, _, _, _)) rfl ⟨(by omega), trivial⟩ ?_
    refine im_call [] rfl rfl (m_small (x := R 22 0) (by omega) hT hb0) rfl rfl rfl (by decide) rfl (by decide) hT (fun v1 w1 hq => ?_)
    obtain ⟨rfl, rfl⟩ := hq
    refine ⟨_, _, MW v R, rfl, rfl, rfl, ?_⟩
    refine im_g 5 (y := (16, _, _, _)) rfl ⟨(by omega), trivial⟩ ?_
    refine im_call [] rfl rfl (m_small (x := R 22 1) (by omega) hT hb1) rfl rfl rfl (by decide) rfl (by decide) hT (fun v1 w1 hq => ?_)
    obtain ⟨rfl, rfl⟩ := hq
    refine ⟨_, _, MW v R, rfl, rfl, rfl, ?_⟩
    refine im_g 3 (y := (24, _, _, _)) rfl trivial ?_
    have h44k : v 44 = 22 := h44
    rw [h44k]
    refine im_sw (tgt := 71) rfl (by decide) (by decide) (Or.inr ⟨_, rfl, by decide⟩) (by decide) ?_
    refine im_g 1 (y := (72, _, _, _)) rfl trivial ?_
    refine im_cM rfl rfl (m_passK (v := v) (R := R) (by omega) hT ht.1 ht.2.1 h34 hd9) rfl hT (fun v1 w1 hq => ?_)
    rcases hq with ⟨e9, rfl, rfl⟩ | ⟨e9, rfl, K', c', rfl, hK2, hfr2⟩
    · refine ⟨v, R, rfl, rfl, ?_⟩
      refine im_r rfl rfl trivial rfl ?_
      have ea : (pl_act lw 1 (sm (R 22 0)) (sm (R 22 1)) 1 lv L) = (-3, lv, L) := by
        show (if L 7 0 < 999 then pl_day lv L else (-3, lv, L)) = _
        rw [if_neg (by omega)]
      rw [ea]
      exact ⟨rfl, v, R, rfl, OBX_0 v R, Or.inl ⟨(show (-3 : Int) < 0 by decide), rfl, rfl, rfl, rfl⟩⟩
    · refine ⟨(pl_U (pl_U v 34 (kp_un v + 1)) 31 c'), (pl_U (pl_U R 14 (kp_keep 1 v R)) 2 K'), rfl, rfl, ?_⟩
      refine im_r rfl rfl trivial rfl ?_
      have ea : (pl_act lw 1 (sm (R 22 0)) (sm (R 22 1)) 1 lv L) = pl_day lv L := by
        show (if L 7 0 < 999 then pl_day lv L else (-3, lv, L)) = _
        rw [if_pos e9]
      rw [ea]
      have hdy := (LOK_day ht.2.1).2.2.2.1
      exact ⟨rfl, _, _, rfl, OBX_R (OBX_R (OBX_v (OBX_v (OBX_0 v R) (by omega) _) (by omega) _) (by omega) _) (by omega) _, Or.inr ⟨hdy, rfl, rfl, hK2, hfr2, rfl⟩⟩
  · refine im_ct_of (own := 9) (ret := (some .int)) (code := ab_k_X9_obeys) (nL := 4) (L0 := [some (mr 0), none, none, none]) (n := 24) rfl rfl rfl rfl rfl rfl rfl rfl rfl ?_
    refine im_g 4 (y := (6, _, _, _)) rfl ⟨(by omega), trivial⟩ ?_
    refine im_call [] rfl rfl (m_small (x := R 22 0) (by omega) hT hb0) rfl rfl rfl (by decide) rfl (by decide) hT (fun v1 w1 hq => ?_)
    obtain ⟨rfl, rfl⟩ := hq
    refine ⟨_, _, MW v R, rfl, rfl, rfl, ?_⟩
    refine im_g 5 (y := (16, _, _, _)) rfl ⟨(by omega), trivial⟩ ?_
    refine im_call [] rfl rfl (m_small (x := R 22 1) (by omega) hT hb1) rfl rfl rfl (by decide) rfl (by decide) hT (fun v1 w1 hq => ?_)
    obtain ⟨rfl, rfl⟩ := hq
    refine ⟨_, _, MW v R, rfl, rfl, rfl, ?_⟩
    refine im_g 3 (y := (24, _, _, _)) rfl trivial ?_
    have h44k : v 44 = 23 := h44
    rw [h44k]
    refine im_sw (tgt := 56) rfl (by decide) (by decide) (Or.inr ⟨_, rfl, by decide⟩) (by decide) ?_
    refine im_g 4 (y := (60, _, _, _)) rfl trivial ?_
    refine im_cM rfl rfl (m_lends (v := v) (R := R) (a := sm (R 22 0)) (b := sm (R 22 1)) (n := 1) (by omega) hT (by omega) (by omega) (by decide) h110 h34 hkp hkc) rfl hT (fun v1 w1 hq => ?_)
    obtain ⟨rfl, rfl⟩ := hq
    refine ⟨(km_lend (sm (R 22 0)) (sm (R 22 1)) 1 v R).2.1, (km_lend (sm (R 22 0)) (sm (R 22 1)) 1 v R).2.2, rfl, rfl, ?_⟩
    refine im_r rfl rfl trivial rfl ?_
    have ea : (pl_act lw 2 (sm (R 22 0)) (sm (R 22 1)) 1 lv L) = ((pl_lend (sm (R 22 0)) (sm (R 22 1)) 1 lv L).1, lv, (pl_lend (sm (R 22 0)) (sm (R 22 1)) 1 lv L).2) := rfl
    rw [ea]
    obtain ⟨r1, r2, r3⟩ := lend_rel (v := v) ht.1 ht.2.1 (sm (R 22 0)) (sm (R 22 1)) 1
    refine ⟨congrArg (fun z => some (Sum.inl z)) r1, _, _, rfl, ?_⟩
    rcases km_lend_st (a := sm (R 22 0)) (b := sm (R 22 1)) (n := 1) (v := v) (R := R) h110.2 hkc with ⟨s1, s2⟩ | ⟨s1, K', s2⟩
    · rw [s2]
      rw [r1] at s1
      exact ⟨OBX_0 v R, Or.inl ⟨s1, rfl, rfl, rfl, rfl⟩⟩
    · rw [s2] at r2 r3 ⊢
      rw [r1] at s1
      exact ⟨OBX_R (OBX_R (OBX_v (OBX_0 v R) (by omega) _) (by omega) _) (by omega) _, Or.inr ⟨s1, rfl, rfl, r2, r3, rfl⟩⟩
  · refine im_ct_of (own := 9) (ret := (some .int)) (code := ab_k_X9_obeys) (nL := 4) (L0 := [some (mr 0), none, none, none]) (n := 24) rfl rfl rfl rfl rfl rfl rfl rfl rfl ?_
    refine im_g 4 (y := (6, _, _, _)) rfl ⟨(by omega), trivial⟩ ?_
    refine im_call [] rfl rfl (m_small (x := R 22 0) (by omega) hT hb0) rfl rfl rfl (by decide) rfl (by decide) hT (fun v1 w1 hq => ?_)
    obtain ⟨rfl, rfl⟩ := hq
    refine ⟨_, _, MW v R, rfl, rfl, rfl, ?_⟩
    refine im_g 5 (y := (16, _, _, _)) rfl ⟨(by omega), trivial⟩ ?_
    refine im_call [] rfl rfl (m_small (x := R 22 1) (by omega) hT hb1) rfl rfl rfl (by decide) rfl (by decide) hT (fun v1 w1 hq => ?_)
    obtain ⟨rfl, rfl⟩ := hq
    refine ⟨_, _, MW v R, rfl, rfl, rfl, ?_⟩
    refine im_g 3 (y := (24, _, _, _)) rfl trivial ?_
    have h44k : v 44 = 25 := h44
    rw [h44k]
    refine im_sw (tgt := 64) rfl (by decide) (by decide) (Or.inr ⟨_, rfl, by decide⟩) (by decide) ?_
    refine im_g 3 (y := (67, _, _, _)) rfl trivial ?_
    refine im_cM rfl rfl (m_grows (v := v) (R := R) (p := sm (R 22 0)) (b := sm (R 22 1)) (by omega) hT (by omega) (by omega) h110 h34 hkp hkc) rfl hT (fun v1 w1 hq => ?_)
    obtain ⟨rfl, rfl⟩ := hq
    refine ⟨(km_grow (sm (R 22 0)) (sm (R 22 1)) v R).2.1, (km_grow (sm (R 22 0)) (sm (R 22 1)) v R).2.2, rfl, rfl, ?_⟩
    refine im_r rfl rfl trivial rfl ?_
    have ea : (pl_act lw 3 (sm (R 22 0)) (sm (R 22 1)) 1 lv L) = ((pl_growBy (sm (R 22 0)) (sm (R 22 1)) lv L).1, lv, (pl_growBy (sm (R 22 0)) (sm (R 22 1)) lv L).2) := rfl
    rw [ea]
    obtain ⟨r1, r2, r3⟩ := grow_rel (v := v) ht.1 ht.2.1 (sm (R 22 0)) (sm (R 22 1))
    refine ⟨congrArg (fun z => some (Sum.inl z)) r1, _, _, rfl, ?_⟩
    rcases km_grow_st (p := sm (R 22 0)) (b := sm (R 22 1)) (v := v) (R := R) with ⟨s1, s2⟩ | ⟨s1, K', s2⟩
    · rw [s2]
      rw [r1] at s1
      exact ⟨OBX_0 v R, Or.inl ⟨s1, rfl, rfl, rfl, rfl⟩⟩
    · rw [s2] at r2 r3 ⊢
      rw [r1] at s1
      exact ⟨OBX_R (OBX_R (OBX_v (OBX_0 v R) (by omega) _) (by omega) _) (by omega) _, Or.inr ⟨s1, rfl, rfl, r2, r3, rfl⟩⟩
end Or1
/-- a run of orders: how the reference stands -/
def RNS (v0 : Nat → Int) (R0 : Nat → Int → Int) (v : Nat → Int) (R : Nat → Int → Int) : Prop := (∀ j, j ≠ 22 → j ≠ 23 → j ≠ 24 → j ≠ 25 → j ≠ 27 → j ≠ 28 → j ≠ 31 → j ≠ 34 → j ≠ 42 → j ≠ 43 → j ≠ 44 → j ≠ 45 → j ≠ 46 → v j = v0 j) ∧ (∀ j, j ≠ 2 → j ≠ 12 → j ≠ 13 → j ≠ 14 → j ≠ 22 → R j = R0 j) ∧ KFr (R0 2) (R 2) ∧ ∀ i, 0 ≤ i → i < 2 → -1000000000 ≤ R 22 i ∧ R 22 i ≤ 1000000000
/-- as the class's orders stand -/
def RNZ (n0 f0 : Int) (b : Int) (v : Nat → Int) (R : Nat → Int → Int) (z : ru_S) : Prop := KR (R 2) z.1 z.2.1 ∧ LOK z.1 z.2.1 ∧ z.2.1 7 0 ≤ 999 ∧ z.1 0 = n0 ∧ z.1 5 = f0 ∧ v 28 = z.2.2.1.1 ∧ v 27 = z.2.2.1.2 ∧ (-1 ≤ z.2.2.1.1 ∧ z.2.2.1.1 ≤ 98) ∧ (0 ≤ z.2.2.1.2 ∧ z.2.2.1.2 ≤ b) ∧ PSR n0 (v 34) (R 14) z.2.2.2.1.1 z.2.2.2.1.2 z.2.2.2.2
theorem RNS_t {v0 : Nat → Int} {R0 : Nat → Int → Int} {v : Nat → Int} {R : Nat → Int → Int} {v' : Nat → Int} {R' : Nat → Int → Int} (h : RNS v0 R0 v R) (hq : QO v R v' R') (h22 : ∀ i, 0 ≤ i → i < 2 → -1000000000 ≤ R' 22 i ∧ R' 22 i ≤ 1000000000) : RNS v0 R0 v' R' := by
  obtain ⟨h1, h2, h3, h4⟩ := h
  refine ⟨fun j q1 q2 q3 q4 q5 q6 q7 q8 q9 q10 q11 q12 q13 => (hq.1 j q1 q2 q3 q4 q10 q11 q12 q13).trans (h1 j q1 q2 q3 q4 q5 q6 q7 q8 q9 q10 q11 q12 q13), fun j q1 q2 q3 q4 q5 => (hq.2 j q2 q3 q5).trans (h2 j q1 q2 q3 q4 q5), ?_, h22⟩
  intro i hi
  rw [hq.2 2 (by decide) (by decide) (by decide)]
  exact h3 i hi
theorem RNS_o {v0 : Nat → Int} {R0 : Nat → Int → Int} {v : Nat → Int} {R : Nat → Int → Int} {v' : Nat → Int} {R' : Nat → Int → Int} (h : RNS v0 R0 v R) (hq : OBX v R v' R') (hf : KFr (R 2) (R' 2)) : RNS v0 R0 v' R' := by
  obtain ⟨h1, h2, h3, h4⟩ := h
  refine ⟨fun j q1 q2 q3 q4 q5 q6 q7 q8 q9 q10 q11 q12 q13 => (hq.1 j q1 q2 q3 q4 q6 q7 q8).trans (h1 j q1 q2 q3 q4 q5 q6 q7 q8 q9 q10 q11 q12 q13), fun j q1 q2 q3 q4 q5 => (hq.2 j q1 q2 q4).trans (h2 j q1 q2 q3 q4 q5), fun i hi => (hf i hi).trans (h3 i hi), ?_⟩
  rw [hq.2 22 (by decide) (by decide) (by decide)]
  exact h4
theorem RNS_v {v0 : Nat → Int} {R0 : Nat → Int → Int} {v : Nat → Int} {R : Nat → Int → Int} (h : RNS v0 R0 v R) {k : Nat} (hk : k = 27 ∨ k = 28 ∨ k = 42) (x : Int) : RNS v0 R0 (pl_U v k x) R := by
  obtain ⟨h1, h2, h3, h4⟩ := h
  refine ⟨fun j q1 q2 q3 q4 q5 q6 q7 q8 q9 q10 q11 q12 q13 => ?_, h2, h3, h4⟩
  have e : j ≠ k := by omega
  exact (if_neg e).trans (h1 j q1 q2 q3 q4 q5 q6 q7 q8 q9 q10 q11 q12 q13)
theorem RNZ_q {n0 f0 b : Int} {v : Nat → Int} {R : Nat → Int → Int} {v' : Nat → Int} {R' : Nat → Int → Int} {z : ru_S} (h : RNZ n0 f0 b v R z) (hq : QO v R v' R') : RNZ n0 f0 b v' R' z := by
  obtain ⟨h1, h2, h3, h4, h5, h6, h7, h8, h9, h10⟩ := h
  unfold RNZ
  rw [hq.2 2 (by decide) (by decide) (by decide), hq.2 14 (by decide) (by decide) (by decide), hq.1 28 (by decide) (by decide) (by decide) (by decide) (by decide) (by decide) (by decide) (by decide), hq.1 27 (by decide) (by decide) (by decide) (by decide) (by decide) (by decide) (by decide) (by decide), hq.1 34 (by decide) (by decide) (by decide) (by decide) (by decide) (by decide) (by decide) (by decide)]
  exact ⟨h1, h2, h3, h4, h5, h6, h7, h8, h9, h10⟩
theorem RNZ_b {n0 f0 b b' : Int} {v : Nat → Int} {R : Nat → Int → Int} {z : ru_S} (h : RNZ n0 f0 b v R z) (hb : b ≤ b') : RNZ n0 f0 b' v R z := by
  obtain ⟨h1, h2, h3, h4, h5, h6, h7, h8, h9, h10⟩ := h
  exact ⟨h1, h2, h3, h4, h5, h6, h7, h8, ⟨h9.1, by omega⟩, h10⟩
theorem d_order_fr {R R' : Nat → Int → Int} (h : KFr (R 2) (R' 2)) {N i : Int} (hi : 0 ≤ i) (l : Int) (n : Nat) : d_order (KCo N (R' 2)) (EX R') n i l = d_order (KCo N (R 2)) (EX R) n i l := by
  refine d_order_eq (i0 := 0) (fun k hk => ?_) (fun k hk => ?_) n l hi
  · unfold KCo
    rw [h (121 + k) (by omega)]
  · exact h (2921 + k) (by omega)
section Or2
variable {ro : ab_R} {T : List im_T} {d : Nat} {lw : Option im_T}
set_option maxHeartbeats 8000000 in
theorem m_runs (hd : 88 ≤ d) (hT : T.length < 1000) {v0 : Nat → Int} {R0 : Nat → Int → Int} {n0 f0 b : Int} (hkt : KT (R0 2)) (hlw : KLW (R0 2) f0 lw) (h30 : v0 30 = 0) (hb : 0 ≤ b ∧ b ≤ 1000) {v : Nat → Int} {R : Nat → Int → Int} {z : ru_S} (hS : RNS v0 R0 v R) (hZ : RNZ n0 f0 b v R z) {N i l jz lz K t : Int} {m1 m2 m3 : dM} {n : Nat} (hN : N ≤ 2800) (hi : 0 ≤ i ∧ i < N) (h42 : v 42 = i) (hK : 0 ≤ K ∧ K ≤ 3) (ht20 : 1 ≤ t ∧ t ≤ 20) (hdn : d_order (KCo N (R0 2)) (EX R0) n i l = some (.inr (jz, lz, K, t, m1, m2, m3))) (hjz : 0 ≤ jz ∧ jz ≤ 2800) : im_ct ro T d 233 [mr 0, .inl N] (MW v R) (fun r w => r = some (.inl (if (rn_t lw ((K, t, m1, m2, m3) : dC) t.toNat z).1 = true then 0 else 1)) ∧ ∃ v1 R1, w = MW v1 R1 ∧ RNS v0 R0 v1 R1 ∧ ((rn_t lw ((K, t, m1, m2, m3) : dC) t.toNat z).1 = false → v1 42 = jz + 1 ∧ RNZ n0 f0 (b + t) v1 R1 (rn_t lw ((K, t, m1, m2, m3) : dC) t.toNat z).2)) := by
  obtain ⟨d, rfl⟩ : ∃ e, d = e + 1 := ⟨d - 1, by omega⟩
  refine im_ct_of (own := 9) (ret := (some .boolean)) (code := ab_k_X9_runs) (nL := 5) (L0 := [some (mr 0), some (.inl N), none, none, none]) (n := 24) rfl rfl rfl rfl rfl rfl rfl rfl rfl ?_
  refine im_g 3 (y := (3, _, _, _)) rfl trivial ?_
  refine im_cM rfl rfl (m_goes (v := v) (R := R) (lv := z.1) (L := z.2.1) (lw := lw) (i := i) (live := 0) (by omega) hT (show TLS v R z.1 z.2.1 lw from ⟨hZ.1, hZ.2.1, (by have t9 := hZ.2.2.1; omega), KT_fr hkt hS.2.2.1, (by rw [hZ.2.2.2.2.1]; exact KLW_fr hlw hS.2.2.1), Or.inl ((hS.1 30 (by decide) (by decide) (by decide) (by decide) (by decide) (by decide) (by decide) (by decide) (by decide) (by decide) (by decide) (by decide) (by decide)).trans h30)⟩) ((hS.1 30 (by decide) (by decide) (by decide) (by decide) (by decide) (by decide) (by decide) (by decide) (by decide) (by decide) (by decide) (by decide) (by decide)).trans h30) (by rw [hZ.2.2.2.2.2.2.1]; have t9 := hZ.2.2.2.2.2.2.2.2.1; omega) (by rw [hZ.2.2.2.2.2.1]; exact hZ.2.2.2.2.2.2.2.1) hS.2.2.2 hN hi h42 (by decide) ((d_order_fr (R := R0) (R' := R) hS.2.2.1 hi.1 _ _).trans hdn)) rfl hT (fun v1 w1 hq => ?_)
  obtain ⟨rfl, va, Ra, rfl, hQa, g22a, g43a, g44a, gba, gla⟩ := hq
  refine ⟨va, Ra, rfl, rfl, ?_⟩
  refine im_g 8 (y := (19, _, _, _)) rfl trivial ?_
  rw [g43a, g22a]
  have key : ∀ (jj k : Nat), (k : Int) + jj = t → ∀ (vx : Nat → Int) (Rx : Nat → Int → Int) (zx : ru_S), RNS v0 R0 vx Rx → RNZ n0 f0 (b + k) vx Rx zx → vx 42 = i → rn_t lw ((K, t, m1, m2, m3) : dC) t.toNat z = rn_t lw ((K, t, m1, m2, m3) : dC) jj zx → im_wp ro (ab_Ev ro ab_codes d) 9 (some .boolean) ab_k_X9_runs 24 T (fun r w => r = some (.inl (if (rn_t lw ((K, t, m1, m2, m3) : dC) t.toNat z).1 = true then 0 else 1)) ∧ ∃ v1 R1, w = MW v1 R1 ∧ RNS v0 R0 v1 R1 ∧ ((rn_t lw ((K, t, m1, m2, m3) : dC) t.toNat z).1 = false → v1 42 = jz + 1 ∧ RNZ n0 f0 (b + t) v1 R1 (rn_t lw ((K, t, m1, m2, m3) : dC) t.toNat z).2)) (19, [some (mr 0), some (.inl N), some (.inl t), some (.inl (jz + 1)), some (.inl (k : Int))], [], MW vx Rx) := by
    intro jj
    induction jj with
    | zero =>
      intro k hk vx Rx zx hS hZ h42 ez
      refine im_g 2 (y := (22, _, _, _)) rfl trivial ?_
      refine im_bT rfl rfl ⟨(by omega), (by omega), trivial⟩ (by omega) ?_
      refine im_g 4 (y := (79, _, _, _)) rfl trivial ?_
      refine im_r rfl rfl ⟨(by decide), trivial⟩ rfl ?_
      have e0 : rn_t lw (K, t, m1, m2, m3) t.toNat z = (false, zx) := ez
      rw [e0]
      refine ⟨rfl, (pl_U vx 42 (jz + 1)), Rx, rfl, RNS_v hS (by omega) _, fun _ => ⟨rfl, ?_⟩⟩
      rw [show (k : Int) = t by omega] at hZ
      exact hZ
    | succ jj ih =>
      intro k hk vx Rx zx hS hZ h42 ez
      have es : rn_t lw ((K, t, m1, m2, m3) : dC) (jj + 1) zx = if (rn_1 lw ((K, t, m1, m2, m3) : dC) zx).1 = true then (true, (rn_1 lw ((K, t, m1, m2, m3) : dC) zx).2) else rn_t lw ((K, t, m1, m2, m3) : dC) jj (rn_1 lw ((K, t, m1, m2, m3) : dC) zx).2 := rfl
      refine im_g 2 (y := (22, _, _, _)) rfl trivial ?_
      refine im_bF rfl rfl ⟨(by omega), (by omega), trivial⟩ (by omega) ?_
      refine im_g 3 (y := (28, _, _, _)) rfl trivial ?_
      refine im_cM rfl rfl (m_goes (v := vx) (R := Rx) (lv := zx.1) (L := zx.2.1) (lw := lw) (i := i) (live := 1) (by omega) hT (show TLS vx Rx zx.1 zx.2.1 lw from ⟨hZ.1, hZ.2.1, (by have t9 := hZ.2.2.1; omega), KT_fr hkt hS.2.2.1, (by rw [hZ.2.2.2.2.1]; exact KLW_fr hlw hS.2.2.1), Or.inl ((hS.1 30 (by decide) (by decide) (by decide) (by decide) (by decide) (by decide) (by decide) (by decide) (by decide) (by decide) (by decide) (by decide) (by decide)).trans h30)⟩) ((hS.1 30 (by decide) (by decide) (by decide) (by decide) (by decide) (by decide) (by decide) (by decide) (by decide) (by decide) (by decide) (by decide) (by decide)).trans h30) (by rw [hZ.2.2.2.2.2.2.1]; have t9 := hZ.2.2.2.2.2.2.2.2.1; omega) (by rw [hZ.2.2.2.2.2.1]; exact hZ.2.2.2.2.2.2.2.1) hS.2.2.2 hN hi h42 (by decide) ((d_order_fr (R := R0) (R' := Rx) hS.2.2.1 hi.1 _ _).trans hdn)) rfl hT (fun v1 w1 hq => ?_)
      obtain ⟨rfl, v1, R1, rfl, hQ1, g221, g431, g441, gb1, gl1⟩ := hq
      refine ⟨v1, R1, rfl, rfl, ?_⟩
      have hS1 := RNS_t hS hQ1 gb1
      have hZ1 := RNZ_q hZ hQ1
      obtain ⟨t46, w46, t45, w45, s45⟩ := gl1 rfl
      rw [hZ.2.2.2.2.2.1, hZ.2.2.2.2.2.2.1] at w46 w45 s45
      have h42b : v1 42 = i := (hQ1.1 42 (by decide) (by decide) (by decide) (by decide) (by decide) (by decide) (by decide) (by decide)).trans h42
      refine im_g 2 (y := (35, _, _, _)) rfl trivial ?_
      refine im_b rfl rfl ⟨(by show im_ir (v1 46); omega), trivial⟩ (fun br1 => ?_) (fun br1 => ?_)
      · refine im_g 2 (y := (45, _, _, _)) rfl trivial ?_
        refine im_b rfl rfl ⟨(by show im_ir (v1 45); omega), trivial⟩ (fun br2 => ?_) (fun br2 => ?_)
        · refine im_g 1 (y := (56, _, _, _)) rfl trivial ?_
          refine im_r rfl rfl ⟨(by decide), trivial⟩ rfl ?_
          have hw : tw (m3 (fw lw 1023 zx.2.2.1.1 zx.2.2.1.2 zx.1 zx.2.1)) := w46.mp (by omega)
          have hs : ¬ ((d_enc (m1 (fw lw 1023 zx.2.2.1.1 zx.2.2.1.2 zx.1 zx.2.1))).2 = 0 ∧ (d_enc (m2 (fw lw 1023 zx.2.2.1.1 zx.2.2.1.2 zx.1 zx.2.1))).2 = 0) := fun q => by have t9 := w45.mpr q; omega
          have e1 : rn_1 lw ((K, t, m1, m2, m3) : dC) zx = (true, zx) := by
            unfold rn_1
            exact (if_neg (fun q => q hw)).trans (if_pos hs)
          rw [e1] at es
          rw [ez, es, if_pos rfl]
          exact ⟨rfl, _, _, rfl, hS1, fun q => nomatch q⟩
        · refine im_g 1 (y := (49, _, _, _)) rfl trivial ?_
          refine im_cM rfl rfl (m_obeys (v := v1) (R := R1) (lv := zx.1) (L := zx.2.1) (lw := lw) (by omega) hT (show TLS v1 R1 zx.1 zx.2.1 lw from ⟨hZ1.1, hZ1.2.1, (by have t9 := hZ1.2.2.1; omega), KT_fr hkt hS1.2.2.1, (by rw [hZ1.2.2.2.2.1]; exact KLW_fr hlw hS1.2.2.1), Or.inl ((hS1.1 30 (by decide) (by decide) (by decide) (by decide) (by decide) (by decide) (by decide) (by decide) (by decide) (by decide) (by decide) (by decide) (by decide)).trans h30)⟩) ((hS1.1 30 (by decide) (by decide) (by decide) (by decide) (by decide) (by decide) (by decide) (by decide) (by decide) (by decide) (by decide) (by decide) (by decide)).trans h30) hZ1.2.2.1 (by have t9 := hZ1.2.2.2.2.2.2.2.2.2.1; omega) gb1 hK g441) rfl hT (fun v1 w1 hq => ?_)
          obtain ⟨rfl, v2, R2, rfl, hO, hcase⟩ := hq
          refine ⟨v2, R2, rfl, rfl, ?_⟩
          have s9 := s45 (by omega)
          have ea : pl_act lw K (sm (R1 22 0)) (sm (R1 22 1)) 1 zx.1 zx.2.1 = (pl_act lw K (d_enc (m1 (fw lw 1023 zx.2.2.1.1 zx.2.2.1.2 zx.1 zx.2.1))).1 (d_enc (m2 (fw lw 1023 zx.2.2.1.1 zx.2.2.1.2 zx.1 zx.2.1))).1 1 zx.1 zx.2.1) := (sm_act lw K (R1 22 0) (R1 22 1) zx.1 zx.2.1).trans (act_arg s9.1 (fun q1 q2 => s9.2 (by omega)))
          rw [ea] at hcase ⊢
          have hab := pl_act_b lw hZ.2.1 K (d_enc (m1 (fw lw 1023 zx.2.2.1.1 zx.2.2.1.2 zx.1 zx.2.1))).1 (d_enc (m2 (fw lw 1023 zx.2.2.1.1 zx.2.2.1.2 zx.1 zx.2.1))).1
          have hw : tw (m3 (fw lw 1023 zx.2.2.1.1 zx.2.2.1.2 zx.1 zx.2.1)) := w46.mp (by omega)
          have hs : (d_enc (m1 (fw lw 1023 zx.2.2.1.1 zx.2.2.1.2 zx.1 zx.2.1))).2 = 0 ∧ (d_enc (m2 (fw lw 1023 zx.2.2.1.1 zx.2.2.1.2 zx.1 zx.2.1))).2 = 0 := w45.mp (by omega)
          refine im_b rfl rfl ⟨(by first | (constructor <;> omega) | omega), trivial⟩ (fun br3 => ?_) (fun br3 => ?_)
          · refine im_g 8 (y := (19, _, _, _)) rfl trivial ?_
            have t9 : ¬ ((pl_act lw K (d_enc (m1 (fw lw 1023 zx.2.2.1.1 zx.2.2.1.2 zx.1 zx.2.1))).1 (d_enc (m2 (fw lw 1023 zx.2.2.1.1 zx.2.2.1.2 zx.1 zx.2.1))).1 1 zx.1 zx.2.1)).1 < 0 := by omega
            rcases hcase with ⟨q, _⟩ | ⟨q0, h34, h14, hK2, hf2, h28⟩
            · exact absurd q t9
            · have e1 : rn_1 lw ((K, t, m1, m2, m3) : dC) zx = (false, (pl_act lw K (d_enc (m1 (fw lw 1023 zx.2.2.1.1 zx.2.2.1.2 zx.1 zx.2.1))).1 (d_enc (m2 (fw lw 1023 zx.2.2.1.1 zx.2.2.1.2 zx.1 zx.2.1))).1 1 zx.1 zx.2.1).2.1, (pl_act lw K (d_enc (m1 (fw lw 1023 zx.2.2.1.1 zx.2.2.1.2 zx.1 zx.2.1))).1 (d_enc (m2 (fw lw 1023 zx.2.2.1.1 zx.2.2.1.2 zx.1 zx.2.1))).1 1 zx.1 zx.2.1).2.2, (if K = 0 then (pl_act lw K (d_enc (m1 (fw lw 1023 zx.2.2.1.1 zx.2.2.1.2 zx.1 zx.2.1))).1 (d_enc (m2 (fw lw 1023 zx.2.2.1.1 zx.2.2.1.2 zx.1 zx.2.1))).1 1 zx.1 zx.2.1).1 else zx.2.2.1.1, zx.2.2.1.2 + 1), pt_keep zx.2.2.2.1.1 zx.2.2.2.1.2, pt_note (pt_at zx.2.2.2.1.1 zx.2.2.2.1.2) K zx.1 zx.2.1 zx.2.2.2.2) := (if_neg (fun q => q hw)).trans ((if_neg (fun q => q hs)).trans (if_neg t9))
              rw [e1] at es
              rw [if_neg (show ¬ false = true by decide)] at es
              have hS2 := RNS_v (RNS_o hS1 hO hf2) (k := 27) (by omega) (v2 27 + 1)
              have h27 : v2 27 = zx.2.2.1.2 := (hO.1 27 (by decide) (by decide) (by decide) (by decide) (by decide) (by decide) (by decide)).trans hZ1.2.2.2.2.2.2.1
              have h42c : v2 42 = i := (hO.1 42 (by decide) (by decide) (by decide) (by decide) (by decide) (by decide) (by decide)).trans h42b
              obtain ⟨z1, z2, z3, z4, z5, z6, z7, z8, z9, z10⟩ := hZ1
              have a7 := pl_act_7 lw z2 z3 K (d_enc (m1 (fw lw 1023 zx.2.2.1.1 zx.2.2.1.2 zx.1 zx.2.1))).1 (d_enc (m2 (fw lw 1023 zx.2.2.1.1 zx.2.2.1.2 zx.1 zx.2.1))).1 1
              have ps := PSR_keep z1 z2 z3 hK (v := v1) (R := R1) (f := zx.2.2.2.1.1) (k := zx.2.2.2.1.2) (rw_ := zx.2.2.2.2) (by rw [z4]; exact z10) rfl
              refine ih (k + 1) (by omega) (pl_U v2 27 (v2 27 + 1)) R2 _ hS2 ⟨hK2, LOK_act lw z2 K _ _ 1, a7.1, (pl_act_0 lw z2 K _ _ 1).trans z4, a7.2.trans z5, ?_, ?_, ?_, ?_, ?_⟩ h42c (ez.trans es)
              · show v2 28 = if K = 0 then _ else zx.2.2.1.1
                rw [h28, z6]
              · show v2 27 + 1 = zx.2.2.1.2 + 1
                rw [h27]
              · dsimp only
                split
                · rename_i k0; have t10 := hab.2 k0; omega
                · exact z8
              · dsimp only
                omega
              · show PSR n0 (v2 34) (R2 14) _ _ _
                rw [h34, h14, ← z4]
                exact ps
          · refine im_g 1 (y := (56, _, _, _)) rfl trivial ?_
            refine im_r rfl rfl ⟨(by decide), trivial⟩ rfl ?_
            have e1 : (rn_1 lw ((K, t, m1, m2, m3) : dC) zx).1 = true := by
              unfold rn_1
              have t9 : ((pl_act lw K (d_enc (m1 (fw lw 1023 zx.2.2.1.1 zx.2.2.1.2 zx.1 zx.2.1))).1 (d_enc (m2 (fw lw 1023 zx.2.2.1.1 zx.2.2.1.2 zx.1 zx.2.1))).1 1 zx.1 zx.2.1)).1 < 0 := by omega
              exact congrArg Prod.fst ((if_neg (fun q => q hw)).trans ((if_neg (fun q => q hs)).trans (if_pos t9)))
            rw [if_pos e1] at es
            rw [ez, es]
            have hfr : KFr (R1 2) (R2 2) := by rcases hcase with ⟨_, q, _⟩ | ⟨q, _⟩; intro i2 _; rw [q]; omega
            exact ⟨rfl, _, _, rfl, RNS_o hS1 hO hfr, fun q => nomatch q⟩
      · refine im_g 3 (y := (19, _, _, _)) rfl trivial ?_
        have hw : ¬ tw (m3 (fw lw 1023 zx.2.2.1.1 zx.2.2.1.2 zx.1 zx.2.1)) := fun q => by have t9 := w46.mpr q; omega
        have e1 : rn_1 lw ((K, t, m1, m2, m3) : dC) zx = (false, zx) := if_pos (fun q => hw q)
        rw [e1] at es
        rw [if_neg (show ¬ false = true by decide)] at es
        exact ih (k + 1) (by omega) v1 R1 zx hS1 (RNZ_b hZ1 (by omega)) h42b (ez.trans es)
  exact key t.toNat 0 (by omega) va Ra z (RNS_t hS hQa gba) (RNZ_b (RNZ_q hZ hQa) (by omega)) ((hQa.1 42 (by decide) (by decide) (by decide) (by decide) (by decide) (by decide) (by decide) (by decide)).trans h42) rfl
end Or2
