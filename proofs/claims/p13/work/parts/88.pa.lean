/-! the reference: the acts as they are called; odds -/
/-- kept by an act -/
def PBX (v : Nat → Int) (R : Nat → Int → Int) (v' : Nat → Int) (R' : Nat → Int → Int) : Prop := (∀ j, j ≠ 0 → j ≠ 22 → j ≠ 23 → j ≠ 24 → j ≠ 25 → j ≠ 31 → j ≠ 34 → v' j = v j) ∧ ∀ j, j ≠ 1 → j ≠ 2 → j ≠ 12 → j ≠ 14 → R' j = R j
theorem PBX_0 (v : Nat → Int) (R : Nat → Int → Int) : PBX v R v R := ⟨fun _ _ _ _ _ _ _ _ => rfl, fun _ _ _ _ _ => rfl⟩
theorem PBX_v {v : Nat → Int} {R : Nat → Int → Int} {v' : Nat → Int} {R' : Nat → Int → Int} (h : PBX v R v' R') {k : Nat} (hk : k = 0 ∨ k = 22 ∨ k = 23 ∨ k = 24 ∨ k = 25 ∨ k = 31 ∨ k = 34) (x : Int) : PBX v R (pl_U v' k x) R' := by
  refine ⟨fun j q1 q2 q3 q4 q5 q6 q7 => ?_, h.2⟩
  have e : j ≠ k := by omega
  exact (if_neg e).trans (h.1 j q1 q2 q3 q4 q5 q6 q7)
theorem PBX_R {v : Nat → Int} {R : Nat → Int → Int} {v' : Nat → Int} {R' : Nat → Int → Int} (h : PBX v R v' R') {k : Nat} (hk : k = 1 ∨ k = 2 ∨ k = 12 ∨ k = 14) (f : Int → Int) : PBX v R v' (pl_U R' k f) := by
  refine ⟨h.1, fun j q1 q2 q3 q4 => ?_⟩
  have e : j ≠ k := by omega
  exact (if_neg e).trans (h.2 j q1 q2 q3 q4)
theorem PBX_ev {v : Nat → Int} {R : Nat → Int → Int} {v' : Nat → Int} {R' : Nat → Int → Int} (h : PBX v R v' R') (g ge b o : Int) (a : Int → Int) : PBX v R (EV4 v' g ge b o) (pl_U R' 12 a) := PBX_R (PBX_v (PBX_v (PBX_v (PBX_v h (by omega) g) (by omega) ge) (by omega) b) (by omega) o) (by omega) a
theorem PBX_g {v : Nat → Int} {R : Nat → Int → Int} {v' : Nat → Int} {R' : Nat → Int → Int} (h : PBX v R v' R') (x : Int) : PBX v R (pl_U v' 0 (if x < 0 then x else 0)) (if x < 0 then kp_ref x R' else R') := by
  have h2 := PBX_v h (k := 0) (by omega) (if x < 0 then x else 0)
  split
  · rename_i c
    rw [if_pos c] at h2
    exact PBX_R h2 (by omega) _
  · rename_i c
    rw [if_neg c] at h2
    exact h2
theorem pl_lend_bd {v : Nat → Int} {R : Nat → Int → Int} (h : LOK v R) (a b n : Int) : -6 ≤ (pl_lend a b n v R).1 ∧ (pl_lend a b n v R).1 ≤ 100000 := by
  have ca := lk_cnt h a
  have cb := lk_cnt h b
  unfold pl_lend
  split
  · exact ⟨by dsimp only; omega, by dsimp only; omega⟩
  split
  · exact ⟨by dsimp only; omega, by dsimp only; omega⟩
  split
  · exact ⟨by dsimp only; omega, by dsimp only; omega⟩
  · dsimp only
    unfold im_up
    split
    · split <;> omega
    · rw [if_pos rfl]
      omega
theorem pl_grow_bd {v : Nat → Int} {R : Nat → Int → Int} (h : LOK v R) (p b : Int) : -6 ≤ (pl_growBy p b v R).1 ∧ (pl_growBy p b v R).1 ≤ 100000 := by
  have ca := lk_cnt h p
  unfold pl_growBy
  split
  · exact ⟨by dsimp only; omega, by dsimp only; omega⟩
  split
  · exact ⟨by dsimp only; omega, by dsimp only; omega⟩
  split
  · exact ⟨by dsimp only; omega, by dsimp only; omega⟩
  · exact ⟨by dsimp only; omega, by dsimp only; omega⟩
section Pa
variable {ro : ab_R} {T : List im_T} {d : Nat} {v : Nat → Int} {R : Nat → Int → Int} {lv : Nat → Int} {L : Nat → Int → Int} {lw : Option im_T}
theorem pa_end {v : Nat → Int} {R : Nat → Int → Int} {lv : Nat → Int} {L : Nat → Int → Int} {K x : Int} {A : Int × (Nat → Int) × (Nat → Int → Int)} {v1 : Nat → Int} {R1 : Nat → Int → Int} (hA : A.1 = x) (hp : PBX v R v1 R1) (h1 : R1 1 = R 1) (h : ((A.1 < 0 ∧ R1 2 = R 2 ∧ v1 34 = v 34 ∧ R1 14 = R 14) ∨ (0 ≤ A.1 ∧ v1 34 = kp_un v + 1 ∧ R1 14 = kp_keep K v R ∧ KR (R1 2) A.2.1 A.2.2 ∧ KFr (R 2) (R1 2)))) : ∃ v2 R2, MW (pl_U v1 0 (if x < 0 then x else 0)) (if x < 0 then kp_ref x R1 else R1) = MW v2 R2 ∧ PBX v R v2 R2 ∧ v2 0 = (if A.1 < 0 then A.1 else 0) ∧ R2 1 = (if A.1 < 0 then kp_ref A.1 R 1 else R 1) ∧ ((A.1 < 0 ∧ R2 2 = R 2 ∧ v2 34 = v 34 ∧ R2 14 = R 14) ∨ (0 ≤ A.1 ∧ v2 34 = kp_un v + 1 ∧ R2 14 = kp_keep K v R ∧ KR (R2 2) A.2.1 A.2.2 ∧ KFr (R 2) (R2 2))) := by
  subst hA
  refine ⟨_, _, rfl, PBX_g hp _, rfl, ?_, ?_⟩
  · split
    · show im_up (R1 1) _ (R1 1 _ + 1) = im_up (R 1) _ (R 1 _ + 1)
      rw [h1]
    · exact h1
  · rcases h with ⟨a, b, c, e⟩ | ⟨a, b, c, e⟩
    · rw [if_pos a]
      exact Or.inl ⟨a, b, c, e⟩
    · rw [if_neg (by omega)]
      exact Or.inr ⟨a, b, c, e⟩
set_option maxHeartbeats 8000000 in
theorem m_reckon (hd : 85 ≤ d) (hT : T.length < 1000) (ht : TLS v R lv L lw) (h34 : 0 ≤ v 34 ∧ v 34 ≤ 16) (h30 : v 30 = 0) {p : Int} (hp : im_ir p) : im_ct ro T d 203 [mr 0, .inl p] (MW v R) (fun r w => r = some (.inl (pl_act lw 0 p 0 0 lv L).1) ∧ ∃ v1 R1, w = MW v1 R1 ∧ PBX v R v1 R1 ∧ v1 0 = (if (pl_act lw 0 p 0 0 lv L).1 < 0 then (pl_act lw 0 p 0 0 lv L).1 else 0) ∧ R1 1 = (if (pl_act lw 0 p 0 0 lv L).1 < 0 then kp_ref (pl_act lw 0 p 0 0 lv L).1 R 1 else R 1) ∧ (((pl_act lw 0 p 0 0 lv L).1 < 0 ∧ R1 2 = R 2 ∧ v1 34 = v 34 ∧ R1 14 = R 14) ∨ (0 ≤ (pl_act lw 0 p 0 0 lv L).1 ∧ v1 34 = kp_un v + 1 ∧ R1 14 = kp_keep 0 v R ∧ KR (R1 2) (pl_act lw 0 p 0 0 lv L).2.1 (pl_act lw 0 p 0 0 lv L).2.2 ∧ KFr (R 2) (R1 2)))) := by
  obtain ⟨d, rfl⟩ : ∃ e, d = e + 1 := ⟨d - 1, by omega⟩
  have hpar := lk_par ht.2.1
  have hkp : ∀ p, 0 ≤ p → p < 10 → -1 ≤ R 2 (71 + p) ∧ R 2 (71 + p) ≤ 9 := fun p q1 q2 => (KR_p ht.1 ht.2.1 p q1 q2).1
  have hkc : ∀ p, 0 ≤ p → p < 10 → 0 ≤ R 2 (0 + p) ∧ R 2 (0 + p) ≤ 999 := fun p q1 q2 => (KR_p ht.1 ht.2.1 p q1 q2).2.2.1
  have h110 : 0 ≤ R 2 110 ∧ R 2 110 ≤ 10 := by rw [ht.1.1.1]; exact hpar
  refine im_ct_of (own := 9) (ret := (some .int)) (code := ab_k_X9_reckon) (nL := 2) (L0 := [some (mr 0), some (.inl p)]) (n := 24) rfl rfl rfl rfl rfl rfl rfl rfl rfl ?_
  refine im_g 3 (y := (3, _, _, _)) rfl trivial ?_
  refine im_cM rfl rfl (m_reckK (v := v) (R := R) (lv := lv) (L := L) (lw := lw) (p := p) (by omega) hT ht h30 h34 hp) rfl hT (fun v1 w1 hq => ?_)
  have ea : (pl_act lw 0 p 0 0 lv L) = pl_send lw p lv L := rfl
  have hsb := pl_send_b lw p lv L
  rcases hq with ⟨e9, rfl, g, ge, b, o, a, rfl⟩ | ⟨e9, rfl, g, ge, b, o, a, K', rfl, hK2, hfr2⟩
  · refine ⟨(EV4 v g ge b o), (pl_U R 12 a), rfl, rfl, ?_⟩
    refine im_cM rfl rfl (m_goodOr (v := (EV4 v g ge b o)) (R := (pl_U R 12 a)) (x := (pl_send lw p lv L).1) (by omega) hT (by omega)) rfl hT (fun v1 w1 hq => ?_)
    obtain ⟨rfl, rfl⟩ := hq
    refine ⟨(pl_U (EV4 v g ge b o) 0 (if (pl_send lw p lv L).1 < 0 then (pl_send lw p lv L).1 else 0)), (if (pl_send lw p lv L).1 < 0 then kp_ref (pl_send lw p lv L).1 (pl_U R 12 a) else (pl_U R 12 a)), rfl, rfl, ?_⟩
    refine im_r rfl rfl trivial rfl ?_
    exact ⟨rfl, pa_end (lv := lv) (L := L) (K := 0) (A := (pl_act lw 0 p 0 0 lv L)) rfl (PBX_ev (PBX_0 v R) g ge b o a) rfl (Or.inl ⟨e9, rfl, rfl, rfl⟩)⟩
  · refine ⟨(EV4 (pl_U v 34 (kp_un v + 1)) g ge b o), (pl_U (pl_U (pl_U R 14 (kp_keep 0 v R)) 12 a) 2 K'), rfl, rfl, ?_⟩
    refine im_cM rfl rfl (m_goodOr (v := (EV4 (pl_U v 34 (kp_un v + 1)) g ge b o)) (R := (pl_U (pl_U (pl_U R 14 (kp_keep 0 v R)) 12 a) 2 K')) (x := (pl_send lw p lv L).1) (by omega) hT (by omega)) rfl hT (fun v1 w1 hq => ?_)
    obtain ⟨rfl, rfl⟩ := hq
    refine ⟨(pl_U (EV4 (pl_U v 34 (kp_un v + 1)) g ge b o) 0 (if (pl_send lw p lv L).1 < 0 then (pl_send lw p lv L).1 else 0)), (if (pl_send lw p lv L).1 < 0 then kp_ref (pl_send lw p lv L).1 (pl_U (pl_U (pl_U R 14 (kp_keep 0 v R)) 12 a) 2 K') else (pl_U (pl_U (pl_U R 14 (kp_keep 0 v R)) 12 a) 2 K')), rfl, rfl, ?_⟩
    refine im_r rfl rfl trivial rfl ?_
    exact ⟨rfl, pa_end (lv := lv) (L := L) (K := 0) (A := (pl_act lw 0 p 0 0 lv L)) rfl (PBX_R (PBX_ev (PBX_R (PBX_v (PBX_0 v R) (by omega) _) (by omega) _) g ge b o a) (by omega) _) rfl (Or.inr ⟨e9, rfl, rfl, hK2, hfr2⟩)⟩
set_option maxHeartbeats 8000000 in
theorem m_pass (hd : 6 ≤ d) (hT : T.length < 1000) (ht : TLS v R lv L lw) (h34 : 0 ≤ v 34 ∧ v 34 ≤ 16) (hd9 : L 7 0 ≤ 999) : im_ct ro T d 204 [mr 0] (MW v R) (fun r w => r = some (.inl (pl_act lw 1 0 0 0 lv L).1) ∧ ∃ v1 R1, w = MW v1 R1 ∧ PBX v R v1 R1 ∧ v1 0 = (if (pl_act lw 1 0 0 0 lv L).1 < 0 then (pl_act lw 1 0 0 0 lv L).1 else 0) ∧ R1 1 = (if (pl_act lw 1 0 0 0 lv L).1 < 0 then kp_ref (pl_act lw 1 0 0 0 lv L).1 R 1 else R 1) ∧ (((pl_act lw 1 0 0 0 lv L).1 < 0 ∧ R1 2 = R 2 ∧ v1 34 = v 34 ∧ R1 14 = R 14) ∨ (0 ≤ (pl_act lw 1 0 0 0 lv L).1 ∧ v1 34 = kp_un v + 1 ∧ R1 14 = kp_keep 1 v R ∧ KR (R1 2) (pl_act lw 1 0 0 0 lv L).2.1 (pl_act lw 1 0 0 0 lv L).2.2 ∧ KFr (R 2) (R1 2)))) := by
  obtain ⟨d, rfl⟩ : ∃ e, d = e + 1 := ⟨d - 1, by omega⟩
  have hpar := lk_par ht.2.1
  have hkp : ∀ p, 0 ≤ p → p < 10 → -1 ≤ R 2 (71 + p) ∧ R 2 (71 + p) ≤ 9 := fun p q1 q2 => (KR_p ht.1 ht.2.1 p q1 q2).1
  have hkc : ∀ p, 0 ≤ p → p < 10 → 0 ≤ R 2 (0 + p) ∧ R 2 (0 + p) ≤ 999 := fun p q1 q2 => (KR_p ht.1 ht.2.1 p q1 q2).2.2.1
  have h110 : 0 ≤ R 2 110 ∧ R 2 110 ≤ 10 := by rw [ht.1.1.1]; exact hpar
  refine im_ct_of (own := 9) (ret := (some .int)) (code := ab_k_X9_pass) (nL := 1) (L0 := [some (mr 0)]) (n := 24) rfl rfl rfl rfl rfl rfl rfl rfl rfl ?_
  refine im_g 2 (y := (2, _, _, _)) rfl trivial ?_
  refine im_cM rfl rfl (m_passK (v := v) (R := R) (by omega) hT ht.1 ht.2.1 h34 hd9) rfl hT (fun v1 w1 hq => ?_)
  have hdy := (LOK_day ht.2.1).2.2.2
  rcases hq with ⟨e9, rfl, rfl⟩ | ⟨e9, rfl, K', c', rfl, hK2, hfr2⟩
  · refine ⟨v, R, rfl, rfl, ?_⟩
    have ea : (pl_act lw 1 0 0 0 lv L) = (-3, lv, L) := by
      show (if L 7 0 < 999 then pl_day lv L else (-3, lv, L)) = _
      rw [if_neg (by omega)]
    rw [ea]
    refine im_cM rfl rfl (m_goodOr (v := v) (R := R) (x := (-3)) (by omega) hT (by decide)) rfl hT (fun v1 w1 hq => ?_)
    obtain ⟨rfl, rfl⟩ := hq
    refine ⟨(pl_U v 0 (if (-3) < 0 then (-3) else 0)), (if (-3) < 0 then kp_ref (-3) R else R), rfl, rfl, ?_⟩
    refine im_r rfl rfl trivial rfl ?_
    exact ⟨rfl, pa_end (lv := lv) (L := L) (K := 1) (A := (-3, lv, L)) rfl (PBX_0 v R) rfl (Or.inl ⟨(show (-3 : Int) < 0 by decide), rfl, rfl, rfl⟩)⟩
  · refine ⟨(pl_U (pl_U v 34 (kp_un v + 1)) 31 c'), (pl_U (pl_U R 14 (kp_keep 1 v R)) 2 K'), rfl, rfl, ?_⟩
    have ea : (pl_act lw 1 0 0 0 lv L) = pl_day lv L := by
      show (if L 7 0 < 999 then pl_day lv L else (-3, lv, L)) = _
      rw [if_pos e9]
    rw [ea]
    refine im_cM rfl rfl (m_goodOr (v := (pl_U (pl_U v 34 (kp_un v + 1)) 31 c')) (R := (pl_U (pl_U R 14 (kp_keep 1 v R)) 2 K')) (x := (pl_day lv L).1) (by omega) hT (by omega)) rfl hT (fun v1 w1 hq => ?_)
    obtain ⟨rfl, rfl⟩ := hq
    refine ⟨(pl_U (pl_U (pl_U v 34 (kp_un v + 1)) 31 c') 0 (if (pl_day lv L).1 < 0 then (pl_day lv L).1 else 0)), (if (pl_day lv L).1 < 0 then kp_ref (pl_day lv L).1 (pl_U (pl_U R 14 (kp_keep 1 v R)) 2 K') else (pl_U (pl_U R 14 (kp_keep 1 v R)) 2 K')), rfl, rfl, ?_⟩
    refine im_r rfl rfl trivial rfl ?_
    exact ⟨rfl, pa_end (lv := lv) (L := L) (K := 1) (A := pl_day lv L) rfl (PBX_R (PBX_R (PBX_v (PBX_v (PBX_0 v R) (by omega) _) (by omega) _) (by omega) _) (by omega) _) rfl (Or.inr ⟨hdy.1, rfl, rfl, hK2, hfr2⟩)⟩
set_option maxHeartbeats 8000000 in
theorem m_lend (hd : 5 ≤ d) (hT : T.length < 1000) (ht : TLS v R lv L lw) (h34 : 0 ≤ v 34 ∧ v 34 ≤ 16) {a b n : Int} (ha : im_ir a) (hb : im_ir b) (hn : im_ir n) : im_ct ro T d 205 [mr 0, .inl a, .inl b, .inl n] (MW v R) (fun r w => r = some (.inl (pl_act lw 2 a b n lv L).1) ∧ ∃ v1 R1, w = MW v1 R1 ∧ PBX v R v1 R1 ∧ v1 0 = (if (pl_act lw 2 a b n lv L).1 < 0 then (pl_act lw 2 a b n lv L).1 else 0) ∧ R1 1 = (if (pl_act lw 2 a b n lv L).1 < 0 then kp_ref (pl_act lw 2 a b n lv L).1 R 1 else R 1) ∧ (((pl_act lw 2 a b n lv L).1 < 0 ∧ R1 2 = R 2 ∧ v1 34 = v 34 ∧ R1 14 = R 14) ∨ (0 ≤ (pl_act lw 2 a b n lv L).1 ∧ v1 34 = kp_un v + 1 ∧ R1 14 = kp_keep 2 v R ∧ KR (R1 2) (pl_act lw 2 a b n lv L).2.1 (pl_act lw 2 a b n lv L).2.2 ∧ KFr (R 2) (R1 2)))) := by
  obtain ⟨d, rfl⟩ : ∃ e, d = e + 1 := ⟨d - 1, by omega⟩
  have hpar := lk_par ht.2.1
  have hkp : ∀ p, 0 ≤ p → p < 10 → -1 ≤ R 2 (71 + p) ∧ R 2 (71 + p) ≤ 9 := fun p q1 q2 => (KR_p ht.1 ht.2.1 p q1 q2).1
  have hkc : ∀ p, 0 ≤ p → p < 10 → 0 ≤ R 2 (0 + p) ∧ R 2 (0 + p) ≤ 999 := fun p q1 q2 => (KR_p ht.1 ht.2.1 p q1 q2).2.2.1
  have h110 : 0 ≤ R 2 110 ∧ R 2 110 ≤ 10 := by rw [ht.1.1.1]; exact hpar
  refine im_ct_of (own := 9) (ret := (some .int)) (code := ab_k_X9_lend) (nL := 4) (L0 := [some (mr 0), some (.inl a), some (.inl b), some (.inl n)]) (n := 24) rfl rfl rfl rfl rfl rfl rfl rfl rfl ?_
  refine im_g 5 (y := (5, _, _, _)) rfl trivial ?_
  refine im_cM rfl rfl (m_lends (v := v) (R := R) (a := a) (b := b) (n := n) (by omega) hT ha hb hn h110 h34 hkp hkc) rfl hT (fun v1 w1 hq => ?_)
  obtain ⟨rfl, rfl⟩ := hq
  refine ⟨(km_lend a b n v R).2.1, (km_lend a b n v R).2.2, rfl, rfl, ?_⟩
  refine im_cM rfl rfl (m_goodOr (v := (km_lend a b n v R).2.1) (R := (km_lend a b n v R).2.2) (x := (km_lend a b n v R).1) (by omega) hT (by rw [(lend_rel (v := v) ht.1 ht.2.1 a b n).1]; exact pl_lend_bd ht.2.1 a b n)) rfl hT (fun v1 w1 hq => ?_)
  obtain ⟨rfl, rfl⟩ := hq
  refine ⟨(pl_U (km_lend a b n v R).2.1 0 (if (km_lend a b n v R).1 < 0 then (km_lend a b n v R).1 else 0)), (if (km_lend a b n v R).1 < 0 then kp_ref (km_lend a b n v R).1 (km_lend a b n v R).2.2 else (km_lend a b n v R).2.2), rfl, rfl, ?_⟩
  refine im_r rfl rfl trivial rfl ?_
  obtain ⟨r1, r2, r3⟩ := lend_rel (v := v) ht.1 ht.2.1 a b n
  rcases km_lend_st (a := a) (b := b) (n := n) (v := v) (R := R) h110.2 hkc with ⟨s1, s2⟩ | ⟨s1, K', s2⟩
  · have e1 : (km_lend a b n v R).2.1 = v := congrArg Prod.fst s2
    have e2 : (km_lend a b n v R).2.2 = R := congrArg Prod.snd s2
    rw [e1, e2]
    rw [r1] at s1 ⊢
    exact ⟨rfl, pa_end (lv := lv) (L := L) (K := 2) (A := (pl_act lw 2 a b n lv L)) rfl (PBX_0 v R) rfl (Or.inl ⟨s1, rfl, rfl, rfl⟩)⟩
  · have e1 : (km_lend a b n v R).2.1 = pl_U v 34 (kp_un v + 1) := congrArg Prod.fst s2
    have e2 : (km_lend a b n v R).2.2 = pl_U (pl_U R 14 (kp_keep 2 v R)) 2 K' := congrArg Prod.snd s2
    rw [e2] at r2 r3
    rw [e1, e2]
    rw [r1] at s1 ⊢
    exact ⟨rfl, pa_end (lv := lv) (L := L) (K := 2) (A := (pl_act lw 2 a b n lv L)) rfl (PBX_R (PBX_R (PBX_v (PBX_0 v R) (by omega) _) (by omega) _) (by omega) _) rfl (Or.inr ⟨s1, rfl, rfl, r2, r3⟩)⟩
set_option maxHeartbeats 8000000 in
theorem m_grow (hd : 5 ≤ d) (hT : T.length < 1000) (ht : TLS v R lv L lw) (h34 : 0 ≤ v 34 ∧ v 34 ≤ 16) {p b : Int} (hp : im_ir p) (hb : im_ir b) : im_ct ro T d 206 [mr 0, .inl p, .inl b] (MW v R) (fun r w => r = some (.inl (pl_act lw 3 p b 0 lv L).1) ∧ ∃ v1 R1, w = MW v1 R1 ∧ PBX v R v1 R1 ∧ v1 0 = (if (pl_act lw 3 p b 0 lv L).1 < 0 then (pl_act lw 3 p b 0 lv L).1 else 0) ∧ R1 1 = (if (pl_act lw 3 p b 0 lv L).1 < 0 then kp_ref (pl_act lw 3 p b 0 lv L).1 R 1 else R 1) ∧ (((pl_act lw 3 p b 0 lv L).1 < 0 ∧ R1 2 = R 2 ∧ v1 34 = v 34 ∧ R1 14 = R 14) ∨ (0 ≤ (pl_act lw 3 p b 0 lv L).1 ∧ v1 34 = kp_un v + 1 ∧ R1 14 = kp_keep 3 v R ∧ KR (R1 2) (pl_act lw 3 p b 0 lv L).2.1 (pl_act lw 3 p b 0 lv L).2.2 ∧ KFr (R 2) (R1 2)))) := by
  obtain ⟨d, rfl⟩ : ∃ e, d = e + 1 := ⟨d - 1, by omega⟩
  have hpar := lk_par ht.2.1
  have hkp : ∀ p, 0 ≤ p → p < 10 → -1 ≤ R 2 (71 + p) ∧ R 2 (71 + p) ≤ 9 := fun p q1 q2 => (KR_p ht.1 ht.2.1 p q1 q2).1
  have hkc : ∀ p, 0 ≤ p → p < 10 → 0 ≤ R 2 (0 + p) ∧ R 2 (0 + p) ≤ 999 := fun p q1 q2 => (KR_p ht.1 ht.2.1 p q1 q2).2.2.1
  have h110 : 0 ≤ R 2 110 ∧ R 2 110 ≤ 10 := by rw [ht.1.1.1]; exact hpar
  refine im_ct_of (own := 9) (ret := (some .int)) (code := ab_k_X9_grow) (nL := 3) (L0 := [some (mr 0), some (.inl p), some (.inl b)]) (n := 24) rfl rfl rfl rfl rfl rfl rfl rfl rfl ?_
  refine im_g 4 (y := (4, _, _, _)) rfl trivial ?_
  refine im_cM rfl rfl (m_grows (v := v) (R := R) (p := p) (b := b) (by omega) hT hp hb h110 h34 hkp hkc) rfl hT (fun v1 w1 hq => ?_)
  obtain ⟨rfl, rfl⟩ := hq
  refine ⟨(km_grow p b v R).2.1, (km_grow p b v R).2.2, rfl, rfl, ?_⟩
  refine im_cM rfl rfl (m_goodOr (v := (km_grow p b v R).2.1) (R := (km_grow p b v R).2.2) (x := (km_grow p b v R).1) (by omega) hT (by rw [(grow_rel (v := v) ht.1 ht.2.1 p b).1]; exact pl_grow_bd ht.2.1 p b)) rfl hT (fun v1 w1 hq => ?_)
  obtain ⟨rfl, rfl⟩ := hq
  refine ⟨(pl_U (km_grow p b v R).2.1 0 (if (km_grow p b v R).1 < 0 then (km_grow p b v R).1 else 0)), (if (km_grow p b v R).1 < 0 then kp_ref (km_grow p b v R).1 (km_grow p b v R).2.2 else (km_grow p b v R).2.2), rfl, rfl, ?_⟩
  refine im_r rfl rfl trivial rfl ?_
  obtain ⟨r1, r2, r3⟩ := grow_rel (v := v) ht.1 ht.2.1 p b
  rcases km_grow_st (p := p) (b := b) (v := v) (R := R) with ⟨s1, s2⟩ | ⟨s1, K', s2⟩
  · have e1 : (km_grow p b v R).2.1 = v := congrArg Prod.fst s2
    have e2 : (km_grow p b v R).2.2 = R := congrArg Prod.snd s2
    rw [e1, e2]
    rw [r1] at s1 ⊢
    exact ⟨rfl, pa_end (lv := lv) (L := L) (K := 3) (A := (pl_act lw 3 p b 0 lv L)) rfl (PBX_0 v R) rfl (Or.inl ⟨s1, rfl, rfl, rfl⟩)⟩
  · have e1 : (km_grow p b v R).2.1 = pl_U v 34 (kp_un v + 1) := congrArg Prod.fst s2
    have e2 : (km_grow p b v R).2.2 = pl_U (pl_U R 14 (kp_keep 3 v R)) 2 K' := congrArg Prod.snd s2
    rw [e2] at r2 r3
    rw [e1, e2]
    rw [r1] at s1 ⊢
    exact ⟨rfl, pa_end (lv := lv) (L := L) (K := 3) (A := (pl_act lw 3 p b 0 lv L)) rfl (PBX_R (PBX_R (PBX_v (PBX_0 v R) (by omega) _) (by omega) _) (by omega) _) rfl (Or.inr ⟨s1, rfl, rfl, r2, r3⟩)⟩
set_option maxHeartbeats 8000000 in
theorem m_odds (hd : 80 ≤ d) (hT : T.length < 1000) (ht : TLS v R lv L lw) (h30 : v 30 = 0) {p n ov : Int} (hp : im_ir p) (hn : im_ir n) (hov : im_ir ov) : im_ct ro T d 216 [mr 0, .inl p, .inl n, .inl ov] (MW v R) (fun r w => ∃ z v1 R1, r = some (.inr (.inl z)) ∧ w = MW v1 R1 ∧ (∀ j, j ≠ 22 → j ≠ 23 → j ≠ 24 → j ≠ 25 → v1 j = v j) ∧ ∀ j, j ≠ 12 → j ≠ 19 → R1 j = R j) := by
  obtain ⟨d, rfl⟩ : ∃ e, d = e + 1 := ⟨d - 1, by omega⟩
  have hpar := lk_par ht.2.1
  have h110 : 0 ≤ R 2 110 ∧ R 2 110 ≤ 10 := by rw [ht.1.1.1]; exact hpar
  have e110 := ht.1.1.1
  have hrt := lk_trm ht.2.1
  have e108 : R 2 108 = L 7 2 := ht.1.2.1.2.2.1
  have htb := as_tens_b lw p 0 L
  refine im_ct_of (own := 9) (ret := (some .long)) (code := ab_k_X9_odds) (nL := 6) (L0 := [some (mr 0), some (.inl p), some (.inl n), some (.inl ov), none, none]) (n := 24) rfl rfl rfl rfl rfl rfl rfl rfl rfl ?_
  refine im_g 2 (y := (2, _, _, _)) rfl trivial ?_
  refine im_cM rfl rfl (m_isParish (v := v) (R := R) (p := p) (by omega) hT hp h110) rfl hT (fun v1 w1 hq => ?_)
  obtain ⟨rfl, rfl⟩ := hq
  refine ⟨v, R, rfl, rfl, ?_⟩
  refine im_b rfl rfl ⟨(by split <;> decide), trivial⟩ (fun br1 => ?_) (fun br1 => ?_)
  · refine im_g 1 (y := (31, _, _, _)) rfl trivial ?_
    refine im_r rfl rfl trivial rfl ?_
    exact ⟨_, v, R, rfl, rfl, fun _ _ _ _ _ => rfl, fun _ _ _ => rfl⟩
  · have hpp : 0 ≤ p ∧ p ≤ R 2 110 - 1 := by
      by_cases c : 0 ≤ p ∧ p ≤ R 2 110 - 1
      · exact c
      · rw [if_neg c] at br1; exact absurd rfl br1
    clear br1
    refine im_g 3 (y := (12, _, _, _)) rfl trivial ?_
    refine im_call [] rfl rfl (m_lies (x := n) (a := 0) (b := 60) (by omega) hT hn (by decide) (by decide)) rfl rfl rfl (by decide) rfl (by decide) hT (fun v1 w1 hq => ?_)
    obtain ⟨rfl, rfl⟩ := hq
    refine ⟨_, _, MW v R, rfl, rfl, rfl, ?_⟩
    refine im_b rfl rfl ⟨(by split <;> decide), trivial⟩ (fun br2 => ?_) (fun br2 => ?_)
    · refine im_g 1 (y := (31, _, _, _)) rfl trivial ?_
      refine im_r rfl rfl trivial rfl ?_
      exact ⟨_, v, R, rfl, rfl, fun _ _ _ _ _ => rfl, fun _ _ _ => rfl⟩
    · have hnn : 0 ≤ n ∧ n ≤ 60 := by
        by_cases c : 0 ≤ n ∧ n ≤ 60
        · exact c
        · rw [if_neg c] at br2; exact absurd rfl br2
      clear br2
      refine im_g 3 (y := (22, _, _, _)) rfl trivial ?_
      refine im_call [] rfl rfl (m_lies (x := ov) (a := 0) (b := 98) (by omega) hT hov (by decide) (by decide)) rfl rfl rfl (by decide) rfl (by decide) hT (fun v1 w1 hq => ?_)
      obtain ⟨rfl, rfl⟩ := hq
      refine ⟨_, _, MW v R, rfl, rfl, rfl, ?_⟩
      refine im_b rfl rfl ⟨(by split <;> decide), trivial⟩ (fun br3 => ?_) (fun br3 => ?_)
      · have hoo : 0 ≤ ov ∧ ov ≤ 98 := by
          by_cases c : 0 ≤ ov ∧ ov ≤ 98
          · exact c
          · rw [if_neg c] at br3; exact absurd rfl br3
        clear br3
        refine im_g 2 (y := (34, _, _, _)) rfl trivial ?_
        refine im_cM rfl rfl (show im_ct ro T d 184 [mr 0, .inl p] (MW v R) (fun r w => r = some (.inl (as_tens lw p 0 L)) ∧ QS v R w) from (by have t := m_tens (ro := ro) (T := T) (d := d) (v := v) (R := R) (lv := lv) (L := L) (lw := lw) (p := p) (by omega) hT ht (by omega); rw [h30] at t; exact t)) rfl hT (fun v1 w1 hq => ?_)
        obtain ⟨rfl, g, ge, b, o, a, rfl⟩ := hq
        refine ⟨(EV4 v g ge b o), (pl_U R 12 a), rfl, rfl, ?_⟩
        refine im_g 3 (y := (42, _, _, _)) rfl trivial ?_
        have ka : ∀ (q k : Nat), k + q = 198 → ∀ (Rx : Nat → Int → Int), (∀ j, j ≠ 12 → j ≠ 19 → Rx j = R j) → (∀ i, 0 ≤ i → i < (k : Int) → Rx 19 i = 0) → im_wp ro (ab_Ev ro ab_codes d) 9 (some .long) ab_k_X9_odds 24 T (fun r w => ∃ z v1 R1, r = some (.inr (.inl z)) ∧ w = MW v1 R1 ∧ (∀ j, j ≠ 22 → j ≠ 23 → j ≠ 24 → j ≠ 25 → v1 j = v j) ∧ ∀ j, j ≠ 12 → j ≠ 19 → R1 j = R j) (42, [some (mr 0), some (.inl p), some (.inl n), some (.inl ov), some (.inl (as_tens lw p 0 L)), some (.inl (k : Int))], [], MW (EV4 v g ge b o) Rx) := by
          intro q
          induction q with
          | zero =>
            intro k hk Rx hP hS
            obtain rfl : k = 198 := by omega
            have e2 : Rx 2 = R 2 := hP 2 (by decide) (by decide)
            have htx : TLS (EV4 v g ge b o) Rx lv L lw := by
              obtain ⟨y1, y2, y3, y4, y5, y6⟩ := ht
              unfold TLS
              rw [e2]
              exact ⟨y1, y2, y3, y4, y5, Or.inl h30⟩
            refine im_g 2 (y := (47, _, _, _)) rfl trivial ?_
            refine im_bT rfl rfl ⟨(by omega), (by omega), trivial⟩ (by omega) ?_
            refine im_g 4 (y := (70, _, _, _)) rfl trivial ?_
            refine im_cM rfl rfl (show im_ct ro T d 185 [mr 0, .inl p] (MW (EV4 v g ge b o) Rx) (fun r w => r = some (.inl (as_over lw p 0 L)) ∧ QS (EV4 v g ge b o) Rx w) from (by have t := m_over (ro := ro) (T := T) (d := d) (v := (EV4 v g ge b o)) (R := Rx) (lv := lv) (L := L) (lw := lw) (p := p) (by omega) hT htx (by omega); rw [show (EV4 v g ge b o) 30 = 0 from h30] at t; exact t)) rfl hT (fun v1 w1 hq => ?_)
            obtain ⟨rfl, g2, ge2, b2, o2, a2, rfl⟩ := hq
            refine ⟨(EV4 (EV4 v g ge b o) g2 ge2 b2 o2), (pl_U Rx 12 a2), rfl, rfl, ?_⟩
            have hob := as_over_b lw p 0 L
            refine im_g 4 (y := (80, _, _, _)) rfl ⟨(by omega), trivial⟩ ?_
            have kb : ∀ (q k : Nat), (k : Int) + q = n → ∀ (Ry : Nat → Int → Int), (∀ j, j ≠ 12 → j ≠ 19 → Ry j = R j) → (∀ i, 0 ≤ i → i < 198 → 0 ≤ Ry 19 i ∧ Ry 19 i ≤ 1000000000000) → im_wp ro (ab_Ev ro ab_codes d) 9 (some .long) ab_k_X9_odds 24 T (fun r w => ∃ z v1 R1, r = some (.inr (.inl z)) ∧ w = MW v1 R1 ∧ (∀ j, j ≠ 22 → j ≠ 23 → j ≠ 24 → j ≠ 25 → v1 j = v j) ∧ ∀ j, j ≠ 12 → j ≠ 19 → R1 j = R j) (80, [some (mr 0), some (.inl p), some (.inl n), some (.inl ov), some (.inl (as_tens lw p 0 L)), some (.inl (k : Int))], [], MW (EV4 v g2 ge2 b2 o2) Ry) := by
              intro q
              induction q with
              | zero =>
                intro k hk Ry hP2 hS2
                have hn2 := sd_2 (m := n) (by omega)
                refine im_g 2 (y := (83, _, _, _)) rfl trivial ?_
                refine im_bT rfl rfl ⟨(by omega), (by omega), trivial⟩ (by omega) ?_
                refine im_g 10 (y := (115, _, _, _)) rfl ⟨(by omega), (by omega), (by omega), (by omega), trivial⟩ ?_
                refine im_r rfl rfl trivial rfl ?_
                exact ⟨_, _, Ry, rfl, rfl, (fun j q1 q2 q3 q4 => by unfold EV4 pl_U; rw [if_neg q4, if_neg q3, if_neg q2, if_neg q1]), hP2⟩
              | succ q ih =>
                intro k hk Ry hP2 hS2
                have hk2 := sd_2 (m := (k : Int)) (by omega)
                have e2y : Ry 2 = R 2 := hP2 2 (by decide) (by decide)
                refine im_g 2 (y := (83, _, _, _)) rfl trivial ?_
                refine im_bF rfl rfl ⟨(by omega), (by omega), trivial⟩ (by omega) ?_
                refine im_g 5 (y := (93, _, _, _)) rfl ⟨(by omega), (by omega), (by omega), trivial⟩ ?_
                refine im_cM rfl rfl (m_spreads (v := (EV4 v g2 ge2 b2 o2)) (R := Ry) (n := as_tens lw p 0 L) (x := (k : Int).tmod 2) (by omega) hT (by omega) hk2 (by rw [e2y]; omega) (fun i q1 q2 => hS2 _ (by omega) (by omega))) rfl hT (fun v1 w1 hq => ?_)
                obtain ⟨rfl, R2, rfl, hR2, hb2⟩ := hq
                refine ⟨(EV4 v g2 ge2 b2 o2), R2, rfl, rfl, ?_⟩
                refine im_g 2 (y := (80, _, _, _)) rfl trivial ?_
                exact ih (k + 1) (by omega) R2 (fun j q1 q2 => (hR2 j q2).trans (hP2 j q1 q2)) hb2
            exact kb n.toNat 0 (by omega) (pl_U (pl_U Rx 12 a2) 19 (im_up (Rx 19) (as_over lw p 0 L) 1000000000000)) (fun j q1 q2 => (if_neg q2).trans ((if_neg q1).trans (hP j q1 q2))) (fun i q1 q2 => by show 0 ≤ im_up (Rx 19) _ _ i ∧ im_up (Rx 19) _ _ i ≤ _; unfold im_up; split; decide; rw [hS i q1 q2]; decide)
          | succ q ih =>
            intro k hk Rx hP hS
            refine im_g 2 (y := (47, _, _, _)) rfl trivial ?_
            refine im_bF rfl rfl ⟨(by omega), (by omega), trivial⟩ (by omega) ?_
            refine im_g 7 (y := (42, _, _, _)) rfl ⟨(by omega), trivial⟩ ?_
            exact ih (k + 1) (by omega) (pl_U Rx 19 (im_up (Rx 19) (k : Int) 0)) (fun j q1 q2 => (if_neg q2).trans (hP j q1 q2)) (fun i q1 q2 => by show im_up (Rx 19) _ 0 i = 0; unfold im_up; split; rfl; exact hS i q1 (by omega))
        exact ka 198 0 rfl (pl_U R 12 a) (fun j q1 q2 => if_neg q1) (fun i q1 q2 => absurd q1 (by omega))
      · refine im_g 1 (y := (31, _, _, _)) rfl trivial ?_
        refine im_r rfl rfl trivial rfl ?_
        exact ⟨_, v, R, rfl, rfl, fun _ _ _ _ _ => rfl, fun _ _ _ => rfl⟩
end Pa
