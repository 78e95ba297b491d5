/-! the reference: who is moved -/
theorem mv_flip {a b a' b' : Int → Int} : ∀ k : Nat, (∀ i : Int, 0 ≤ i → i < k → a i = a' i ∧ b i = b' i) → mv_bits a b k = mv_bits a' b' k
  | 0, _ => rfl
  | k + 1, h => by
    have ih := mv_flip k (fun i h1 h2 => h i h1 (by omega))
    obtain ⟨e1, e2⟩ := h k (by omega) (by omega)
    unfold mv_bits
    rw [ih, e1, e2]
section Mo
variable {ro : ab_R} {T : List im_T} {d : Nat} {v : Nat → Int} {R : Nat → Int → Int} {lv : Nat → Int} {L : Nat → Int → Int} {lw : Option im_T}
set_option maxHeartbeats 8000000 in
theorem m_moved (hd : 84 ≤ d) (hT : T.length < 1000) (ht : TLS v R lv L lw) {p : Int} (hp : im_ir p) : im_ct ro T d 225 [mr 0, .inl p] (MW v R) (fun r w => r = some (.inl (if (0 ≤ p ∧ p < lv 0) ∧ ¬ R 2 (0 + p) = 999 then mv_bits (on_all lw (v 30) (-1) 0 lv L).2.2.2 (on_all lw (v 30) p 1 lv L).2.2.2 (lv 0).toNat else -1)) ∧ ∃ W, QB v (pl_U R 21 W) w) := by
  obtain ⟨d, rfl⟩ : ∃ e, d = e + 1 := ⟨d - 1, by omega⟩
  have hpar := lk_par ht.2.1
  have e110 := ht.1.1.1
  refine im_ct_of (own := 9) (ret := (some .int)) (code := ab_k_X9_moved) (nL := 4) (L0 := [some (mr 0), some (.inl p), none, none]) (n := 24) rfl rfl rfl rfl rfl rfl rfl rfl rfl ?_
  refine im_g 2 (y := (2, _, _, _)) rfl trivial ?_
  refine im_cM rfl rfl (m_isParish (v := v) (R := R) (p := p) (by omega) hT hp (by omega)) rfl hT (fun v1 w1 hq => ?_)
  obtain ⟨rfl, rfl⟩ := hq
  refine ⟨v, R, rfl, rfl, ?_⟩
  refine im_b rfl rfl ⟨(by omega), trivial⟩ (fun br1 => ?_) (fun br1 => ?_)
  · have c5 : ¬ (0 ≤ p ∧ p ≤ R 2 110 - 1) := by
      intro hh
      rw [if_pos hh] at br1
      exact absurd br1 (by decide)
    clear br1
    refine im_g 1 (y := (23, _, _, _)) rfl trivial ?_
    refine im_r rfl rfl trivial rfl ?_
    rw [if_neg (fun z => c5 ⟨z.1.1, by have t := z.1.2; omega⟩)]
    exact ⟨rfl, R 21, v 22, v 23, v 24, v 25, v 31, R 5, R 12, R 16, R 17, rfl⟩
  · have c5 : 0 ≤ p ∧ p ≤ R 2 110 - 1 := by
      by_cases hh : 0 ≤ p ∧ p ≤ R 2 110 - 1
      · exact hh
      · rw [if_neg hh] at br1; exact absurd rfl br1
    clear br1
    have hpp : 0 ≤ p ∧ p < lv 0 := by omega
    have hkp := (ht.1.2.2.1 p hpp.1 (by omega)).2.2.1
    have hcn := lk_cnt ht.2.1 p
    refine im_g 7 (y := (19, _, _, _)) rfl ⟨(by omega), trivial⟩ ?_
    refine im_b rfl rfl ⟨(by omega), (by omega), trivial⟩ (fun br2 => ?_) (fun br2 => ?_)
    · have h999 : ¬ R 2 (0 + p) = 999 := by omega
      refine im_g 3 (y := (27, _, _, _)) rfl trivial ?_
      refine im_cM rfl rfl (m_onceWith (v := v) (R := R) (lv := lv) (L := L) (lw := lw) (by omega) hT ht (p := -1) (y := 0) (by omega) (by decide) (by intro q1 q2; omega)) rfl hT (fun v1 w1 hq => ?_)
      obtain ⟨rfl, g, ge, b, o, c, a5, a, s, ov, rfl, hov⟩ := hq
      refine ⟨(pl_U (EV4 v g ge b o) 31 c), (pl_U (pl_U (pl_U (pl_U (pl_U R 5 a5) 12 a) 16 s) 17 ov) 2 (R 2)), rfl, rfl, ?_⟩
      refine im_g 3 (y := (33, _, _, _)) rfl trivial ?_
      have key : ∀ (n k : Nat) (W : Int → Int), (k : Int) + n = lv 0 → (∀ x, 0 ≤ x → x < (k : Int) → W x = s x) → im_wp ro (ab_Ev ro ab_codes d) 9 (some .int) ab_k_X9_moved 24 T (fun r w => r = some (.inl (if (0 ≤ p ∧ p < lv 0) ∧ ¬ R 2 (0 + p) = 999 then mv_bits (on_all lw (v 30) (-1) 0 lv L).2.2.2 (on_all lw (v 30) p 1 lv L).2.2.2 (lv 0).toNat else -1)) ∧ ∃ W, QB v (pl_U R 21 W) w) (33, [some (mr 0), some (.inl p), some (.inl (k : Int)), none], [], MW (pl_U (EV4 v g ge b o) 31 c) (pl_U (pl_U (pl_U (pl_U (pl_U (pl_U R 5 a5) 12 a) 16 s) 17 ov) 2 (R 2)) 21 W)) := by
        intro n
        induction n with
        | zero =>
          intro k W hk hW
          obtain rfl : k = (lv 0).toNat := by omega
          have e1 : (pl_U (pl_U (pl_U (pl_U (pl_U (pl_U R 5 a5) 12 a) 16 s) 17 ov) 2 (R 2)) 21 W) 2 110 = lv 0 := e110
          refine im_g 5 (y := (41, _, _, _)) rfl ⟨(by omega), trivial⟩ ?_
          refine im_bT rfl rfl ⟨(by first | (constructor <;> omega) | omega), (by first | (constructor <;> omega) | omega), trivial⟩ (by omega) ?_
          refine im_g 3 (y := (65, _, _, _)) rfl trivial ?_
          refine im_cM rfl rfl (m_onceWith (v := (pl_U (EV4 v g ge b o) 31 c)) (R := (pl_U (pl_U (pl_U (pl_U (pl_U (pl_U R 5 a5) 12 a) 16 s) 17 ov) 2 (R 2)) 21 W)) (lv := lv) (L := L) (lw := lw) (by omega) hT (show TLS (pl_U (EV4 v g ge b o) 31 c) (pl_U (pl_U (pl_U (pl_U (pl_U (pl_U R 5 a5) 12 a) 16 s) 17 ov) 2 (R 2)) 21 W) lv L lw from ht) (p := p) (y := 1) (by omega) (by decide) (by intro q1 q2; omega)) rfl hT (fun v1 w1 hq => ?_)
          obtain ⟨rfl, g2, ge2, b2, o2, c2, a52, a2, s2, ov2, rfl, hov2⟩ := hq
          refine ⟨(pl_U (EV4 (pl_U (EV4 v g ge b o) 31 c) g2 ge2 b2 o2) 31 c2), (pl_U (pl_U (pl_U (pl_U (pl_U (pl_U (pl_U (pl_U (pl_U (pl_U (pl_U R 5 a5) 12 a) 16 s) 17 ov) 2 (R 2)) 21 W) 5 a52) 12 a2) 16 s2) 17 ov2) 2 ((pl_U (pl_U (pl_U (pl_U (pl_U (pl_U R 5 a5) 12 a) 16 s) 17 ov) 2 (R 2)) 21 W) 2)), rfl, rfl, ?_⟩
          replace hov2 : ∀ x, 0 ≤ x → x < lv 0 → ov2 x = (on_all lw (v 30) p 1 lv L).2.2.1 x ∧ s2 x = (on_all lw (v 30) p 1 lv L).2.2.2 x := hov2
          refine im_g 5 (y := (73, _, _, _)) rfl trivial ?_
          have e2 : (pl_U (pl_U (pl_U (pl_U (pl_U (pl_U (pl_U (pl_U (pl_U (pl_U (pl_U R 5 a5) 12 a) 16 s) 17 ov) 2 (R 2)) 21 W) 5 a52) 12 a2) 16 s2) 17 ov2) 2 ((pl_U (pl_U (pl_U (pl_U (pl_U (pl_U R 5 a5) 12 a) 16 s) 17 ov) 2 (R 2)) 21 W) 2)) 2 110 = lv 0 := e110
          have ea : ∀ x, 0 ≤ x → x < lv 0 → W x = (on_all lw (v 30) (-1) 0 lv L).2.2.2 x := fun x q1 q2 => (hW x q1 (by omega)).trans (hov x q1 q2).2
          have eb : ∀ x, 0 ≤ x → x < lv 0 → s2 x = (on_all lw (v 30) p 1 lv L).2.2.2 x := fun x q1 q2 => (hov2 x q1 q2).2
          have hb1 := (on_all_b (lw := lw) (ten := v 30) (c := -1) (y := 0) ht.2.1 (by intro q1 q2; omega)).2.2
          have hb2 := (on_all_b (lw := lw) (ten := v 30) (c := p) (y := 1) ht.2.1 (by intro q1 q2; omega)).2.2
          refine im_for (lv 0).toNat (fun m => (73, [some (mr 0), some (.inl p), some (.inl (mv_bits W s2 m)), some (.inl (m : Int))], [], MW (pl_U (EV4 (pl_U (EV4 v g ge b o) 31 c) g2 ge2 b2 o2) 31 c2) (pl_U (pl_U (pl_U (pl_U (pl_U (pl_U (pl_U (pl_U (pl_U (pl_U (pl_U R 5 a5) 12 a) 16 s) 17 ov) 2 (R 2)) 21 W) 5 a52) 12 a2) 16 s2) 17 ov2) 2 ((pl_U (pl_U (pl_U (pl_U (pl_U (pl_U R 5 a5) 12 a) 16 s) 17 ov) 2 (R 2)) 21 W) 2)))) (fun m hm ih2 => ?_) ?_
          · have t1 := ea m (by omega) (by omega)
            have t2 := eb m (by omega) (by omega)
            have t3 := hb1 m
            have t4 := hb2 m
            refine im_g 5 (y := (81, _, _, _)) rfl ⟨(by omega), trivial⟩ ?_
            refine im_bF rfl rfl ⟨(by first | (constructor <;> omega) | omega), (by first | (constructor <;> omega) | omega), trivial⟩ (by omega) ?_
            refine im_g 9 (y := (97, _, _, _)) rfl ⟨(by omega), (by omega), trivial⟩ ?_
            refine im_b rfl rfl ⟨(by first | (show im_ir (W m); constructor <;> omega) | (show im_ir (s2 m); constructor <;> omega)), (by first | (show im_ir (W m); constructor <;> omega) | (show im_ir (s2 m); constructor <;> omega)), trivial⟩ (fun br1 => ?_) (fun br1 => ?_)
            · refine im_g 7 (y := (73, _, _, _)) rfl trivial ?_
              have es : mv_bits W s2 (m + 1) = im_or (mv_bits W s2 m) (im_shl 1 m) := by
                show im_or _ (if W m = s2 m then 0 else im_shl 1 m) = _
                rw [if_neg (show ¬ W m = s2 m from br1)]
              rw [es] at ih2
              exact ih2
            · refine im_g 6 (y := (73, _, _, _)) rfl trivial ?_
              have es : mv_bits W s2 (m + 1) = im_or (mv_bits W s2 m) (0) := by
                show im_or _ (if W m = s2 m then 0 else im_shl 1 m) = _
                rw [if_pos (show W m = s2 m from Classical.not_not.mp br1)]
              rw [es] at ih2
              exact ih2
          · have em := mv_flip (a := W) (b := s2) (a' := (on_all lw (v 30) (-1) 0 lv L).2.2.2) (b' := (on_all lw (v 30) p 1 lv L).2.2.2) (lv 0).toNat (fun x q1 q2 => ⟨ea x q1 (by omega), eb x q1 (by omega)⟩)
            refine im_g 5 (y := (81, _, _, _)) rfl ⟨(by omega), trivial⟩ ?_
            refine im_bT rfl rfl ⟨(by first | (constructor <;> omega) | omega), (by first | (constructor <;> omega) | omega), trivial⟩ (by omega) ?_
            refine im_g 1 (y := (116, _, _, _)) rfl trivial ?_
            refine im_r rfl rfl trivial rfl ?_
            rw [if_pos ⟨hpp, h999⟩, ← em]
            exact ⟨rfl, W, g2, ge2, b2, o2, c2, a52, a2, s2, ov2, rfl⟩
        | succ n ih =>
          intro k W hk hW
          have e1 : (pl_U (pl_U (pl_U (pl_U (pl_U (pl_U R 5 a5) 12 a) 16 s) 17 ov) 2 (R 2)) 21 W) 2 110 = lv 0 := e110
          refine im_g 5 (y := (41, _, _, _)) rfl ⟨(by omega), trivial⟩ ?_
          refine im_bF rfl rfl ⟨(by first | (constructor <;> omega) | omega), (by first | (constructor <;> omega) | omega), trivial⟩ (by omega) ?_
          refine im_g 10 (y := (33, _, _, _)) rfl ⟨(by omega), (by omega), trivial⟩ ?_
          exact ih (k + 1) (im_up W k (s k)) (by omega) (fun x q1 q2 => by unfold im_up; split; (rename_i e; rw [e]); exact hW x q1 (by omega))
      exact key (lv 0).toNat 0 (R 21) (by omega) (fun x q1 q2 => absurd q1 (by omega))
    · refine im_g 1 (y := (23, _, _, _)) rfl trivial ?_
      refine im_r rfl rfl trivial rfl ?_
      rw [if_neg (fun z => z.2 (by omega))]
      exact ⟨rfl, R 21, v 22, v 23, v 24, v 25, v 31, R 5, R 12, R 16, R 17, rfl⟩
end Mo
