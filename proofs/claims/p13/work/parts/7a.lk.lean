/-! the reference: where to hear next -/
theorem QZ_W (v : Nat → Int) (R : Nat → Int → Int) (g ge b o c : Int) (a5 a s ov : Int → Int) : QZ v R (pl_U (EV4 v g ge b o) 31 c) (pl_U (pl_U (pl_U (pl_U (pl_U R 5 a5) 12 a) 16 s) 17 ov) 2 (R 2)) := by
  refine ⟨fun j q1 q2 q3 q4 q5 => ?_, fun j q1 q2 q3 q4 q5 => ?_⟩
  · unfold EV4 pl_U
    rw [if_neg q5, if_neg q4, if_neg q3, if_neg q2, if_neg q1]
  · unfold pl_U
    rw [if_neg q1, if_neg q5, if_neg q4, if_neg q3, if_neg q2]
theorem im_byte_id {x : Int} (h : -128 ≤ x ∧ x < 128) : im_byte x = x := by
  unfold im_byte
  rw [Int.bmod_def]
  split <;> omega
section Lk2
variable {ro : ab_R} {T : List im_T} {d : Nat} {v : Nat → Int} {R : Nat → Int → Int} {lv : Nat → Int} {L : Nat → Int → Int} {lw : Option im_T}
set_option maxHeartbeats 8000000 in
theorem m_isHid (hd : 84 ≤ d) (hT : T.length < 1000) (ht : TLS v R lv L lw) (h30 : v 30 = 0) {p : Int} (hp : 0 ≤ p ∧ p < lv 0) : im_ct ro T d 221 [mr 0, .inl p] (MW v R) (fun r w => r = some (.inl (if fh_is lw lv L p = true then (1 : Int) else 0)) ∧ ∃ v1 R1, w = MW v1 R1 ∧ QZ v R v1 R1 ∧ R1 2 = R 2 ∧ (fh_is lw lv L p = true → ∀ x, 0 ≤ x → x < lv 0 → R1 17 x = lo_ov lw lv L p x)) := by
  obtain ⟨d, rfl⟩ : ∃ e, d = e + 1 := ⟨d - 1, by omega⟩
  have hpar := lk_par ht.2.1
  have hkp := (ht.1.2.2.1 p hp.1 (by omega)).2.2.1
  have hcn := lk_cnt ht.2.1 p
  refine im_ct_of (own := 9) (ret := (some .boolean)) (code := ab_k_X9_isHidden) (nL := 2) (L0 := [some (mr 0), some (.inl p)]) (n := 24) rfl rfl rfl rfl rfl rfl rfl rfl rfl ?_
  refine im_g 6 (y := (8, _, _, _)) rfl ⟨(by omega), trivial⟩ ?_
  refine im_b rfl rfl ⟨(by omega), trivial⟩ (fun br1 => ?_) (fun br1 => ?_)
  · refine im_g 3 (y := (16, _, _, _)) rfl trivial ?_
    refine im_cM rfl rfl (m_onceWith (v := v) (R := R) (lv := lv) (L := L) (lw := lw) (by omega) hT ht (p := p) (y := -1) (by omega) (by decide) (by intro q1 q2; omega)) rfl hT (fun v1 w1 hq => ?_)
    obtain ⟨rfl, g, ge, b, o, c, a5, a, s, ov, rfl, hov⟩ := hq
    refine ⟨(pl_U (EV4 v g ge b o) 31 c), (pl_U (pl_U (pl_U (pl_U (pl_U R 5 a5) 12 a) 16 s) 17 ov) 2 (R 2)), rfl, rfl, ?_⟩
    rw [h30] at hov
    refine im_g 2 (y := (21, _, _, _)) rfl trivial ?_
    refine im_cM rfl rfl (m_allHeard (v := (pl_U (EV4 v g ge b o) 31 c)) (R := (pl_U (pl_U (pl_U (pl_U (pl_U R 5 a5) 12 a) 16 s) 17 ov) 2 (R 2))) (lv := lv) (L := L) (by omega) hT ht.1 ht.2.1 (oc := (on_all lw 0 p (-1) lv L).2.2.1) (fun x q1 q2 => (hov x q1 q2).1) (fun x _ _ => (on_all_b ht.2.1 (by intro q1 q2; omega)).2.1 x)) rfl hT (fun v1 w1 hq => ?_)
    obtain ⟨rfl, rfl⟩ := hq
    refine ⟨(pl_U (EV4 v g ge b o) 31 c), (pl_U (pl_U (pl_U (pl_U (pl_U R 5 a5) 12 a) 16 s) 17 ov) 2 (R 2)), rfl, rfl, ?_⟩
    refine im_r rfl rfl ⟨(by first | decide | (split <;> decide)), trivial⟩ rfl ?_
    have e : fh_is lw lv L p = hd_all (on_all lw 0 p (-1) lv L).2.2.1 lv L (lv 3).toNat := by
      unfold fh_is
      rw [decide_eq_true (by omega)]
      rfl
    rw [e]
    exact ⟨rfl, _, _, rfl, QZ_W v R g ge b o c a5 a s ov, rfl, fun _ x q1 q2 => (hov x q1 q2).1⟩
  · refine im_g 1 (y := (12, _, _, _)) rfl trivial ?_
    refine im_r rfl rfl ⟨(by first | decide | (split <;> decide)), trivial⟩ rfl ?_
    have e : fh_is lw lv L p = false := by
      unfold fh_is
      rw [decide_eq_false (by omega)]
      rfl
    rw [e]
    exact ⟨rfl, v, R, rfl, QZ_0 v R, rfl, fun z => nomatch z⟩
set_option maxHeartbeats 8000000 in
theorem m_mostShown (hd : 2 ≤ d) (hT : T.length < 1000) {q : Int} (hq : 0 ≤ q ∧ q ≤ 9) (hb : ∀ i, 0 ≤ i → i < 990 → 0 ≤ R 20 i ∧ R 20 i ≤ 100) : im_ct ro T d 223 [mr 0, .inl q] (MW v R) (fun r w => r = some (.inl (lo_mx (fun o => R 20 (99 * q + o)) 99)) ∧ w = MW v R) := by
  obtain ⟨d, rfl⟩ : ∃ e, d = e + 1 := ⟨d - 1, by omega⟩
  refine im_ct_of (own := 9) (ret := (some .int)) (code := ab_k_X9_mostShown) (nL := 4) (L0 := [some (mr 0), some (.inl q), none, none]) (n := 24) rfl rfl rfl rfl rfl rfl rfl rfl rfl ?_
  refine im_g 4 (y := (4, _, _, _)) rfl trivial ?_
  refine im_for 99 (fun k => (4, [some (mr 0), some (.inl q), some (.inl (lo_mx (fun o => R 20 (99 * q + o)) k)), some (.inl (k : Int))], [], MW v R)) (fun k hk ih => ?_) ?_
  · have hb1 := hb (99 * q + (k : Int)) (by omega) (by omega)
    have hm1 : 0 ≤ (lo_mx (fun o => R 20 (99 * q + o)) k) ∧ (lo_mx (fun o => R 20 (99 * q + o)) k) ≤ 100 := ⟨lo_mx_0 _ k, lo_mx_le _ (by decide) k (fun j hj => (hb (99 * q + (j : Int)) (by omega) (by omega)).2)⟩
    refine im_g 2 (y := (7, _, _, _)) rfl trivial ?_
    refine im_bF rfl rfl ⟨(by omega), (by omega), trivial⟩ (by omega) ?_
    refine im_g 9 (y := (22, _, _, _)) rfl ⟨(by omega), trivial⟩ ?_
    refine im_call [] rfl rfl (m_greater (a := (lo_mx (fun o => R 20 (99 * q + o)) k)) (b := R 20 (99 * q + (k : Int))) (by omega) hT (by omega) (by omega)) rfl rfl rfl (by decide) rfl (by decide) hT (fun v1 w1 hq => ?_)
    obtain ⟨rfl, rfl⟩ := hq
    refine ⟨_, _, MW v R, rfl, rfl, rfl, ?_⟩
    refine im_g 3 (y := (4, _, _, _)) rfl trivial ?_
    exact ih
  · refine im_g 2 (y := (7, _, _, _)) rfl trivial ?_
    refine im_bT rfl rfl ⟨(by omega), (by omega), trivial⟩ (by omega) ?_
    refine im_g 1 (y := (33, _, _, _)) rfl trivial ?_
    refine im_r rfl rfl trivial rfl ?_
    exact ⟨rfl, rfl⟩
theorem lo_mx_same (g h : Int → Int) : ∀ n : Nat, (∀ i : Nat, i < n → g (i : Int) = h (i : Int)) → lo_mx g n = lo_mx h n
  | 0, _ => rfl
  | n + 1, e => by
    have ih := lo_mx_same g h n (fun i hi => e i (by omega))
    show max (lo_mx g n) (g (n : Int)) = max (lo_mx h n) (h (n : Int))
    rw [ih, e n (by omega)]
set_option maxHeartbeats 8000000 in
theorem m_look (hd : 86 ≤ d) (hT : T.length < 1000) (ht : TLS v R lv L lw) (h30 : v 30 = 0) {wh : Int} (hw : im_ir wh) : im_ct ro T d 224 [mr 0, .inl wh] (MW v R) (fun r w => r = some (.inl (lo_ans lw lv L wh)) ∧ ∃ v1 R1 f, w = MW v1 (pl_U R1 20 f) ∧ QZ v R v1 R1 ∧ R1 2 = R 2) := by
  obtain ⟨d, rfl⟩ : ∃ e, d = e + 1 := ⟨d - 1, by omega⟩
  have hpar := lk_par ht.2.1
  refine im_ct_of (own := 9) (ret := (some .int)) (code := ab_k_X9_look) (nL := 7) (L0 := [some (mr 0), some (.inl wh), none, none, none, none, none]) (n := 24) rfl rfl rfl rfl rfl rfl rfl rfl rfl ?_
  refine im_g 3 (y := (3, _, _, _)) rfl trivial ?_
  refine im_call [] rfl rfl (m_lies (x := wh) (a := 0) (b := 1) (by omega) hT (by omega) (by omega) (by omega)) rfl rfl rfl (by decide) rfl (by decide) hT (fun v1 w1 hq => ?_)
  obtain ⟨rfl, rfl⟩ := hq
  refine ⟨_, _, MW v R, rfl, rfl, rfl, ?_⟩
  refine im_b rfl rfl ⟨(by omega), trivial⟩ (fun br1 => ?_) (fun br1 => ?_)
  · have c6 : 0 ≤ wh ∧ wh ≤ 1 := by
      by_cases hh : 0 ≤ wh ∧ wh ≤ 1
      · exact hh
      · rw [if_neg hh] at br1; exact absurd rfl br1
    clear br1
    refine im_g 2 (y := (13, _, _, _)) rfl trivial ?_
    have hwh : 0 ≤ wh ∧ wh ≤ 1 := c6
    have k3 : ∀ (v1 : Nat → Int) (R1 : Nat → Int → Int) (f : Int → Int), QZ v R v1 R1 → R1 2 = R 2 → (∀ q o, 0 ≤ q → q < lv 0 → 0 ≤ o → o ≤ 98 → f (99 * q + o) = lo_sh lw lv L q o (lv 0).toNat) → (∀ i, 0 ≤ i → i < 990 → 0 ≤ f i ∧ f i ≤ 20) → ∀ (j k : Nat), (k : Int) + j = lv 0 → ∀ x6 : Option im_V, im_wp ro (ab_Ev ro ab_codes d) 9 (some .int) ab_k_X9_look 24 T (fun r w => r = some (.inl (lo_ans lw lv L wh)) ∧ ∃ v1 R1 f, w = MW v1 (pl_U R1 20 f) ∧ QZ v R v1 R1 ∧ R1 2 = R 2) (121, [some (mr 0), some (.inl wh), some (.inl ((fh lw lv L (lv 0).toNat).1 : Int)), some (.inl (if (fh lw lv L (lv 0).toNat).1 = 0 then -1 else (lo_lk lw lv L k).1)), some (.inl (if (fh lw lv L (lv 0).toNat).1 = 0 then 1000000 else (lo_lk lw lv L k).2)), some (.inl (k : Int)), x6], [], MW v1 (pl_U R1 20 f)) := by
      intro v1 R1 f hz h2 hf hfb j
      have e1 : (pl_U R1 20 f) 2 110 = lv 0 := (congrFun h2 110).trans ht.1.1.1
      induction j with
      | zero =>
        intro k hk x6
        obtain rfl : k = (lv 0).toNat := by omega
        have hlb := lo_lk_b lw ht.2.1 (lv 0).toNat
        have hfh := fh_b lw lv L (lv 0).toNat
        by_cases hm : (fh lw lv L (lv 0).toNat).1 = 0
        · rw [if_pos hm, if_pos hm]
          refine im_g 5 (y := (130, _, _, _)) rfl ⟨(by omega), trivial⟩ ?_
          refine im_bT rfl rfl ⟨(by first | (rw [e1]; constructor <;> omega) | omega), (by first | (rw [e1]; constructor <;> omega) | omega), trivial⟩ (by omega) ?_
          refine im_g 2 (y := (170, _, _, _)) rfl trivial ?_
          refine im_bT rfl rfl ⟨(by decide), (by decide), trivial⟩ rfl ?_
          refine im_g 2 (y := (183, _, _, _)) rfl trivial ?_
          refine im_r rfl rfl trivial rfl ?_
          have e : lo_ans lw lv L wh = -1 := if_pos (Or.inr (Or.inr hm))
          rw [e]
          exact ⟨rfl, v1, R1, f, rfl, hz, h2⟩
        · rw [if_neg hm, if_neg hm]
          have hn0 : 0 < (lv 0).toNat := by
            by_cases z : 0 < (lv 0).toNat
            · exact z
            · exfalso
              have z0 : (lv 0).toNat = 0 := by omega
              rw [z0] at hm
              exact hm rfl
          have hl3 := hlb.2.2 hn0
          refine im_g 5 (y := (130, _, _, _)) rfl ⟨(by omega), trivial⟩ ?_
          refine im_bT rfl rfl ⟨(by first | (rw [e1]; constructor <;> omega) | omega), (by first | (rw [e1]; constructor <;> omega) | omega), trivial⟩ (by omega) ?_
          refine im_g 2 (y := (170, _, _, _)) rfl trivial ?_
          refine im_bF rfl rfl ⟨(by omega), (by omega), trivial⟩ (by omega) ?_
          refine im_g 1 (y := (174, _, _, _)) rfl trivial ?_
          refine im_b rfl rfl ⟨(by omega), trivial⟩ (fun br1 => ?_) (fun br1 => ?_)
          · refine im_g 1 (y := (183, _, _, _)) rfl trivial ?_
            refine im_r rfl rfl trivial rfl ?_
            have e : lo_ans lw lv L wh = (lo_lk lw lv L (lv 0).toNat).2 := by
              unfold lo_ans
              rw [if_neg (by omega), if_neg (by omega)]
            rw [e]
            exact ⟨rfl, v1, R1, f, rfl, hz, h2⟩
          · refine im_g 2 (y := (183, _, _, _)) rfl trivial ?_
            refine im_r rfl rfl trivial rfl ?_
            have e : lo_ans lw lv L wh = (lo_lk lw lv L (lv 0).toNat).1 := by
              unfold lo_ans
              rw [if_neg (by omega), if_pos (by omega)]
            rw [e]
            exact ⟨rfl, v1, R1, f, rfl, hz, h2⟩
      | succ j ih =>
        intro k hk x6
        have hlb := lo_lk_b lw ht.2.1 k
        have hfh := fh_b lw lv L (lv 0).toNat
        have hmx := lo_mx_b lw lv L (k : Int) (lv 0).toNat 99
        by_cases hm : (fh lw lv L (lv 0).toNat).1 = 0
        · rw [if_pos hm, if_pos hm]
          refine im_g 5 (y := (130, _, _, _)) rfl ⟨(by omega), trivial⟩ ?_
          refine im_bF rfl rfl ⟨(by first | (rw [e1]; constructor <;> omega) | omega), (by first | (rw [e1]; constructor <;> omega) | omega), trivial⟩ (by omega) ?_
          refine im_g 1 (y := (134, _, _, _)) rfl trivial ?_
          refine im_bT rfl rfl ⟨(by omega), trivial⟩ (by omega) ?_
          refine im_g 2 (y := (170, _, _, _)) rfl trivial ?_
          refine im_bT rfl rfl ⟨(by decide), (by decide), trivial⟩ rfl ?_
          refine im_g 2 (y := (183, _, _, _)) rfl trivial ?_
          refine im_r rfl rfl trivial rfl ?_
          have e : lo_ans lw lv L wh = -1 := if_pos (Or.inr (Or.inr hm))
          rw [e]
          exact ⟨rfl, v1, R1, f, rfl, hz, h2⟩
        · rw [if_neg hm, if_neg hm]
          have emx : lo_mx (fun o => (pl_U R1 20 f) 20 (99 * (k : Int) + o)) 99 = (lo_mx (fun o => lo_sh lw lv L (k : Int) o (lv 0).toNat) 99) := lo_mx_same _ _ 99 (fun i hi => hf (k : Int) (i : Int) (by omega) (by omega) (by omega) (by omega))
          have el : lo_lk lw lv L (k + 1) = if (lo_mx (fun o => lo_sh lw lv L (k : Int) o (lv 0).toNat) 99) < (lo_lk lw lv L k).2 then ((k : Int), (lo_mx (fun o => lo_sh lw lv L (k : Int) o (lv 0).toNat) 99)) else lo_lk lw lv L k := rfl
          simp only [if_neg hm] at ih
          refine im_g 5 (y := (130, _, _, _)) rfl ⟨(by omega), trivial⟩ ?_
          refine im_bF rfl rfl ⟨(by first | (rw [e1]; constructor <;> omega) | omega), (by first | (rw [e1]; constructor <;> omega) | omega), trivial⟩ (by omega) ?_
          refine im_g 1 (y := (134, _, _, _)) rfl trivial ?_
          refine im_bF rfl rfl ⟨(by omega), trivial⟩ (by omega) ?_
          refine im_g 2 (y := (140, _, _, _)) rfl trivial ?_
          refine im_cM rfl rfl (m_mostShown (v := v1) (R := pl_U R1 20 f) (q := (k : Int)) (by omega) hT (by omega) (fun i q1 q2 => by have t := hfb i q1 q2; exact ⟨t.1, Int.le_trans t.2 (by decide)⟩)) rfl hT (fun v1 w1 hq => ?_)
          obtain ⟨rfl, rfl⟩ := hq
          refine ⟨v1, (pl_U R1 20 f), rfl, rfl, ?_⟩
          rw [emx]
          refine im_g 3 (y := (149, _, _, _)) rfl trivial ?_
          refine im_b rfl rfl ⟨(by omega), (by omega), trivial⟩ (fun br1 => ?_) (fun br1 => ?_)
          · refine im_g 6 (y := (121, _, _, _)) rfl trivial ?_
            rw [if_pos (by omega)] at el
            have t := ih (k + 1) (by omega) (some (.inl (lo_mx (fun o => lo_sh lw lv L (k : Int) o (lv 0).toNat) 99)))
            rw [el] at t
            exact t
          · refine im_g 3 (y := (121, _, _, _)) rfl trivial ?_
            rw [if_neg (by omega)] at el
            have t := ih (k + 1) (by omega) (some (.inl (lo_mx (fun o => lo_sh lw lv L (k : Int) o (lv 0).toNat) 99)))
            rw [el] at t
            exact t
    have k2 : ∀ (j m : Nat), (m : Int) + j = lv 0 → ∀ (v1 : Nat → Int) (R1 : Nat → Int → Int) (f : Int → Int) (x4 : Option im_V), QZ v R v1 R1 → R1 2 = R 2 → (∀ q o, 0 ≤ q → q < lv 0 → 0 ≤ o → o ≤ 98 → f (99 * q + o) = lo_sh lw lv L q o m) → (∀ i, 0 ≤ i → i < 990 → 0 ≤ f i ∧ f i ≤ 20) → im_wp ro (ab_Ev ro ab_codes d) 9 (some .int) ab_k_X9_look 24 T (fun r w => r = some (.inl (lo_ans lw lv L wh)) ∧ ∃ v1 R1 f, w = MW v1 (pl_U R1 20 f) ∧ QZ v R v1 R1 ∧ R1 2 = R 2) (37, [some (mr 0), some (.inl wh), some (.inl ((fh lw lv L m).1 : Int)), some (.inl (m : Int)), x4, none, none], [], MW v1 (pl_U R1 20 f)) := by
      intro j
      induction j with
      | zero =>
        intro m hm v1 R1 f x4 hz h2 hf hfb
        obtain rfl : m = (lv 0).toNat := by omega
        have e1 : (pl_U R1 20 f) 2 110 = lv 0 := (congrFun h2 110).trans ht.1.1.1
        refine im_g 5 (y := (45, _, _, _)) rfl ⟨(by omega), trivial⟩ ?_
        refine im_bT rfl rfl ⟨(by first | (rw [e1]; constructor <;> omega) | omega), (by first | (rw [e1]; constructor <;> omega) | omega), trivial⟩ (by omega) ?_
        refine im_g 6 (y := (121, _, _, _)) rfl trivial ?_
        have t := k3 v1 R1 f hz h2 hf hfb (lv 0).toNat 0 (by omega) none
        rw [show (if (fh lw lv L (lv 0).toNat).1 = 0 then (-1 : Int) else (lo_lk lw lv L 0).1) = -1 by split <;> rfl, show (if (fh lw lv L (lv 0).toNat).1 = 0 then (1000000 : Int) else (lo_lk lw lv L 0).2) = 1000000 by split <;> rfl] at t
        exact t
      | succ j ih =>
        intro m hm v1 R1 f x4 hz h2 hf hfb
        have e1 : (pl_U R1 20 f) 2 110 = lv 0 := (congrFun h2 110).trans ht.1.1.1
        have h30' : v1 30 = 0 := (hz.1 30 (by decide) (by decide) (by decide) (by decide) (by decide)).trans h30
        have htl : TLS v1 (pl_U R1 20 f) lv L lw := by
          obtain ⟨x1, x2, x3, x4, x5, x6⟩ := ht
          show TLS v1 R1 lv L lw
          unfold TLS
          rw [h2]
          exact ⟨x1, x2, x3, x4, x5, Or.inl h30'⟩
        have es : fh lw lv L (m + 1) = if fh_is lw lv L (m : Int) = true then ((fh lw lv L m).1 + 1, im_up (fh lw lv L m).2 ((fh lw lv L m).1 : Int) (m : Int)) else fh lw lv L m := rfl
        have hfm := fh_b lw lv L m
        refine im_g 5 (y := (45, _, _, _)) rfl ⟨(by omega), trivial⟩ ?_
        refine im_bF rfl rfl ⟨(by first | (rw [e1]; constructor <;> omega) | omega), (by first | (rw [e1]; constructor <;> omega) | omega), trivial⟩ (by omega) ?_
        refine im_g 2 (y := (50, _, _, _)) rfl trivial ?_
        refine im_cM rfl rfl (m_isHid (v := v1) (R := pl_U R1 20 f) (lv := lv) (L := L) (lw := lw) (by omega) hT htl h30' (p := (m : Int)) (by omega)) rfl hT (fun v1 w1 hq => ?_)
        obtain ⟨rfl, v2, R2, rfl, hz2, h22, hov⟩ := hq
        refine ⟨v2, R2, rfl, rfl, ?_⟩
        have hr20 : R2 20 = f := hz2.2 20 (by decide) (by decide) (by decide) (by decide) (by decide)
        have eR : R2 = pl_U (pl_U R2 20 (R 20)) 20 f := by
          funext j
          unfold pl_U
          by_cases e20 : j = 20
          · rw [if_pos e20, e20]; exact hr20
          · rw [if_neg e20, if_neg e20]
        have hz3 : QZ v R v2 (pl_U R2 20 (R 20)) := by
          refine ⟨fun j q1 q2 q3 q4 q5 => (hz2.1 j q1 q2 q3 q4 q5).trans (hz.1 j q1 q2 q3 q4 q5), fun j q1 q2 q3 q4 q5 => ?_⟩
          unfold pl_U
          by_cases e20 : j = 20
          · rw [if_pos e20, e20]
          · rw [if_neg e20, hz2.2 j q1 q2 q3 q4 q5]
            show pl_U R1 20 f j = R j
            unfold pl_U
            rw [if_neg e20]
            exact hz.2 j q1 q2 q3 q4 q5
        have h23 : (pl_U R2 20 (R 20)) 2 = R 2 := h22.trans h2
        rw [eR]
        replace hov : fh_is lw lv L (m : Int) = true → ∀ x, 0 ≤ x → x < lv 0 → (pl_U R2 20 (R 20)) 17 x = lo_ov lw lv L (m : Int) x := hov
        generalize pl_U R2 20 (R 20) = R3 at hz3 h23 hov ⊢
        refine im_b rfl rfl ⟨(by omega), trivial⟩ (fun br1 => ?_) (fun br1 => ?_)
        · have c53 : fh_is lw lv L (m : Int) = true := by
            by_cases hh : fh_is lw lv L (m : Int) = true
            · exact hh
            · rw [if_neg hh] at br1; exact absurd rfl br1
          clear br1
          refine im_g 3 (y := (65, _, _, _)) rfl trivial ?_
          rw [if_pos c53] at es
          have hov := hov c53
          have ki : ∀ (t k : Nat), (k : Int) + t = lv 0 → ∀ f : Int → Int, (∀ q o, 0 ≤ q → q < lv 0 → 0 ≤ o → o ≤ 98 → f (99 * q + o) = lo_sh lw lv L q o (if q < (k : Int) then m + 1 else m)) → (∀ i, 0 ≤ i → i < 990 → 0 ≤ f i ∧ f i ≤ 20) → im_wp ro (ab_Ev ro ab_codes d) 9 (some .int) ab_k_X9_look 24 T (fun r w => r = some (.inl (lo_ans lw lv L wh)) ∧ ∃ v1 R1 f, w = MW v1 (pl_U R1 20 f) ∧ QZ v R v1 R1 ∧ R1 2 = R 2) (65, [some (mr 0), some (.inl wh), some (.inl (((fh lw lv L m).1 : Int) + 1)), some (.inl (m : Int)), some (.inl ((k : Int))), none, none], [], MW v2 (pl_U R3 20 f)) := by
            intro t
            induction t with
            | zero =>
              intro k hk f hf hfb
              have e1 : (pl_U R3 20 f) 2 110 = lv 0 := (congrFun h23 110).trans ht.1.1.1
              refine im_g 5 (y := (74, _, _, _)) rfl ⟨(by omega), trivial⟩ ?_
              refine im_bT rfl rfl ⟨(by first | (rw [e1]; constructor <;> omega) | omega), (by first | (rw [e1]; constructor <;> omega) | omega), trivial⟩ (by omega) ?_
              refine im_g 2 (y := (37, _, _, _)) rfl trivial ?_
              have hf2 : ∀ q o, 0 ≤ q → q < lv 0 → 0 ≤ o → o ≤ 98 → f (99 * q + o) = lo_sh lw lv L q o (m + 1) := by
                intro q o q1 q2 q3 q4
                have t := hf q o q1 q2 q3 q4
                rw [if_pos (by omega)] at t
                exact t
              have t := ih (m + 1) (by omega) v2 R3 f (some (.inl (k : Int))) hz3 h23 hf2 hfb
              rw [es] at t
              exact t
            | succ t iht =>
              intro k hk f hf hfb
              have e1 : (pl_U R3 20 f) 2 110 = lv 0 := (congrFun h23 110).trans ht.1.1.1
              have eo := hov (k : Int) (by omega) (by omega)
              have hob := lo_ov_b lw ht.2.1 (m : Int) (q := (k : Int)) (by omega) (by omega)
              generalize hO : lo_ov lw lv L (m : Int) (k : Int) = O at eo hob
              have hb1 := hfb (99 * (k : Int) + O) (by omega) (by omega)
              have ho1 := hf (k : Int) O (by omega) (by omega) (by omega) (by omega)
              rw [if_neg (by omega)] at ho1
              have hsb := lo_sh_b lw lv L (k : Int) O m
              refine im_g 5 (y := (74, _, _, _)) rfl ⟨(by omega), trivial⟩ ?_
              refine im_bF rfl rfl ⟨(by first | (rw [e1]; constructor <;> omega) | omega), (by first | (rw [e1]; constructor <;> omega) | omega), trivial⟩ (by omega) ?_
              refine im_g 10 (y := (94, _, _, _)) rfl ⟨(by omega), trivial⟩ ?_
              refine im_eqs (y := (94, [some (mr 0), some (.inl wh), some (.inl (((fh lw lv L m).1 : Int) + 1)), some (.inl (m : Int)), some (.inl (k : Int)), none, none], [.inl (99 * (k : Int) + O), mr 20], MW v2 (pl_U R3 20 f))) (by rw [← eo]; rfl) ?_
              refine im_g 5 (y := (99, _, _, _)) rfl ⟨(by omega), trivial⟩ ?_
              refine im_eqs (y := (99, [some (mr 0), some (.inl wh), some (.inl (((fh lw lv L m).1 : Int) + 1)), some (.inl (m : Int)), some (.inl (k : Int)), none, none], [.inl (f (99 * (k : Int) + O) + 1), .inl (99 * (k : Int) + O), mr 20], MW v2 (pl_U R3 20 f))) (by rw [← im_byte_id (x := f (99 * (k : Int) + O) + 1) (by omega)]; rfl) ?_
              refine im_g 3 (y := (65, _, _, _)) rfl ⟨(by omega), (by omega), trivial⟩ ?_
              have t2 := iht (k + 1) (by omega) (im_up f (99 * (k : Int) + O) (f (99 * (k : Int) + O) + 1)) ?a1 ?a2
              · exact t2
              · intro q o q1 q2 q3 q4
                by_cases eq : q = (k : Int)
                · subst eq
                  rw [if_pos (by omega)]
                  have es2 : lo_sh lw lv L (k : Int) o (m + 1) = lo_sh lw lv L (k : Int) o m + (if fh_is lw lv L (m : Int) = true ∧ lo_ov lw lv L (m : Int) (k : Int) = o then 1 else 0) := rfl
                  rw [es2, hO]
                  by_cases eo2 : O = o
                  · subst eo2
                    rw [im_up_self, ho1, if_pos ⟨c53, rfl⟩]
                  · rw [if_neg (fun z => eo2 z.2), im_up_ne _ _ (by omega)]
                    have t3 := hf (k : Int) o (by omega) (by omega) q3 q4
                    rw [if_neg (by omega)] at t3
                    rw [t3]
                    omega
                · rw [im_up_ne _ _ (by omega), hf q o q1 q2 q3 q4]
                  congr 1
                  by_cases z : q < (k : Int)
                  · rw [if_pos z, if_pos (by omega)]
                  · rw [if_neg z, if_neg (by omega)]
              · intro i q1 q2
                have t3 := hfb i q1 q2
                unfold im_up
                split
                · omega
                · exact t3
          have t2 := ki (lv 0).toNat 0 (by omega) f (fun q o q1 q2 q3 q4 => by rw [if_neg (by omega)]; exact hf q o q1 q2 q3 q4) hfb
          exact t2
        · have c53 : ¬ (fh_is lw lv L (m : Int) = true) := by
            intro hh
            rw [if_pos hh] at br1
            exact br1 (by decide)
          clear br1
          refine im_g 3 (y := (37, _, _, _)) rfl trivial ?_
          rw [if_neg c53] at es
          have hf2 : ∀ q o, 0 ≤ q → q < lv 0 → 0 ≤ o → o ≤ 98 → f (99 * q + o) = lo_sh lw lv L q o (m + 1) := by
            intro q o q1 q2 q3 q4
            have t : lo_sh lw lv L q o (m + 1) = lo_sh lw lv L q o m + 0 := by
              show _ + (if _ then _ else _) = _
              rw [if_neg (fun z => c53 z.1)]
            rw [t, Int.add_zero]
            exact hf q o q1 q2 q3 q4
          have t := ih (m + 1) (by omega) v2 R3 f x4 hz3 h23 hf2 hfb
          rw [es] at t
          exact t
    have k1 : ∀ (j k : Nat), k + j = 990 → ∀ f : Int → Int, (∀ i, 0 ≤ i → i < (k : Int) → f i = 0) → im_wp ro (ab_Ev ro ab_codes d) 9 (some .int) ab_k_X9_look 24 T (fun r w => r = some (.inl (lo_ans lw lv L wh)) ∧ ∃ v1 R1 f, w = MW v1 (pl_U R1 20 f) ∧ QZ v R v1 R1 ∧ R1 2 = R 2) (13, [some (mr 0), some (.inl wh), some (.inl (k : Int)), none, none, none, none], [], MW v (pl_U R 20 f)) := by
      intro j
      induction j with
      | zero =>
        intro k hk f hf
        obtain rfl : k = 990 := by omega
        refine im_g 2 (y := (17, _, _, _)) rfl trivial ?_
        refine im_bT rfl rfl ⟨(by omega), (by omega), trivial⟩ (by omega) ?_
        refine im_g 4 (y := (37, _, _, _)) rfl trivial ?_
        have t := k2 (lv 0).toNat 0 (by omega) v R f none (QZ_0 v R) rfl (fun q o q1 q2 q3 q4 => hf _ (by omega) (by omega)) (fun i q1 q2 => by rw [hf i q1 (by omega)]; decide)
        exact t
      | succ j ih =>
        intro k hk f hf
        refine im_g 2 (y := (17, _, _, _)) rfl trivial ?_
        refine im_bF rfl rfl ⟨(by omega), (by omega), trivial⟩ (by omega) ?_
        refine im_g 7 (y := (13, _, _, _)) rfl ⟨(by omega), (by omega), trivial⟩ ?_
        exact ih (k + 1) (by omega) (im_up f (k : Int) 0) (fun i q1 q2 => by unfold im_up; split; rfl; exact hf i q1 (by omega))
    refine im_eqs (y := (13, [some (mr 0), some (.inl wh), some (.inl ((0 : Nat) : Int)), none, none, none, none], [], MW v (pl_U R 20 (R 20)))) rfl ?_
    exact k1 990 0 rfl (R 20) (fun i q1 q2 => absurd q1 (by omega))
  · have c6 : ¬ (0 ≤ wh ∧ wh ≤ 1) := by
      intro hh
      rw [if_pos hh] at br1
      exact br1 (by decide)
    clear br1
    refine im_g 1 (y := (10, _, _, _)) rfl trivial ?_
    refine im_r rfl rfl trivial rfl ?_
    have e : lo_ans lw lv L wh = -1 := if_pos (by omega)
    rw [e]
    exact ⟨rfl, v, R, R 20, rfl, QZ_0 v R, rfl⟩
end Lk2
