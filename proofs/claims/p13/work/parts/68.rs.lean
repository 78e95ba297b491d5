/-! the reference reads a text; a law -/
def rs_ok (y : Int ⊕ List dC) : Int := match y with
  | .inl _ => 0
  | .inr _ => 1
def rs_f (A : Int → Int) (N : Int) (y : Int ⊕ List dC) : Int := match y with
  | .inl f => tk_Q A N f
  | .inr _ => -1
theorem rs_ok_c (q : dC) (y : Int ⊕ List dC) : rs_ok (ccat q y) = rs_ok y := by
  match y with
  | .inl f => rfl
  | .inr r => rfl
theorem rs_f_c (A : Int → Int) (N : Int) (q : dC) (y : Int ⊕ List dC) : rs_f A N (ccat q y) = rs_f A N y := by
  match y with
  | .inl f => rfl
  | .inr r => rfl
abbrev R3 (R : Nat → Int → Int) (c9 c10 c11 : Int → Int) : Nat → Int → Int := pl_U (pl_U (pl_U R 9 c9) 10 c10) 11 c11
/-- what a text's reading leaves of the numbers -/
def VRs (v : Nat → Int) (od : Bool) (nt t l f : Int) : Nat → Int := pl_U (PW (pl_U (pl_U (pl_U (pl_U (pl_U v 10 (e_bi od)) 8 (d_first od)) 9 (d_last od)) 18 nt) 13 0) t l f) 14 f
/-- a text laid -/
def kl_ (t n : Int) (c x K : Int → Int) : Nat → Int → Int
  | 0 => im_up K (114 + t) n
  | k + 1 => im_up (im_up (kl_ t n c x K k) (121 + 400 * t + (k : Int)) (c k)) (2921 + 400 * t + (k : Int)) (x k)
theorem kl_at {t n : Int} {c x K : Int → Int} (ht : 0 ≤ t ∧ t ≤ 6) : ∀ m : Nat, (m : Int) ≤ 400 → kl_ t n c x K m (114 + t) = n ∧ (∀ k : Int, 0 ≤ k → k < m → kl_ t n c x K m (121 + 400 * t + k) = c k ∧ kl_ t n c x K m (2921 + 400 * t + k) = x k) ∧ ∀ i, i ≠ 114 + t → (i < 121 + 400 * t ∨ 121 + 400 * t + m ≤ i) → (i < 2921 + 400 * t ∨ 2921 + 400 * t + m ≤ i) → kl_ t n c x K m i = K i := by
  intro m
  induction m with
  | zero =>
    intro _
    refine ⟨?_, fun k q1 q2 => absurd q1 (by omega), fun i q1 _ _ => ?_⟩
    · show im_up K (114 + t) n (114 + t) = n
      exact im_up_self _ _ _
    · show im_up K (114 + t) n i = K i
      exact im_up_ne _ _ q1
  | succ m ih =>
    intro hm
    obtain ⟨h1, h2, h3⟩ := ih (by omega)
    refine ⟨?_, fun k q1 q2 => ⟨?_, ?_⟩, fun i q1 q2 q3 => ?_⟩
    · show im_up (im_up _ _ _) _ _ _ = _
      rw [im_up_ne _ _ (by omega), im_up_ne _ _ (by omega)]
      exact h1
    · show im_up (im_up _ _ _) _ _ _ = _
      rw [im_up_ne _ _ (by omega)]
      by_cases e : k = m
      · rw [e]; exact im_up_self _ _ _
      · rw [im_up_ne _ _ (by omega)]
        exact (h2 k q1 (by omega)).1
    · show im_up (im_up _ _ _) _ _ _ = _
      by_cases e : k = m
      · rw [e]; exact im_up_self _ _ _
      · rw [im_up_ne _ _ (by omega), im_up_ne _ _ (by omega)]
        exact (h2 k q1 (by omega)).2
    · show im_up (im_up _ _ _) _ _ _ = _
      rw [im_up_ne _ _ (by omega), im_up_ne _ _ (by omega)]
      exact h3 i q1 (by omega) (by omega)
/-- a law read -/
def km_law (A : Int → Int) (y : Int ⊕ List dC) (t l : Int) (c9 c10 c11 : Int → Int) (v : Nat → Int) (R : Nat → Int → Int) : Int × (Nat → Int) × (Nat → Int → Int) := if R 2 112 = 6 then (-5, pl_U (pl_U v 13 0) 0 (-5), kp_ref (-5) R) else match y with
  | .inl f => (-6, pl_U (VRs v false (tk_nt A (v 13)) t l (tk_Q A (v 13) f)) 0 (-6), kp_ref (-6) (R3 R c9 c10 c11))
  | .inr _ => (R 2 112, pl_U (VRs v false (tk_nt A (v 13)) t l (-1)) 0 0, pl_U (R3 R c9 c10 c11) 2 (im_up (kl_ (R 2 112) (tk_nt A (v 13)) c9 c10 (R 2) (tk_nt A (v 13)).toNat) 112 (R 2 112 + 1)))
section Rs2
variable {ro : ab_R} {T : List im_T} {d : Nat}
theorem r_fDv (hd : 1 ≤ d) (hT : T.length < 1000) {v : Nat → Int} {R : Nat → Int → Int} {t l b x : Int} (hb : 0 ≤ b ∧ b ≤ 400) : im_ct ro T d 150 [mr 0] (MW (pl_U (PW v t l b) 14 x) R) (fun r w => r = some (.inl 0) ∧ w = MW (pl_U (PW v t l b) 14 x) R) := r_fD (v := pl_U v 14 x) (R := R) (t := t) (l := l) (b := b) hd hT hb
theorem r_fAv (hd : 1 ≤ d) (hT : T.length < 1000) {v : Nat → Int} {R : Nat → Int → Int} {t l x : Int} : im_ct ro T d 150 [mr 0] (MW (pl_U (PW v t l (-1)) 14 x) R) (fun r w => r = some (.inl 1) ∧ w = MW (pl_U (PW v t l (-1)) 14 x) R) := r_fA (v := pl_U v 14 x) (R := R) (i := t) (l := l) hd hT
set_option maxHeartbeats 8000000 in
theorem r_reads (hd : 80 ≤ d) (hT : T.length < 1000) {od : Bool} {v : Nat → Int} {R : Nat → Int → Int} {A : Int → Int} (hA : TA A R) (hW : WL (R 6) 0 tk_words) (hN : 0 ≤ v 13 ∧ v 13 ≤ 400) (ho : v 8 = d_first od ∧ v 9 = d_last od ∧ v 10 = e_bi od) {n : Nat} {rs : Int ⊕ List dC} (hall : d_all od (tk_C A (v 13)) (tk_X A (v 13)) n (tk_nt A (v 13)) = some rs) : im_ct ro T d 166 [mr 0] (MW v R) (fun r w => r = some (.inl (rs_ok rs)) ∧ ∃ t l c9 c10 c11, w = MW (pl_U (PW (pl_U (pl_U v 18 (tk_nt A (v 13))) 13 0) t l (rs_f A (v 13) rs)) 14 (rs_f A (v 13) rs)) (R3 R c9 c10 c11) ∧ TKS A (v 13) (R3 R c9 c10 c11)) := by
  obtain ⟨d, rfl⟩ : ∃ e, d = e + 1 := ⟨d - 1, by omega⟩
  have hAo := TA_ok hA
  have htn := (tk_nt_b (A := A) hN).1
  refine im_ct_of (own := 9) (ret := (some .boolean)) (code := ab_k_X9_reads) (nL := 2) (L0 := [some (mr 0), none]) (n := 24) rfl rfl rfl rfl rfl rfl rfl rfl rfl ?_
  refine im_g 3 (y := (5, _, _, _)) rfl trivial ?_
  refine im_cM rfl rfl (r_splits (v := v) (R := R) (A := A) (N := v 13) (by omega) hT hA hW hN) rfl hT (fun v1 w1 hq => ?_)
  obtain ⟨rfl, c9, c10, c11, rfl, hk⟩ := hq
  refine ⟨(pl_U v 18 (tk_nt A (v 13))), (R3 R c9 c10 c11), rfl, rfl, ?_⟩
  have hP : RPR od A (v 13) (pl_U (pl_U v 18 (tk_nt A (v 13))) 13 0) (R3 R c9 c10 c11) := ⟨hAo, hN, hk, ho⟩
  refine im_g 12 (y := (28, _, _, _)) rfl trivial ?_
  have key : ∀ (p m : Nat) (j l : Int) (y : Int ⊕ List dC), m + p = 12 → (0 ≤ j ∧ j ≤ (tk_nt A (v 13))) → (0 ≤ l ∧ l ≤ 50) → d_rest od (tk_C A (v 13)) (tk_X A (v 13)) n (tk_nt A (v 13)) p j l = some y → im_wp ro (ab_Ev ro ab_codes d) 9 (some .boolean) ab_k_X9_reads 24 T (fun r w => r = some (.inl (rs_ok y)) ∧ ∃ t l, w = MW (pl_U (PW (pl_U (pl_U v 18 (tk_nt A (v 13))) 13 0) t l (rs_f A (v 13) y)) 14 (rs_f A (v 13) y)) (R3 R c9 c10 c11)) (34, [some (mr 0), some (.inl (m : Int))], [], MW (PW (pl_U (pl_U v 18 (tk_nt A (v 13))) 13 0) j l (-1)) (R3 R c9 c10 c11)) := by
    intro p
    induction p with
    | zero =>
      intro m j l y hm hj hl hdr
      have hjb := hj.2
      rcases d_rest_d hdr with ⟨h159, hD⟩ | ⟨h159, hrr⟩
      · have hlt := rq_lt (A := A) hN (i := j) (by omega)
        refine im_g 2 (y := (37, _, _, _)) rfl trivial ?_
        refine im_call [] rfl rfl (m_sign (a := 59) (by omega) hT) rfl rfl rfl (by decide) rfl (by decide) hT (fun v1 w1 hq => ?_)
        obtain ⟨rfl, rfl⟩ := hq
        refine ⟨_, _, MW (PW (pl_U (pl_U v 18 (tk_nt A (v 13))) 13 0) j l (-1)) (R3 R c9 c10 c11), rfl, rfl, rfl, ?_⟩
        refine im_cM rfl rfl (r_takeA (v := (pl_U (pl_U v 18 (tk_nt A (v 13))) 13 0)) (R := (R3 R c9 c10 c11)) (A := A) (N := (v 13)) (i := j) (l := l) (c := 100 + 59) (by omega) hT hAo hN hk hj (by decide)) rfl hT (fun v1 w1 hq => ?_)
        obtain ⟨rfl, rfl⟩ := hq
        refine ⟨(PW (pl_U (pl_U v 18 (tk_nt A (v 13))) 13 0) (if tk_C A (v 13) j = 100 + 59 then j + 1 else j) l (-1)), (R3 R c9 c10 c11), rfl, rfl, ?_⟩
        rw [if_pos (show tk_C A (v 13) j = 100 + 59 from h159), if_pos (show tk_C A (v 13) j = 100 + 59 from h159)]
        refine im_bF rfl rfl ⟨(by decide), trivial⟩ (by decide) ?_
        refine im_g 2 (y := (49, _, _, _)) rfl trivial ?_
        refine im_bF rfl rfl ⟨(by omega), (by omega), trivial⟩ (by omega) ?_
        refine im_g 1 (y := (53, _, _, _)) rfl trivial ?_
        refine im_cM rfl rfl (r_faultsA (v := (pl_U (pl_U v 18 (tk_nt A (v 13))) 13 0)) (R := (R3 R c9 c10 c11)) (A := A) (N := (v 13)) (i := j + 1) (l := l) (by omega) hT hAo hN hk (by omega)) rfl hT (fun v1 w1 hq => ?_)
        obtain ⟨rfl, rfl⟩ := hq
        refine ⟨(PW (pl_U (pl_U v 18 (tk_nt A (v 13))) 13 0) (j + 1) l (tk_Q A (v 13) (j + 1))), (R3 R c9 c10 c11), rfl, rfl, ?_⟩
        refine im_g 1 (y := (57, _, _, _)) rfl trivial ?_
        refine im_cM rfl rfl (r_fD (v := (pl_U (pl_U v 18 (tk_nt A (v 13))) 13 0)) (R := (R3 R c9 c10 c11)) (t := (j + 1)) (l := l) (b := (tk_Q A (v 13) (j + 1))) (by omega) hT (rq_Q hN (j + 1))) rfl hT (fun v1 w1 hq => ?_)
        obtain ⟨rfl, rfl⟩ := hq
        refine ⟨(PW (pl_U (pl_U v 18 (tk_nt A (v 13))) 13 0) (j + 1) l (tk_Q A (v 13) (j + 1))), (R3 R c9 c10 c11), rfl, rfl, ?_⟩
        refine im_bT rfl rfl ⟨(by decide), trivial⟩ rfl ?_
        refine im_g 2 (y := (34, _, _, _)) rfl trivial ?_
        refine im_g 2 (y := (37, _, _, _)) rfl trivial ?_
        refine im_call [] rfl rfl (m_sign (a := 59) (by omega) hT) rfl rfl rfl (by decide) rfl (by decide) hT (fun v1 w1 hq => ?_)
        obtain ⟨rfl, rfl⟩ := hq
        refine ⟨_, _, MW (PW (pl_U (pl_U v 18 (tk_nt A (v 13))) 13 0) (j + 1) l (tk_Q A (v 13) (j + 1))) (R3 R c9 c10 c11), rfl, rfl, rfl, ?_⟩
        refine im_cM rfl rfl (r_takeD (v := (pl_U (pl_U v 18 (tk_nt A (v 13))) 13 0)) (R := (R3 R c9 c10 c11)) (t := (j + 1)) (l := l) (b := (tk_Q A (v 13) (j + 1))) (by omega) hT (rq_Q hN (j + 1))) rfl hT (fun v1 w1 hq => ?_)
        obtain ⟨rfl, rfl⟩ := hq
        refine ⟨(PW (pl_U (pl_U v 18 (tk_nt A (v 13))) 13 0) (j + 1) l (tk_Q A (v 13) (j + 1))), (R3 R c9 c10 c11), rfl, rfl, ?_⟩
        refine im_bT rfl rfl ⟨(by decide), trivial⟩ rfl ?_
        refine im_g 1 (y := (74, _, _, _)) rfl trivial ?_
        refine im_cM rfl rfl (r_fD (v := (pl_U (pl_U v 18 (tk_nt A (v 13))) 13 0)) (R := (R3 R c9 c10 c11)) (t := (j + 1)) (l := l) (b := (tk_Q A (v 13) (j + 1))) (by omega) hT (rq_Q hN (j + 1))) rfl hT (fun v1 w1 hq => ?_)
        obtain ⟨rfl, rfl⟩ := hq
        refine ⟨(PW (pl_U (pl_U v 18 (tk_nt A (v 13))) 13 0) (j + 1) l (tk_Q A (v 13) (j + 1))), (R3 R c9 c10 c11), rfl, rfl, ?_⟩
        refine im_bT rfl rfl ⟨(by decide), trivial⟩ rfl ?_
        refine im_g 4 (y := (103, _, _, _)) rfl trivial ?_
        refine im_eqs (y := (103, [some (mr 0), _], [], MW (pl_U (PW (pl_U (pl_U v 18 (tk_nt A (v 13))) 13 0) (j + 1) l (tk_Q A (v 13) (j + 1))) 14 (tk_Q A (v 13) (j + 1))) (R3 R c9 c10 c11))) rfl ?_
        refine im_g 1 (y := (104, _, _, _)) rfl trivial ?_
        refine im_cM rfl rfl (show im_ct ro T d 150 [mr 0] (MW (pl_U (PW (pl_U (pl_U v 18 (tk_nt A (v 13))) 13 0) (j + 1) l (tk_Q A (v 13) (j + 1))) 14 (tk_Q A (v 13) (j + 1))) (R3 R c9 c10 c11)) (fun r w => r = some (.inl 0) ∧ w = MW (pl_U (PW (pl_U (pl_U v 18 (tk_nt A (v 13))) 13 0) (j + 1) l (tk_Q A (v 13) (j + 1))) 14 (tk_Q A (v 13) (j + 1))) (R3 R c9 c10 c11)) from r_fDv (by omega) hT (rq_Q hN (j + 1))) rfl hT (fun v1 w1 hq => ?_)
        obtain ⟨rfl, rfl⟩ := hq
        refine ⟨(pl_U (PW (pl_U (pl_U v 18 (tk_nt A (v 13))) 13 0) (j + 1) l (tk_Q A (v 13) (j + 1))) 14 (tk_Q A (v 13) (j + 1))), (R3 R c9 c10 c11), rfl, rfl, ?_⟩
        refine im_r rfl rfl ⟨(by decide), trivial⟩ rfl ?_
        rw [show y = .inl (j + 1) from hD]
        exact ⟨rfl, (j + 1), l, rfl⟩
      · skip
        rcases hrr with ⟨hlt, hy⟩ | ⟨hge, hy⟩
        · refine im_g 2 (y := (37, _, _, _)) rfl trivial ?_
          refine im_call [] rfl rfl (m_sign (a := 59) (by omega) hT) rfl rfl rfl (by decide) rfl (by decide) hT (fun v1 w1 hq => ?_)
          obtain ⟨rfl, rfl⟩ := hq
          refine ⟨_, _, MW (PW (pl_U (pl_U v 18 (tk_nt A (v 13))) 13 0) j l (-1)) (R3 R c9 c10 c11), rfl, rfl, rfl, ?_⟩
          refine im_cM rfl rfl (r_takeA (v := (pl_U (pl_U v 18 (tk_nt A (v 13))) 13 0)) (R := (R3 R c9 c10 c11)) (A := A) (N := (v 13)) (i := j) (l := l) (c := 100 + 59) (by omega) hT hAo hN hk hj (by decide)) rfl hT (fun v1 w1 hq => ?_)
          obtain ⟨rfl, rfl⟩ := hq
          refine ⟨(PW (pl_U (pl_U v 18 (tk_nt A (v 13))) 13 0) (if tk_C A (v 13) j = 100 + 59 then j + 1 else j) l (-1)), (R3 R c9 c10 c11), rfl, rfl, ?_⟩
          rw [if_neg (show ¬ tk_C A (v 13) j = 100 + 59 from h159), if_neg (show ¬ tk_C A (v 13) j = 100 + 59 from h159)]
          refine im_bT rfl rfl ⟨(by decide), trivial⟩ rfl ?_
          refine im_g 1 (y := (74, _, _, _)) rfl trivial ?_
          refine im_cM rfl rfl (r_fA (v := (pl_U (pl_U v 18 (tk_nt A (v 13))) 13 0)) (R := (R3 R c9 c10 c11)) (i := j) (l := l) (by omega) hT) rfl hT (fun v1 w1 hq => ?_)
          obtain ⟨rfl, rfl⟩ := hq
          refine ⟨(PW (pl_U (pl_U v 18 (tk_nt A (v 13))) 13 0) j l (-1)), (R3 R c9 c10 c11), rfl, rfl, ?_⟩
          refine im_bF rfl rfl ⟨(by decide), trivial⟩ (by decide) ?_
          refine im_g 4 (y := (88, _, _, _)) rfl trivial ?_
          refine im_bF rfl rfl ⟨(by first | (show im_ir (tk_nt A (v 13)); constructor <;> omega) | (show im_ir j; constructor <;> omega)), (by first | (show im_ir (tk_nt A (v 13)); constructor <;> omega) | (show im_ir j; constructor <;> omega)), trivial⟩ (show ¬ tk_nt A (v 13) ≤ j by omega) ?_
          refine im_g 1 (y := (92, _, _, _)) rfl trivial ?_
          refine im_cM rfl rfl (r_faultsA (v := (pl_U (pl_U v 18 (tk_nt A (v 13))) 13 0)) (R := (R3 R c9 c10 c11)) (A := A) (N := (v 13)) (i := j) (l := l) (by omega) hT hAo hN hk hj) rfl hT (fun v1 w1 hq => ?_)
          obtain ⟨rfl, rfl⟩ := hq
          refine ⟨(PW (pl_U (pl_U v 18 (tk_nt A (v 13))) 13 0) j l (tk_Q A (v 13) j)), (R3 R c9 c10 c11), rfl, rfl, ?_⟩
          refine im_g 4 (y := (103, _, _, _)) rfl trivial ?_
          refine im_eqs (y := (103, [some (mr 0), _], [], MW (pl_U (PW (pl_U (pl_U v 18 (tk_nt A (v 13))) 13 0) j l (tk_Q A (v 13) j)) 14 (tk_Q A (v 13) j)) (R3 R c9 c10 c11))) rfl ?_
          refine im_g 1 (y := (104, _, _, _)) rfl trivial ?_
          refine im_cM rfl rfl (r_fDv (v := (pl_U (pl_U v 18 (tk_nt A (v 13))) 13 0)) (R := (R3 R c9 c10 c11)) (t := j) (l := l) (b := (tk_Q A (v 13) j)) (x := (tk_Q A (v 13) j)) (by omega) hT (rq_Q hN j)) rfl hT (fun v1 w1 hq => ?_)
          obtain ⟨rfl, rfl⟩ := hq
          refine ⟨(pl_U (PW (pl_U (pl_U v 18 (tk_nt A (v 13))) 13 0) j l (tk_Q A (v 13) j)) 14 (tk_Q A (v 13) j)), (R3 R c9 c10 c11), rfl, rfl, ?_⟩
          refine im_r rfl rfl ⟨(by decide), trivial⟩ rfl ?_
          rw [hy]
          exact ⟨rfl, j, l, rfl⟩
        · refine im_g 2 (y := (37, _, _, _)) rfl trivial ?_
          refine im_call [] rfl rfl (m_sign (a := 59) (by omega) hT) rfl rfl rfl (by decide) rfl (by decide) hT (fun v1 w1 hq => ?_)
          obtain ⟨rfl, rfl⟩ := hq
          refine ⟨_, _, MW (PW (pl_U (pl_U v 18 (tk_nt A (v 13))) 13 0) j l (-1)) (R3 R c9 c10 c11), rfl, rfl, rfl, ?_⟩
          refine im_cM rfl rfl (r_takeA (v := (pl_U (pl_U v 18 (tk_nt A (v 13))) 13 0)) (R := (R3 R c9 c10 c11)) (A := A) (N := (v 13)) (i := j) (l := l) (c := 100 + 59) (by omega) hT hAo hN hk hj (by decide)) rfl hT (fun v1 w1 hq => ?_)
          obtain ⟨rfl, rfl⟩ := hq
          refine ⟨(PW (pl_U (pl_U v 18 (tk_nt A (v 13))) 13 0) (if tk_C A (v 13) j = 100 + 59 then j + 1 else j) l (-1)), (R3 R c9 c10 c11), rfl, rfl, ?_⟩
          rw [if_neg (show ¬ tk_C A (v 13) j = 100 + 59 from h159), if_neg (show ¬ tk_C A (v 13) j = 100 + 59 from h159)]
          refine im_bT rfl rfl ⟨(by decide), trivial⟩ rfl ?_
          refine im_g 1 (y := (74, _, _, _)) rfl trivial ?_
          refine im_cM rfl rfl (r_fA (v := (pl_U (pl_U v 18 (tk_nt A (v 13))) 13 0)) (R := (R3 R c9 c10 c11)) (i := j) (l := l) (by omega) hT) rfl hT (fun v1 w1 hq => ?_)
          obtain ⟨rfl, rfl⟩ := hq
          refine ⟨(PW (pl_U (pl_U v 18 (tk_nt A (v 13))) 13 0) j l (-1)), (R3 R c9 c10 c11), rfl, rfl, ?_⟩
          refine im_bF rfl rfl ⟨(by decide), trivial⟩ (by decide) ?_
          refine im_g 4 (y := (88, _, _, _)) rfl trivial ?_
          refine im_bT rfl rfl ⟨(by first | (show im_ir (tk_nt A (v 13)); constructor <;> omega) | (show im_ir j; constructor <;> omega)), (by first | (show im_ir (tk_nt A (v 13)); constructor <;> omega) | (show im_ir j; constructor <;> omega)), trivial⟩ (show tk_nt A (v 13) ≤ j by omega) ?_
          refine im_g 4 (y := (103, _, _, _)) rfl trivial ?_
          refine im_eqs (y := (103, [some (mr 0), _], [], MW (pl_U (PW (pl_U (pl_U v 18 (tk_nt A (v 13))) 13 0) j l (-1)) 14 (-1)) (R3 R c9 c10 c11))) rfl ?_
          refine im_g 1 (y := (104, _, _, _)) rfl trivial ?_
          refine im_cM rfl rfl (r_fAv (v := (pl_U (pl_U v 18 (tk_nt A (v 13))) 13 0)) (R := (R3 R c9 c10 c11)) (t := j) (l := l) (x := -1) (by omega) hT) rfl hT (fun v1 w1 hq => ?_)
          obtain ⟨rfl, rfl⟩ := hq
          refine ⟨(pl_U (PW (pl_U (pl_U v 18 (tk_nt A (v 13))) 13 0) j l (-1)) 14 (-1)), (R3 R c9 c10 c11), rfl, rfl, ?_⟩
          refine im_r rfl rfl ⟨(by decide), trivial⟩ rfl ?_
          rw [hy]
          exact ⟨rfl, j, l, rfl⟩
    | succ p ih =>
      intro m j l y hm hj hl hdr
      have hjb := hj.2
      rcases d_rest_d hdr with ⟨h159, hD⟩ | ⟨h159, hrr⟩
      · have hlt := rq_lt (A := A) hN (i := j) (by omega)
        rcases hD with ⟨f2, hc, hy⟩ | ⟨j2, l2, q2, y2, hc, hd9, hy⟩
        · refine im_g 2 (y := (37, _, _, _)) rfl trivial ?_
          refine im_call [] rfl rfl (m_sign (a := 59) (by omega) hT) rfl rfl rfl (by decide) rfl (by decide) hT (fun v1 w1 hq => ?_)
          obtain ⟨rfl, rfl⟩ := hq
          refine ⟨_, _, MW (PW (pl_U (pl_U v 18 (tk_nt A (v 13))) 13 0) j l (-1)) (R3 R c9 c10 c11), rfl, rfl, rfl, ?_⟩
          refine im_cM rfl rfl (r_takeA (v := (pl_U (pl_U v 18 (tk_nt A (v 13))) 13 0)) (R := (R3 R c9 c10 c11)) (A := A) (N := (v 13)) (i := j) (l := l) (c := 100 + 59) (by omega) hT hAo hN hk hj (by decide)) rfl hT (fun v1 w1 hq => ?_)
          obtain ⟨rfl, rfl⟩ := hq
          refine ⟨(PW (pl_U (pl_U v 18 (tk_nt A (v 13))) 13 0) (if tk_C A (v 13) j = 100 + 59 then j + 1 else j) l (-1)), (R3 R c9 c10 c11), rfl, rfl, ?_⟩
          rw [if_pos (show tk_C A (v 13) j = 100 + 59 from h159), if_pos (show tk_C A (v 13) j = 100 + 59 from h159)]
          refine im_bF rfl rfl ⟨(by decide), trivial⟩ (by decide) ?_
          refine im_g 2 (y := (49, _, _, _)) rfl trivial ?_
          refine im_bT rfl rfl ⟨(by omega), (by omega), trivial⟩ (by omega) ?_
          refine im_g 1 (y := (57, _, _, _)) rfl trivial ?_
          refine im_cM rfl rfl (r_fA (v := (pl_U (pl_U v 18 (tk_nt A (v 13))) 13 0)) (R := (R3 R c9 c10 c11)) (i := (j + 1)) (l := l) (by omega) hT) rfl hT (fun v1 w1 hq => ?_)
          obtain ⟨rfl, rfl⟩ := hq
          refine ⟨(PW (pl_U (pl_U v 18 (tk_nt A (v 13))) 13 0) (j + 1) l (-1)), (R3 R c9 c10 c11), rfl, rfl, ?_⟩
          refine im_bF rfl rfl ⟨(by decide), trivial⟩ (by decide) ?_
          refine im_g 1 (y := (64, _, _, _)) rfl trivial ?_
          refine im_cM rfl rfl (r_one (od := od) (v := (pl_U (pl_U v 18 (tk_nt A (v 13))) 13 0)) (R := (R3 R c9 c10 c11)) (by omega) hT hP (by omega) hl hc) rfl hT (fun v1 w1 hq => ?_)
          obtain ⟨rfl, hf2, t2, lz2, rfl⟩ := hq
          refine ⟨(PW (pl_U (pl_U v 18 (tk_nt A (v 13))) 13 0) t2 lz2 (tk_Q A (v 13) f2)), (R3 R c9 c10 c11), rfl, rfl, ?_⟩
          refine im_g 2 (y := (34, _, _, _)) rfl trivial ?_
          refine im_g 2 (y := (37, _, _, _)) rfl trivial ?_
          refine im_call [] rfl rfl (m_sign (a := 59) (by omega) hT) rfl rfl rfl (by decide) rfl (by decide) hT (fun v1 w1 hq => ?_)
          obtain ⟨rfl, rfl⟩ := hq
          refine ⟨_, _, MW (PW (pl_U (pl_U v 18 (tk_nt A (v 13))) 13 0) t2 lz2 (tk_Q A (v 13) f2)) (R3 R c9 c10 c11), rfl, rfl, rfl, ?_⟩
          refine im_cM rfl rfl (r_takeD (v := (pl_U (pl_U v 18 (tk_nt A (v 13))) 13 0)) (R := (R3 R c9 c10 c11)) (t := t2) (l := lz2) (b := (tk_Q A (v 13) f2)) (by omega) hT (rq_Q hN f2)) rfl hT (fun v1 w1 hq => ?_)
          obtain ⟨rfl, rfl⟩ := hq
          refine ⟨(PW (pl_U (pl_U v 18 (tk_nt A (v 13))) 13 0) t2 lz2 (tk_Q A (v 13) f2)), (R3 R c9 c10 c11), rfl, rfl, ?_⟩
          refine im_bT rfl rfl ⟨(by decide), trivial⟩ rfl ?_
          refine im_g 1 (y := (74, _, _, _)) rfl trivial ?_
          refine im_cM rfl rfl (r_fD (v := (pl_U (pl_U v 18 (tk_nt A (v 13))) 13 0)) (R := (R3 R c9 c10 c11)) (t := t2) (l := lz2) (b := (tk_Q A (v 13) f2)) (by omega) hT (rq_Q hN f2)) rfl hT (fun v1 w1 hq => ?_)
          obtain ⟨rfl, rfl⟩ := hq
          refine ⟨(PW (pl_U (pl_U v 18 (tk_nt A (v 13))) 13 0) t2 lz2 (tk_Q A (v 13) f2)), (R3 R c9 c10 c11), rfl, rfl, ?_⟩
          refine im_bT rfl rfl ⟨(by decide), trivial⟩ rfl ?_
          refine im_g 4 (y := (103, _, _, _)) rfl trivial ?_
          refine im_eqs (y := (103, [some (mr 0), _], [], MW (pl_U (PW (pl_U (pl_U v 18 (tk_nt A (v 13))) 13 0) t2 lz2 (tk_Q A (v 13) f2)) 14 (tk_Q A (v 13) f2)) (R3 R c9 c10 c11))) rfl ?_
          refine im_g 1 (y := (104, _, _, _)) rfl trivial ?_
          refine im_cM rfl rfl (show im_ct ro T d 150 [mr 0] (MW (pl_U (PW (pl_U (pl_U v 18 (tk_nt A (v 13))) 13 0) t2 lz2 (tk_Q A (v 13) f2)) 14 (tk_Q A (v 13) f2)) (R3 R c9 c10 c11)) (fun r w => r = some (.inl 0) ∧ w = MW (pl_U (PW (pl_U (pl_U v 18 (tk_nt A (v 13))) 13 0) t2 lz2 (tk_Q A (v 13) f2)) 14 (tk_Q A (v 13) f2)) (R3 R c9 c10 c11)) from r_fDv (by omega) hT (rq_Q hN f2)) rfl hT (fun v1 w1 hq => ?_)
          obtain ⟨rfl, rfl⟩ := hq
          refine ⟨(pl_U (PW (pl_U (pl_U v 18 (tk_nt A (v 13))) 13 0) t2 lz2 (tk_Q A (v 13) f2)) 14 (tk_Q A (v 13) f2)), (R3 R c9 c10 c11), rfl, rfl, ?_⟩
          refine im_r rfl rfl ⟨(by decide), trivial⟩ rfl ?_
          rw [show y = .inl f2 from hy]
          exact ⟨rfl, t2, lz2, rfl⟩
        · refine im_g 2 (y := (37, _, _, _)) rfl trivial ?_
          refine im_call [] rfl rfl (m_sign (a := 59) (by omega) hT) rfl rfl rfl (by decide) rfl (by decide) hT (fun v1 w1 hq => ?_)
          obtain ⟨rfl, rfl⟩ := hq
          refine ⟨_, _, MW (PW (pl_U (pl_U v 18 (tk_nt A (v 13))) 13 0) j l (-1)) (R3 R c9 c10 c11), rfl, rfl, rfl, ?_⟩
          refine im_cM rfl rfl (r_takeA (v := (pl_U (pl_U v 18 (tk_nt A (v 13))) 13 0)) (R := (R3 R c9 c10 c11)) (A := A) (N := (v 13)) (i := j) (l := l) (c := 100 + 59) (by omega) hT hAo hN hk hj (by decide)) rfl hT (fun v1 w1 hq => ?_)
          obtain ⟨rfl, rfl⟩ := hq
          refine ⟨(PW (pl_U (pl_U v 18 (tk_nt A (v 13))) 13 0) (if tk_C A (v 13) j = 100 + 59 then j + 1 else j) l (-1)), (R3 R c9 c10 c11), rfl, rfl, ?_⟩
          rw [if_pos (show tk_C A (v 13) j = 100 + 59 from h159), if_pos (show tk_C A (v 13) j = 100 + 59 from h159)]
          refine im_bF rfl rfl ⟨(by decide), trivial⟩ (by decide) ?_
          refine im_g 2 (y := (49, _, _, _)) rfl trivial ?_
          refine im_bT rfl rfl ⟨(by omega), (by omega), trivial⟩ (by omega) ?_
          refine im_g 1 (y := (57, _, _, _)) rfl trivial ?_
          refine im_cM rfl rfl (r_fA (v := (pl_U (pl_U v 18 (tk_nt A (v 13))) 13 0)) (R := (R3 R c9 c10 c11)) (i := (j + 1)) (l := l) (by omega) hT) rfl hT (fun v1 w1 hq => ?_)
          obtain ⟨rfl, rfl⟩ := hq
          refine ⟨(PW (pl_U (pl_U v 18 (tk_nt A (v 13))) 13 0) (j + 1) l (-1)), (R3 R c9 c10 c11), rfl, rfl, ?_⟩
          refine im_bF rfl rfl ⟨(by decide), trivial⟩ (by decide) ?_
          refine im_g 1 (y := (64, _, _, _)) rfl trivial ?_
          refine im_cM rfl rfl (r_one (od := od) (v := (pl_U (pl_U v 18 (tk_nt A (v 13))) 13 0)) (R := (R3 R c9 c10 c11)) (by omega) hT hP (by omega) hl hc) rfl hT (fun v1 w1 hq => ?_)
          obtain ⟨rfl, hlb2, hj2, rfl⟩ := hq
          refine ⟨(PW (pl_U (pl_U v 18 (tk_nt A (v 13))) 13 0) j2 l2 (-1)), (R3 R c9 c10 c11), rfl, rfl, ?_⟩
          refine im_g 2 (y := (34, _, _, _)) rfl trivial ?_
          have t := ih (m + 1) j2 l2 y2 (by omega) hj2 hlb2 hd9
          rw [hy, rs_ok_c, rs_f_c]
          exact t
      · skip
        rcases hrr with ⟨hlt, hy⟩ | ⟨hge, hy⟩
        · refine im_g 2 (y := (37, _, _, _)) rfl trivial ?_
          refine im_call [] rfl rfl (m_sign (a := 59) (by omega) hT) rfl rfl rfl (by decide) rfl (by decide) hT (fun v1 w1 hq => ?_)
          obtain ⟨rfl, rfl⟩ := hq
          refine ⟨_, _, MW (PW (pl_U (pl_U v 18 (tk_nt A (v 13))) 13 0) j l (-1)) (R3 R c9 c10 c11), rfl, rfl, rfl, ?_⟩
          refine im_cM rfl rfl (r_takeA (v := (pl_U (pl_U v 18 (tk_nt A (v 13))) 13 0)) (R := (R3 R c9 c10 c11)) (A := A) (N := (v 13)) (i := j) (l := l) (c := 100 + 59) (by omega) hT hAo hN hk hj (by decide)) rfl hT (fun v1 w1 hq => ?_)
          obtain ⟨rfl, rfl⟩ := hq
          refine ⟨(PW (pl_U (pl_U v 18 (tk_nt A (v 13))) 13 0) (if tk_C A (v 13) j = 100 + 59 then j + 1 else j) l (-1)), (R3 R c9 c10 c11), rfl, rfl, ?_⟩
          rw [if_neg (show ¬ tk_C A (v 13) j = 100 + 59 from h159), if_neg (show ¬ tk_C A (v 13) j = 100 + 59 from h159)]
          refine im_bT rfl rfl ⟨(by decide), trivial⟩ rfl ?_
          refine im_g 1 (y := (74, _, _, _)) rfl trivial ?_
          refine im_cM rfl rfl (r_fA (v := (pl_U (pl_U v 18 (tk_nt A (v 13))) 13 0)) (R := (R3 R c9 c10 c11)) (i := j) (l := l) (by omega) hT) rfl hT (fun v1 w1 hq => ?_)
          obtain ⟨rfl, rfl⟩ := hq
          refine ⟨(PW (pl_U (pl_U v 18 (tk_nt A (v 13))) 13 0) j l (-1)), (R3 R c9 c10 c11), rfl, rfl, ?_⟩
          refine im_bF rfl rfl ⟨(by decide), trivial⟩ (by decide) ?_
          refine im_g 4 (y := (88, _, _, _)) rfl trivial ?_
          refine im_bF rfl rfl ⟨(by first | (show im_ir (tk_nt A (v 13)); constructor <;> omega) | (show im_ir j; constructor <;> omega)), (by first | (show im_ir (tk_nt A (v 13)); constructor <;> omega) | (show im_ir j; constructor <;> omega)), trivial⟩ (show ¬ tk_nt A (v 13) ≤ j by omega) ?_
          refine im_g 1 (y := (92, _, _, _)) rfl trivial ?_
          refine im_cM rfl rfl (r_faultsA (v := (pl_U (pl_U v 18 (tk_nt A (v 13))) 13 0)) (R := (R3 R c9 c10 c11)) (A := A) (N := (v 13)) (i := j) (l := l) (by omega) hT hAo hN hk hj) rfl hT (fun v1 w1 hq => ?_)
          obtain ⟨rfl, rfl⟩ := hq
          refine ⟨(PW (pl_U (pl_U v 18 (tk_nt A (v 13))) 13 0) j l (tk_Q A (v 13) j)), (R3 R c9 c10 c11), rfl, rfl, ?_⟩
          refine im_g 4 (y := (103, _, _, _)) rfl trivial ?_
          refine im_eqs (y := (103, [some (mr 0), _], [], MW (pl_U (PW (pl_U (pl_U v 18 (tk_nt A (v 13))) 13 0) j l (tk_Q A (v 13) j)) 14 (tk_Q A (v 13) j)) (R3 R c9 c10 c11))) rfl ?_
          refine im_g 1 (y := (104, _, _, _)) rfl trivial ?_
          refine im_cM rfl rfl (r_fDv (v := (pl_U (pl_U v 18 (tk_nt A (v 13))) 13 0)) (R := (R3 R c9 c10 c11)) (t := j) (l := l) (b := (tk_Q A (v 13) j)) (x := (tk_Q A (v 13) j)) (by omega) hT (rq_Q hN j)) rfl hT (fun v1 w1 hq => ?_)
          obtain ⟨rfl, rfl⟩ := hq
          refine ⟨(pl_U (PW (pl_U (pl_U v 18 (tk_nt A (v 13))) 13 0) j l (tk_Q A (v 13) j)) 14 (tk_Q A (v 13) j)), (R3 R c9 c10 c11), rfl, rfl, ?_⟩
          refine im_r rfl rfl ⟨(by decide), trivial⟩ rfl ?_
          rw [hy]
          exact ⟨rfl, j, l, rfl⟩
        · refine im_g 2 (y := (37, _, _, _)) rfl trivial ?_
          refine im_call [] rfl rfl (m_sign (a := 59) (by omega) hT) rfl rfl rfl (by decide) rfl (by decide) hT (fun v1 w1 hq => ?_)
          obtain ⟨rfl, rfl⟩ := hq
          refine ⟨_, _, MW (PW (pl_U (pl_U v 18 (tk_nt A (v 13))) 13 0) j l (-1)) (R3 R c9 c10 c11), rfl, rfl, rfl, ?_⟩
          refine im_cM rfl rfl (r_takeA (v := (pl_U (pl_U v 18 (tk_nt A (v 13))) 13 0)) (R := (R3 R c9 c10 c11)) (A := A) (N := (v 13)) (i := j) (l := l) (c := 100 + 59) (by omega) hT hAo hN hk hj (by decide)) rfl hT (fun v1 w1 hq => ?_)
          obtain ⟨rfl, rfl⟩ := hq
          refine ⟨(PW (pl_U (pl_U v 18 (tk_nt A (v 13))) 13 0) (if tk_C A (v 13) j = 100 + 59 then j + 1 else j) l (-1)), (R3 R c9 c10 c11), rfl, rfl, ?_⟩
          rw [if_neg (show ¬ tk_C A (v 13) j = 100 + 59 from h159), if_neg (show ¬ tk_C A (v 13) j = 100 + 59 from h159)]
          refine im_bT rfl rfl ⟨(by decide), trivial⟩ rfl ?_
          refine im_g 1 (y := (74, _, _, _)) rfl trivial ?_
          refine im_cM rfl rfl (r_fA (v := (pl_U (pl_U v 18 (tk_nt A (v 13))) 13 0)) (R := (R3 R c9 c10 c11)) (i := j) (l := l) (by omega) hT) rfl hT (fun v1 w1 hq => ?_)
          obtain ⟨rfl, rfl⟩ := hq
          refine ⟨(PW (pl_U (pl_U v 18 (tk_nt A (v 13))) 13 0) j l (-1)), (R3 R c9 c10 c11), rfl, rfl, ?_⟩
          refine im_bF rfl rfl ⟨(by decide), trivial⟩ (by decide) ?_
          refine im_g 4 (y := (88, _, _, _)) rfl trivial ?_
          refine im_bT rfl rfl ⟨(by first | (show im_ir (tk_nt A (v 13)); constructor <;> omega) | (show im_ir j; constructor <;> omega)), (by first | (show im_ir (tk_nt A (v 13)); constructor <;> omega) | (show im_ir j; constructor <;> omega)), trivial⟩ (show tk_nt A (v 13) ≤ j by omega) ?_
          refine im_g 4 (y := (103, _, _, _)) rfl trivial ?_
          refine im_eqs (y := (103, [some (mr 0), _], [], MW (pl_U (PW (pl_U (pl_U v 18 (tk_nt A (v 13))) 13 0) j l (-1)) 14 (-1)) (R3 R c9 c10 c11))) rfl ?_
          refine im_g 1 (y := (104, _, _, _)) rfl trivial ?_
          refine im_cM rfl rfl (r_fAv (v := (pl_U (pl_U v 18 (tk_nt A (v 13))) 13 0)) (R := (R3 R c9 c10 c11)) (t := j) (l := l) (x := -1) (by omega) hT) rfl hT (fun v1 w1 hq => ?_)
          obtain ⟨rfl, rfl⟩ := hq
          refine ⟨(pl_U (PW (pl_U (pl_U v 18 (tk_nt A (v 13))) 13 0) j l (-1)) 14 (-1)), (R3 R c9 c10 c11), rfl, rfl, ?_⟩
          refine im_r rfl rfl ⟨(by decide), trivial⟩ rfl ?_
          rw [hy]
          exact ⟨rfl, j, l, rfl⟩
  refine im_eqs (y := (28, [some (mr 0), none], [], MW (PW (pl_U (pl_U v 18 (tk_nt A (v 13))) 13 0) 0 0 (-1)) (R3 R c9 c10 c11))) rfl ?_
  refine im_q (Q' := (fun r w => r = some (.inl (rs_ok rs)) ∧ ∃ t l, w = MW (pl_U (PW (pl_U (pl_U v 18 (tk_nt A (v 13))) 13 0) t l (rs_f A (v 13) rs)) 14 (rs_f A (v 13) rs)) (R3 R c9 c10 c11))) (fun r w hq => ?_) ?_
  · obtain ⟨e1, t, l, e2⟩ := hq
    exact ⟨e1, t, l, c9, c10, c11, e2, hk⟩
  rcases d_all_d hall with ⟨f2, hc, hy⟩ | ⟨j2, l2, q2, y2, hc, hd9, hy⟩
  · refine im_g 1 (y := (29, _, _, _)) rfl trivial ?_
    refine im_cM rfl rfl (r_one (od := od) (v := (pl_U (pl_U v 18 (tk_nt A (v 13))) 13 0)) (R := (R3 R c9 c10 c11)) (by omega) hT hP (by omega) (by decide) hc) rfl hT (fun v1 w1 hq => ?_)
    obtain ⟨rfl, hf2, t2, lz2, rfl⟩ := hq
    refine ⟨(PW (pl_U (pl_U v 18 (tk_nt A (v 13))) 13 0) t2 lz2 (tk_Q A (v 13) f2)), (R3 R c9 c10 c11), rfl, rfl, ?_⟩
    refine im_g 2 (y := (34, _, _, _)) rfl trivial ?_
    refine im_g 2 (y := (37, _, _, _)) rfl trivial ?_
    refine im_call [] rfl rfl (m_sign (a := 59) (by omega) hT) rfl rfl rfl (by decide) rfl (by decide) hT (fun v1 w1 hq => ?_)
    obtain ⟨rfl, rfl⟩ := hq
    refine ⟨_, _, MW (PW (pl_U (pl_U v 18 (tk_nt A (v 13))) 13 0) t2 lz2 (tk_Q A (v 13) f2)) (R3 R c9 c10 c11), rfl, rfl, rfl, ?_⟩
    refine im_cM rfl rfl (r_takeD (v := (pl_U (pl_U v 18 (tk_nt A (v 13))) 13 0)) (R := (R3 R c9 c10 c11)) (t := t2) (l := lz2) (b := (tk_Q A (v 13) f2)) (by omega) hT (rq_Q hN f2)) rfl hT (fun v1 w1 hq => ?_)
    obtain ⟨rfl, rfl⟩ := hq
    refine ⟨(PW (pl_U (pl_U v 18 (tk_nt A (v 13))) 13 0) t2 lz2 (tk_Q A (v 13) f2)), (R3 R c9 c10 c11), rfl, rfl, ?_⟩
    refine im_bT rfl rfl ⟨(by decide), trivial⟩ rfl ?_
    refine im_g 1 (y := (74, _, _, _)) rfl trivial ?_
    refine im_cM rfl rfl (r_fD (v := (pl_U (pl_U v 18 (tk_nt A (v 13))) 13 0)) (R := (R3 R c9 c10 c11)) (t := t2) (l := lz2) (b := (tk_Q A (v 13) f2)) (by omega) hT (rq_Q hN f2)) rfl hT (fun v1 w1 hq => ?_)
    obtain ⟨rfl, rfl⟩ := hq
    refine ⟨(PW (pl_U (pl_U v 18 (tk_nt A (v 13))) 13 0) t2 lz2 (tk_Q A (v 13) f2)), (R3 R c9 c10 c11), rfl, rfl, ?_⟩
    refine im_bT rfl rfl ⟨(by decide), trivial⟩ rfl ?_
    refine im_g 4 (y := (103, _, _, _)) rfl trivial ?_
    refine im_eqs (y := (103, [some (mr 0), _], [], MW (pl_U (PW (pl_U (pl_U v 18 (tk_nt A (v 13))) 13 0) t2 lz2 (tk_Q A (v 13) f2)) 14 (tk_Q A (v 13) f2)) (R3 R c9 c10 c11))) rfl ?_
    refine im_g 1 (y := (104, _, _, _)) rfl trivial ?_
    refine im_cM rfl rfl (show im_ct ro T d 150 [mr 0] (MW (pl_U (PW (pl_U (pl_U v 18 (tk_nt A (v 13))) 13 0) t2 lz2 (tk_Q A (v 13) f2)) 14 (tk_Q A (v 13) f2)) (R3 R c9 c10 c11)) (fun r w => r = some (.inl 0) ∧ w = MW (pl_U (PW (pl_U (pl_U v 18 (tk_nt A (v 13))) 13 0) t2 lz2 (tk_Q A (v 13) f2)) 14 (tk_Q A (v 13) f2)) (R3 R c9 c10 c11)) from r_fDv (by omega) hT (rq_Q hN f2)) rfl hT (fun v1 w1 hq => ?_)
    obtain ⟨rfl, rfl⟩ := hq
    refine ⟨(pl_U (PW (pl_U (pl_U v 18 (tk_nt A (v 13))) 13 0) t2 lz2 (tk_Q A (v 13) f2)) 14 (tk_Q A (v 13) f2)), (R3 R c9 c10 c11), rfl, rfl, ?_⟩
    refine im_r rfl rfl ⟨(by decide), trivial⟩ rfl ?_
    rw [show rs = .inl f2 from hy]
    exact ⟨rfl, t2, lz2, rfl⟩
  · refine im_g 1 (y := (29, _, _, _)) rfl trivial ?_
    refine im_cM rfl rfl (r_one (od := od) (v := (pl_U (pl_U v 18 (tk_nt A (v 13))) 13 0)) (R := (R3 R c9 c10 c11)) (by omega) hT hP (by omega) (by decide) hc) rfl hT (fun v1 w1 hq => ?_)
    obtain ⟨rfl, hlb2, hj2, rfl⟩ := hq
    refine ⟨(PW (pl_U (pl_U v 18 (tk_nt A (v 13))) 13 0) j2 l2 (-1)), (R3 R c9 c10 c11), rfl, rfl, ?_⟩
    refine im_g 2 (y := (34, _, _, _)) rfl trivial ?_
    have t := key 11 1 j2 l2 y2 rfl hj2 hlb2 hd9
    rw [hy, rs_ok_c, rs_f_c]
    exact t
set_option maxHeartbeats 8000000 in
theorem r_readsAs_false (hd : 81 ≤ d) (hT : T.length < 1000) {v : Nat → Int} {R : Nat → Int → Int} {A : Int → Int} (hA : TA A R) (hW : WL (R 6) 0 tk_words) (hN : 0 ≤ v 13 ∧ v 13 ≤ 400) {n : Nat} {rs : Int ⊕ List dC} (hall : d_all false (tk_C A (v 13)) (tk_X A (v 13)) n (tk_nt A (v 13)) = some rs) : im_ct ro T d 167 [mr 0, .inl 0] (MW v R) (fun r w => r = some (.inl (rs_ok rs)) ∧ ∃ t l c9 c10 c11, w = MW (VRs v false (tk_nt A (v 13)) t l (rs_f A (v 13) rs)) (R3 R c9 c10 c11) ∧ TKS A (v 13) (R3 R c9 c10 c11)) := by
  obtain ⟨d, rfl⟩ : ∃ e, d = e + 1 := ⟨d - 1, by omega⟩
  refine im_ct_of (own := 9) (ret := (some .boolean)) (code := ab_k_X9_readsAs) (nL := 2) (L0 := [some (mr 0), some (.inl 0)]) (n := 24) rfl rfl rfl rfl rfl rfl rfl rfl rfl ?_
  refine im_g 5 (y := (7, _, _, _)) rfl ⟨(by decide), trivial⟩ ?_
  refine im_bT rfl rfl ⟨(by decide), trivial⟩ rfl ?_
  refine im_g 4 (y := (22, _, _, _)) rfl trivial ?_
  refine im_bT rfl rfl ⟨(by decide), trivial⟩ rfl ?_
  refine im_g 3 (y := (36, _, _, _)) rfl trivial ?_
  refine im_cM rfl rfl (r_reads (od := false) (v := (pl_U (pl_U (pl_U v 10 0) 8 9) 9 16)) (R := R) (A := A) (by omega) hT hA hW hN ⟨rfl, rfl, rfl⟩ hall) rfl hT (fun v1 w1 hq => ?_)
  obtain ⟨rfl, t, l, c9, c10, c11, rfl, hk⟩ := hq
  refine ⟨(VRs v false (tk_nt A (v 13)) t l (rs_f A (v 13) rs)), (R3 R c9 c10 c11), rfl, rfl, ?_⟩
  refine im_r rfl rfl ⟨(by (cases rs; exact Or.inl rfl; exact Or.inr rfl)), trivial⟩ rfl ?_
  exact ⟨rfl, t, l, c9, c10, c11, rfl, hk⟩
set_option maxHeartbeats 8000000 in
theorem r_readsAs_true (hd : 81 ≤ d) (hT : T.length < 1000) {v : Nat → Int} {R : Nat → Int → Int} {A : Int → Int} (hA : TA A R) (hW : WL (R 6) 0 tk_words) (hN : 0 ≤ v 13 ∧ v 13 ≤ 400) {n : Nat} {rs : Int ⊕ List dC} (hall : d_all true (tk_C A (v 13)) (tk_X A (v 13)) n (tk_nt A (v 13)) = some rs) : im_ct ro T d 167 [mr 0, .inl 1] (MW v R) (fun r w => r = some (.inl (rs_ok rs)) ∧ ∃ t l c9 c10 c11, w = MW (VRs v true (tk_nt A (v 13)) t l (rs_f A (v 13) rs)) (R3 R c9 c10 c11) ∧ TKS A (v 13) (R3 R c9 c10 c11)) := by
  obtain ⟨d, rfl⟩ : ∃ e, d = e + 1 := ⟨d - 1, by omega⟩
  refine im_ct_of (own := 9) (ret := (some .boolean)) (code := ab_k_X9_readsAs) (nL := 2) (L0 := [some (mr 0), some (.inl 1)]) (n := 24) rfl rfl rfl rfl rfl rfl rfl rfl rfl ?_
  refine im_g 5 (y := (7, _, _, _)) rfl ⟨(by decide), trivial⟩ ?_
  refine im_bF rfl rfl ⟨(by decide), trivial⟩ (by decide) ?_
  refine im_g 5 (y := (22, _, _, _)) rfl trivial ?_
  refine im_bF rfl rfl ⟨(by decide), trivial⟩ (by decide) ?_
  refine im_g 4 (y := (36, _, _, _)) rfl trivial ?_
  refine im_cM rfl rfl (r_reads (od := true) (v := (pl_U (pl_U (pl_U v 10 1) 8 14) 9 20)) (R := R) (A := A) (by omega) hT hA hW hN ⟨rfl, rfl, rfl⟩ hall) rfl hT (fun v1 w1 hq => ?_)
  obtain ⟨rfl, t, l, c9, c10, c11, rfl, hk⟩ := hq
  refine ⟨(VRs v true (tk_nt A (v 13)) t l (rs_f A (v 13) rs)), (R3 R c9 c10 c11), rfl, rfl, ?_⟩
  refine im_r rfl rfl ⟨(by (cases rs; exact Or.inl rfl; exact Or.inr rfl)), trivial⟩ rfl ?_
  exact ⟨rfl, t, l, c9, c10, c11, rfl, hk⟩
set_option maxHeartbeats 8000000 in
theorem r_lays (hd : 1 ≤ d) (hT : T.length < 1000) {v : Nat → Int} {R : Nat → Int → Int} {t : Int} (ht : 0 ≤ t ∧ t ≤ 6) (hn : 0 ≤ v 18 ∧ v 18 ≤ 400) : im_ct ro T d 168 [mr 0, .inl t] (MW v R) (fun r w => r = none ∧ w = MW v (pl_U R 2 (kl_ t (v 18) (R 9) (R 10) (R 2) (v 18).toNat))) := by
  obtain ⟨d, rfl⟩ : ∃ e, d = e + 1 := ⟨d - 1, by omega⟩
  refine im_ct_of (own := 9) (ret := none) (code := ab_k_X9_lays) (nL := 3) (L0 := [some (mr 0), some (.inl t), none]) (n := 24) rfl rfl rfl rfl rfl rfl rfl rfl rfl ?_
  refine im_g 10 (y := (15, _, _, _)) rfl ⟨(by omega), trivial⟩ ?_
  refine im_for (v 18).toNat (fun m => (15, [some (mr 0), some (.inl t), some (.inl (m : Int))], [], MW v (pl_U R 2 (kl_ t (v 18) (R 9) (R 10) (R 2) m)))) (fun m hm ih => ?_) ?_
  · refine im_g 3 (y := (20, _, _, _)) rfl trivial ?_
    refine im_bF rfl rfl ⟨(by omega), (by omega), trivial⟩ (by omega) ?_
    refine im_g 30 (y := (15, _, _, _)) rfl ⟨(by omega), (by omega), (by omega), (by omega), trivial⟩ ?_
    exact ih
  · refine im_g 3 (y := (20, _, _, _)) rfl trivial ?_
    refine im_bT rfl rfl ⟨(by omega), (by omega), trivial⟩ (by omega) ?_
    refine im_r rfl rfl trivial rfl ?_
    exact ⟨rfl, rfl⟩
theorem km_law_5 {A : Int → Int} {y : Int ⊕ List dC} {t l : Int} {c9 c10 c11 : Int → Int} {v : Nat → Int} {R : Nat → Int → Int} (h : R 2 112 = 6) : km_law A y t l c9 c10 c11 v R = (-5, pl_U (pl_U v 13 0) 0 (-5), kp_ref (-5) R) := if_pos h
theorem km_law_6 {A : Int → Int} {f t l : Int} {c9 c10 c11 : Int → Int} {v : Nat → Int} {R : Nat → Int → Int} (h : ¬ R 2 112 = 6) : km_law A (.inl f) t l c9 c10 c11 v R = (-6, pl_U (VRs v false (tk_nt A (v 13)) t l (tk_Q A (v 13) f)) 0 (-6), kp_ref (-6) (R3 R c9 c10 c11)) := if_neg h
theorem km_law_0 {A : Int → Int} {Cs : List dC} {t l : Int} {c9 c10 c11 : Int → Int} {v : Nat → Int} {R : Nat → Int → Int} (h : ¬ R 2 112 = 6) : km_law A (.inr Cs) t l c9 c10 c11 v R = (R 2 112, pl_U (VRs v false (tk_nt A (v 13)) t l (-1)) 0 0, pl_U (R3 R c9 c10 c11) 2 (im_up (kl_ (R 2 112) (tk_nt A (v 13)) c9 c10 (R 2) (tk_nt A (v 13)).toNat) 112 (R 2 112 + 1))) := if_neg h
set_option maxHeartbeats 8000000 in
theorem r_law (hd : 82 ≤ d) (hT : T.length < 1000) {v : Nat → Int} {R : Nat → Int → Int} {A : Int → Int} (hA : TA A R) (hW : WL (R 6) 0 tk_words) (hN : 0 ≤ v 13 ∧ v 13 ≤ 400) (h112 : 0 ≤ R 2 112 ∧ R 2 112 ≤ 6) {n : Nat} {rs : Int ⊕ List dC} (hall : d_all false (tk_C A (v 13)) (tk_X A (v 13)) n (tk_nt A (v 13)) = some rs) : im_ct ro T d 169 [mr 0] (MW v R) (fun r w => ∃ t l c9 c10 c11, r = some (.inl ((km_law A rs t l c9 c10 c11 v R).1)) ∧ w = MW (km_law A rs t l c9 c10 c11 v R).2.1 (km_law A rs t l c9 c10 c11 v R).2.2 ∧ (¬ R 2 112 = 6 → TKS A (v 13) (R3 R c9 c10 c11))) := by
  obtain ⟨d, rfl⟩ : ∃ e, d = e + 1 := ⟨d - 1, by omega⟩
  have htn := (tk_nt_b (A := A) hN).1
  refine im_ct_of (own := 9) (ret := (some .int)) (code := ab_k_X9_law) (nL := 1) (L0 := [some (mr 0)]) (n := 24) rfl rfl rfl rfl rfl rfl rfl rfl rfl ?_
  refine im_g 5 (y := (9, _, _, _)) rfl ⟨(by omega), trivial⟩ ?_
  refine im_b rfl rfl ⟨(by omega), (by omega), trivial⟩ (fun br1 => ?_) (fun br1 => ?_)
  · have h6 : ¬ R 2 112 = 6 := br1
    cases rs with
    | inl f =>
      refine im_g 2 (y := (26, _, _, _)) rfl trivial ?_
      refine im_cM rfl rfl (r_readsAs_false (v := v) (R := R) (A := A) (by omega) hT hA hW hN hall) rfl hT (fun v1 w1 hq => ?_)
      obtain ⟨rfl, t, l, c9, c10, c11, rfl, hk⟩ := hq
      refine ⟨(VRs v false (tk_nt A (v 13)) t l (tk_Q A (v 13) f)), (R3 R c9 c10 c11), rfl, rfl, ?_⟩
      refine im_bF rfl rfl ⟨(by exact (show im_ir (0 : Int) by decide)), trivial⟩ (fun z => z rfl) ?_
      refine im_g 2 (y := (35, _, _, _)) rfl trivial ?_
      refine im_cM rfl rfl (m_refuses (v := (VRs v false (tk_nt A (v 13)) t l (tk_Q A (v 13) f))) (R := (R3 R c9 c10 c11)) (x := -6) (by omega) hT (by decide)) rfl hT (fun v1 w1 hq => ?_)
      obtain ⟨rfl, rfl⟩ := hq
      refine ⟨(pl_U (VRs v false (tk_nt A (v 13)) t l (tk_Q A (v 13) f)) 0 (-6)), (kp_ref (-6) (R3 R c9 c10 c11)), rfl, rfl, ?_⟩
      refine im_r rfl rfl trivial rfl ?_
      refine ⟨t, l, c9, c10, c11, congrArg (fun z => some (Sum.inl z)) ?_, ?_, fun _ => hk⟩
      · rw [km_law_6 h6]
      · rw [km_law_6 h6]
    | inr Cs =>
      refine im_g 2 (y := (26, _, _, _)) rfl trivial ?_
      refine im_cM rfl rfl (r_readsAs_false (v := v) (R := R) (A := A) (by omega) hT hA hW hN hall) rfl hT (fun v1 w1 hq => ?_)
      obtain ⟨rfl, t, l, c9, c10, c11, rfl, hk⟩ := hq
      refine ⟨(VRs v false (tk_nt A (v 13)) t l (-1)), (R3 R c9 c10 c11), rfl, rfl, ?_⟩
      refine im_bT rfl rfl ⟨(by exact (show im_ir (1 : Int) by decide)), trivial⟩ (show ¬ (1 : Int) = 0 by decide) ?_
      refine im_g 5 (y := (47, _, _, _)) rfl ⟨(by omega), trivial⟩ ?_
      refine im_cM rfl rfl (r_lays (v := (VRs v false (tk_nt A (v 13)) t l (-1))) (R := (R3 R c9 c10 c11)) (t := R 2 112) (by omega) hT (by omega) (show 0 ≤ (tk_nt A (v 13)) ∧ (tk_nt A (v 13)) ≤ 400 by omega)) rfl hT (fun v1 w1 hq => ?_)
      obtain ⟨rfl, rfl⟩ := hq
      refine ⟨(VRs v false (tk_nt A (v 13)) t l (-1)), (pl_U (R3 R c9 c10 c11) 2 (kl_ (R 2 112) (tk_nt A (v 13)) c9 c10 (R 2) (tk_nt A (v 13)).toNat)), rfl, rfl, ?_⟩
      have e112 : (kl_ (R 2 112) (tk_nt A (v 13)) c9 c10 (R 2) (tk_nt A (v 13)).toNat) 112 = R 2 112 := (kl_at (by omega) (tk_nt A (v 13)).toNat (by omega)).2.2 112 (by omega) (by omega) (by omega)
      refine im_g 15 (y := (71, _, _, _)) rfl ⟨(by omega), (by omega), (by omega), trivial⟩ ?_
      refine im_cM rfl rfl (m_good (v := (VRs v false (tk_nt A (v 13)) t l (-1))) (R := pl_U (R3 R c9 c10 c11) 2 (im_up (kl_ (R 2 112) (tk_nt A (v 13)) c9 c10 (R 2) (tk_nt A (v 13)).toNat) 112 ((kl_ (R 2 112) (tk_nt A (v 13)) c9 c10 (R 2) (tk_nt A (v 13)).toNat) 112 + 1))) (x := im_up (kl_ (R 2 112) (tk_nt A (v 13)) c9 c10 (R 2) (tk_nt A (v 13)).toNat) 112 ((kl_ (R 2 112) (tk_nt A (v 13)) c9 c10 (R 2) (tk_nt A (v 13)).toNat) 112 + 1) 112 - 1) (by omega) hT) rfl hT (fun v1 w1 hq => ?_)
      obtain ⟨rfl, rfl⟩ := hq
      refine ⟨(pl_U (VRs v false (tk_nt A (v 13)) t l (-1)) 0 0), (pl_U (R3 R c9 c10 c11) 2 (im_up (kl_ (R 2 112) (tk_nt A (v 13)) c9 c10 (R 2) (tk_nt A (v 13)).toNat) 112 ((kl_ (R 2 112) (tk_nt A (v 13)) c9 c10 (R 2) (tk_nt A (v 13)).toNat) 112 + 1))), rfl, rfl, ?_⟩
      refine im_r rfl rfl trivial rfl ?_
      refine ⟨t, l, c9, c10, c11, congrArg (fun z => some (Sum.inl z)) ?_, ?_, fun _ => hk⟩
      · rw [km_law_0 h6, im_up_self, e112]; show R 2 112 + 1 - 1 = R 2 112; omega
      · rw [km_law_0 h6, e112]
  · have h6 : R 2 112 = 6 := Classical.not_not.mp br1
    refine im_g 5 (y := (20, _, _, _)) rfl trivial ?_
    refine im_cM rfl rfl (m_refuses (v := pl_U v 13 0) (R := R) (x := -5) (by omega) hT (by decide)) rfl hT (fun v1 w1 hq => ?_)
    obtain ⟨rfl, rfl⟩ := hq
    refine ⟨(pl_U (pl_U v 13 0) 0 (-5)), (kp_ref (-5) R), rfl, rfl, ?_⟩
    refine im_r rfl rfl trivial rfl ?_
    refine ⟨0, 0, R 9, R 10, R 11, congrArg (fun z => some (Sum.inl z)) ?_, ?_, fun z => absurd h6 z⟩
    · rw [km_law_5 h6]
    · rw [km_law_5 h6]
end Rs2
