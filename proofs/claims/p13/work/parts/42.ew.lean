/-! the reference reads its tokens: walked -/
section Ew
variable {ro : ab_R} {T : List im_T} {d : Nat} {v : Nat → Int} {R : Nat → Int → Int}
set_option maxHeartbeats 8000000 in
theorem m_sign (hd : 1 ≤ d) (hT : T.length < 1000) {a : Int} : im_ct ro T d 155 [.inl a] ([]) (fun r w => r = some (.inl (100 + a)) ∧ w = []) := by
  obtain ⟨d, rfl⟩ : ∃ e, d = e + 1 := ⟨d - 1, by omega⟩
  refine im_ct_of (own := 9) (ret := (some .int)) (code := ab_k_X9_sign) (nL := 1) (L0 := [some (.inl a)]) (n := 0) rfl rfl rfl rfl rfl rfl rfl rfl rfl ?_
  refine im_g 3 (y := (4, _, _, _)) rfl trivial ?_
  refine im_r rfl rfl trivial rfl ?_
  exact ⟨rfl, rfl⟩
set_option maxHeartbeats 8000000 in
theorem e_codeAt (hd : 1 ≤ d) (hT : T.length < 1000) {i b k : Int} (hk : im_ir k) (h1 : 0 ≤ k) (h2 : 0 ≤ v 23 ∧ v 23 ≤ 2800) : im_ct ro T d 172 [mr 0, .inl k] (MW (EW v i b) R) (fun r w => r = some (.inl (EC v R k)) ∧ w = MW (EW v i b) R) := by
  obtain ⟨d, rfl⟩ : ∃ e, d = e + 1 := ⟨d - 1, by omega⟩
  refine im_ct_of (own := 9) (ret := (some .int)) (code := ab_k_X9_codeAt) (nL := 2) (L0 := [some (mr 0), some (.inl k)]) (n := 24) rfl rfl rfl rfl rfl rfl rfl rfl rfl ?_
  refine im_g 3 (y := (5, _, _, _)) rfl trivial ?_
  have q1 : EW v i b 23 = v 23 := rfl
  refine im_b rfl rfl ⟨(by omega), (by omega), trivial⟩ (fun br1 => ?_) (fun br1 => ?_)
  · refine im_g 1 (y := (21, _, _, _)) rfl trivial ?_
    refine im_r rfl rfl trivial rfl ?_
    unfold EC
    rw [if_neg (by omega)]
    exact ⟨rfl, rfl⟩
  · refine im_g 5 (y := (16, _, _, _)) rfl trivial ?_
    have q2 : k < v 23 := by omega
    refine im_g 2 (y := (21, _, _, _)) rfl ⟨(by omega), trivial⟩ ?_
    refine im_r rfl rfl trivial rfl ?_
    unfold EC
    rw [if_pos (by omega)]
    exact ⟨rfl, rfl⟩
set_option maxHeartbeats 8000000 in
theorem e_passes (hd : 2 ≤ d) (hT : T.length < 1000) {i b c : Int} (hi : 0 ≤ i ∧ i ≤ 3000) (hc : 0 ≤ c ∧ c ≤ 1000) (h1 : 0 ≤ EC v R i ∧ EC v R i ≤ 1000) (h23 : 0 ≤ v 23 ∧ v 23 ≤ 2800) : im_ct ro T d 173 [mr 0, .inl c] (MW (EW v i b) R) (fun r w => r = some (.inl (if EC v R i = c then 1 else 0)) ∧ w = MW (EW v (if EC v R i = c then i + 1 else i) b) R) := by
  obtain ⟨d, rfl⟩ : ∃ e, d = e + 1 := ⟨d - 1, by omega⟩
  refine im_ct_of (own := 9) (ret := (some .boolean)) (code := ab_k_X9_passes0) (nL := 3) (L0 := [some (mr 0), some (.inl c), none]) (n := 24) rfl rfl rfl rfl rfl rfl rfl rfl rfl ?_
  refine im_g 3 (y := (5, _, _, _)) rfl trivial ?_
  refine im_cM rfl rfl (e_codeAt (v := v) (R := R) (i := i) (b := b) (k := i) (by omega) hT (by omega) (by omega) h23) rfl hT (fun v1 w1 hq => ?_)
  obtain ⟨rfl, rfl⟩ := hq
  refine ⟨(EW v (i) b), R, rfl, rfl, ?_⟩
  refine im_g 1 (y := (9, _, _, _)) rfl trivial ?_
  refine im_b rfl rfl ⟨(by omega), (by omega), trivial⟩ (fun br1 => ?_) (fun br1 => ?_)
  · refine im_g 3 (y := (19, _, _, _)) rfl trivial ?_
    refine im_bT rfl rfl ⟨(by omega), trivial⟩ (by decide) ?_
    refine im_g 1 (y := (33, _, _, _)) rfl trivial ?_
    refine im_r rfl rfl ⟨(by decide), trivial⟩ rfl ?_
    rw [if_neg (by omega), if_neg (by omega)]
    exact ⟨rfl, rfl⟩
  · refine im_g 4 (y := (19, _, _, _)) rfl trivial ?_
    refine im_bF rfl rfl ⟨(by omega), trivial⟩ (by decide) ?_
    refine im_g 7 (y := (33, _, _, _)) rfl trivial ?_
    refine im_r rfl rfl ⟨(by decide), trivial⟩ rfl ?_
    rw [if_pos (by omega), if_pos (by omega)]
    exact ⟨rfl, rfl⟩
set_option maxHeartbeats 8000000 in
theorem e_bounded (hd : 1 ≤ d) (hT : T.length < 1000) {i b z live : Int} (hz : im_lr z) (hl : live = 0 ∨ live = 1) (hb : b = 0 ∨ b = 1) : im_ct ro T d 174 [mr 0, .inr (.inl z), .inl live] (MW (EW v i b) R) (fun r w => r = some (.inr (.inl (if e_bq z live b = 0 then z else 0))) ∧ w = MW (EW v i (e_bq z live b)) R) := by
  obtain ⟨d, rfl⟩ : ∃ e, d = e + 1 := ⟨d - 1, by omega⟩
  refine im_ct_of (own := 9) (ret := (some .long)) (code := ab_k_X9_bounded) (nL := 4) (L0 := [some (mr 0), some (.inr (.inl z)), none, some (.inl live)]) (n := 24) rfl rfl rfl rfl rfl rfl rfl rfl rfl ?_
  refine im_g 1 (y := (1, _, _, _)) rfl trivial ?_
  refine im_b rfl rfl ⟨(by omega), trivial⟩ (fun br1 => ?_) (fun br1 => ?_)
  · refine im_g 2 (y := (29, _, _, _)) rfl trivial ?_
    refine im_b rfl rfl ⟨(by first | decide | (show im_ir b; omega)), trivial⟩ (fun br2 => ?_) (fun br2 => ?_)
    · refine im_g 1 (y := (37, _, _, _)) rfl trivial ?_
      refine im_r rfl rfl trivial rfl ?_
      have e : e_bq z live b = b := if_neg (by omega)
      rw [e]
      rw [if_pos (show b = 0 from br2)]
      exact ⟨rfl, rfl⟩
    · refine im_g 2 (y := (37, _, _, _)) rfl trivial ?_
      refine im_r rfl rfl trivial rfl ?_
      have e : e_bq z live b = b := if_neg (by omega)
      rw [e]
      rw [if_neg (show ¬ b = 0 from br2)]
      exact ⟨rfl, rfl⟩
  · refine im_g 3 (y := (9, _, _, _)) rfl ⟨(by omega), (by omega), trivial⟩ ?_
    refine im_b rfl rfl ⟨(by exact im_cmp_ir _ _), trivial⟩ (fun br3 => ?_) (fun br3 => ?_)
    · rw [im_cmp_pos] at br3
      refine im_g 5 (y := (29, _, _, _)) rfl ⟨(by decide), trivial⟩ ?_
      refine im_bF rfl rfl ⟨(by first | decide | (show im_ir b; omega)), trivial⟩ (by decide) ?_
      refine im_g 2 (y := (37, _, _, _)) rfl trivial ?_
      refine im_r rfl rfl trivial rfl ?_
      have e : e_bq z live b = 1 := if_pos (by omega)
      rw [e]
      exact ⟨rfl, rfl⟩
    · rw [im_cmp_pos] at br3
      refine im_g 3 (y := (17, _, _, _)) rfl ⟨(by omega), (by omega), trivial⟩ ?_
      refine im_b rfl rfl ⟨(by exact im_cmp_ir _ _), trivial⟩ (fun br4 => ?_) (fun br4 => ?_)
      · rw [im_cmp_nn] at br4
        refine im_g 2 (y := (29, _, _, _)) rfl trivial ?_
        refine im_b rfl rfl ⟨(by first | decide | (show im_ir b; omega)), trivial⟩ (fun br5 => ?_) (fun br5 => ?_)
        · refine im_g 1 (y := (37, _, _, _)) rfl trivial ?_
          refine im_r rfl rfl trivial rfl ?_
          have e : e_bq z live b = b := if_neg (by omega)
          rw [e]
          rw [if_pos (show b = 0 from br5)]
          exact ⟨rfl, rfl⟩
        · refine im_g 2 (y := (37, _, _, _)) rfl trivial ?_
          refine im_r rfl rfl trivial rfl ?_
          have e : e_bq z live b = b := if_neg (by omega)
          rw [e]
          rw [if_neg (show ¬ b = 0 from br5)]
          exact ⟨rfl, rfl⟩
      · rw [im_cmp_nn] at br4
        refine im_g 5 (y := (29, _, _, _)) rfl ⟨(by decide), trivial⟩ ?_
        refine im_bF rfl rfl ⟨(by first | decide | (show im_ir b; omega)), trivial⟩ (by decide) ?_
        refine im_g 2 (y := (37, _, _, _)) rfl trivial ?_
        refine im_r rfl rfl trivial rfl ?_
        have e : e_bq z live b = 1 := if_pos (by omega)
        rw [e]
        exact ⟨rfl, rfl⟩
set_option maxHeartbeats 8000000 in
theorem e_order (hd : 3 ≤ d) (hT : T.length < 1000) {i b c k : Int} (hc : 14 ≤ c ∧ c ≤ 20) (hk : 0 ≤ k ∧ k ≤ 9) (h1 : 0 ≤ R 2 110 ∧ R 2 110 ≤ 10) (h2 : 0 ≤ R 2 68 ∧ R 2 68 ≤ 16) (hg : ∀ g, 0 ≤ g → g < R 2 68 → 0 ≤ R 2 (20 + 3 * g + 1) ∧ R 2 (20 + 3 * g + 1) ≤ 98) : im_ct ro T d 178 [mr 0, .inl c, .inl k] (MW (EW v i b) R) (fun r w => r = some (.inl (e_ov v R c k)) ∧ w = MW (EW v i b) R) := by
  obtain ⟨d, rfl⟩ : ∃ e, d = e + 1 := ⟨d - 1, by omega⟩
  refine im_ct_of (own := 9) (ret := (some .int)) (code := ab_k_X9_orderValue) (nL := 3) (L0 := [some (mr 0), some (.inl c), some (.inl k)]) (n := 24) rfl rfl rfl rfl rfl rfl rfl rfl rfl ?_
  refine im_g 1 (y := (1, _, _, _)) rfl trivial ?_
  have hk : c = 14 ∨ c = 15 ∨ c = 16 ∨ c = 17 ∨ c = 18 ∨ c = 19 ∨ c = 20 := by omega
  rcases hk with rfl | rfl | rfl | rfl | rfl | rfl | rfl
  · refine im_sw (tgt := 40) rfl (by decide) (by decide) (Or.inr ⟨_, rfl, by decide⟩) (by decide) ?_
    refine im_g 2 (y := (42, _, _, _)) rfl trivial ?_
    refine im_cM rfl rfl (m_isParish (v := EW v i b) (R := R) (p := k) (by omega) hT (by omega) h1) rfl hT (fun v1 w1 hq => ?_)
    obtain ⟨rfl, rfl⟩ := hq
    refine ⟨(EW v i b), R, rfl, rfl, ?_⟩
    refine im_b rfl rfl ⟨(by omega), trivial⟩ (fun br1 => ?_) (fun br1 => ?_)
    · have c45 : ¬ (0 ≤ k ∧ k ≤ R 2 110 - 1) := by
        intro hh
        rw [if_pos hh] at br1
        exact absurd br1 (by decide)
      clear br1
      refine im_g 1 (y := (60, _, _, _)) rfl trivial ?_
      refine im_r rfl rfl trivial rfl ?_
      unfold e_ov
      rw [if_pos rfl]
      rw [if_neg c45]
      exact ⟨rfl, rfl⟩
    · have c45 : 0 ≤ k ∧ k ≤ R 2 110 - 1 := by
        by_cases hh : 0 ≤ k ∧ k ≤ R 2 110 - 1
        · exact hh
        · rw [if_neg hh] at br1; exact absurd rfl br1
      clear br1
      refine im_g 7 (y := (60, _, _, _)) rfl ⟨(by omega), trivial⟩ ?_
      refine im_r rfl rfl trivial rfl ?_
      unfold e_ov
      rw [if_pos rfl]
      rw [if_pos c45]
      exact ⟨rfl, rfl⟩
  · refine im_sw (tgt := 61) rfl (by decide) (by decide) (Or.inr ⟨_, rfl, by decide⟩) (by decide) ?_
    refine im_g 2 (y := (63, _, _, _)) rfl trivial ?_
    refine im_cM rfl rfl (m_isParish (v := EW v i b) (R := R) (p := k) (by omega) hT (by omega) h1) rfl hT (fun v1 w1 hq => ?_)
    obtain ⟨rfl, rfl⟩ := hq
    refine ⟨(EW v i b), R, rfl, rfl, ?_⟩
    refine im_b rfl rfl ⟨(by omega), trivial⟩ (fun br2 => ?_) (fun br2 => ?_)
    · have c66 : ¬ (0 ≤ k ∧ k ≤ R 2 110 - 1) := by
        intro hh
        rw [if_pos hh] at br2
        exact absurd br2 (by decide)
      clear br2
      refine im_g 1 (y := (79, _, _, _)) rfl trivial ?_
      refine im_r rfl rfl trivial rfl ?_
      unfold e_ov
      rw [if_neg (by decide), if_pos rfl]
      rw [if_neg c66]
      exact ⟨rfl, rfl⟩
    · have c66 : 0 ≤ k ∧ k ≤ R 2 110 - 1 := by
        by_cases hh : 0 ≤ k ∧ k ≤ R 2 110 - 1
        · exact hh
        · rw [if_neg hh] at br2; exact absurd rfl br2
      clear br2
      refine im_g 5 (y := (79, _, _, _)) rfl ⟨(by omega), trivial⟩ ?_
      refine im_r rfl rfl trivial rfl ?_
      unfold e_ov
      rw [if_neg (by decide), if_pos rfl]
      rw [if_pos c66]
      exact ⟨rfl, rfl⟩
  · refine im_sw (tgt := 80) rfl (by decide) (by decide) (Or.inr ⟨_, rfl, by decide⟩) (by decide) ?_
    refine im_g 4 (y := (87, _, _, _)) rfl ⟨(by omega), trivial⟩ ?_
    refine im_r rfl rfl trivial rfl ?_
    unfold e_ov
    rw [if_neg (by decide), if_neg (by decide), if_pos rfl]
    exact ⟨rfl, rfl⟩
  · refine im_sw (tgt := 88) rfl (by decide) (by decide) (Or.inr ⟨_, rfl, by decide⟩) (by decide) ?_
    refine im_g 2 (y := (92, _, _, _)) rfl trivial ?_
    refine im_r rfl rfl trivial rfl ?_
    unfold e_ov
    rw [if_neg (by decide), if_neg (by decide), if_neg (by decide), if_pos rfl]
    exact ⟨rfl, rfl⟩
  · refine im_sw (tgt := 93) rfl (by decide) (by decide) (Or.inr ⟨_, rfl, by decide⟩) (by decide) ?_
    refine im_g 2 (y := (97, _, _, _)) rfl trivial ?_
    refine im_r rfl rfl trivial rfl ?_
    unfold e_ov
    rw [if_neg (by decide), if_neg (by decide), if_neg (by decide), if_neg (by decide), if_pos rfl]
    exact ⟨rfl, rfl⟩
  · refine im_sw (tgt := 98) rfl (by decide) (by decide) (Or.inr ⟨_, rfl, by decide⟩) (by decide) ?_
    refine im_g 4 (y := (105, _, _, _)) rfl ⟨(by omega), trivial⟩ ?_
    refine im_r rfl rfl trivial rfl ?_
    unfold e_ov
    rw [if_neg (by decide), if_neg (by decide), if_neg (by decide), if_neg (by decide), if_neg (by decide), if_pos rfl]
    exact ⟨rfl, rfl⟩
  · refine im_sw (tgt := 106) rfl (by decide) (by decide) (Or.inl (by decide)) (by decide) ?_
    refine im_g 1 (y := (107, _, _, _)) rfl trivial ?_
    refine im_cM rfl rfl (m_walking (v := EW v i b) (R := R) (by omega) hT h2 hg) rfl hT (fun v1 w1 hq => ?_)
    obtain ⟨rfl, rfl⟩ := hq
    refine ⟨(EW v i b), R, rfl, rfl, ?_⟩
    refine im_r rfl rfl trivial rfl ?_
    unfold e_ov
    rw [if_neg (by decide), if_neg (by decide), if_neg (by decide), if_neg (by decide), if_neg (by decide), if_neg (by decide)]
    exact ⟨rfl, rfl⟩
end Ew
abbrev VJ : Int → im_V := fun y => .inr (.inl y)
abbrev VI : Int → im_V := fun y => .inl y
/-- a method that walks along tokens, at a fuel -/
def EvM (ro : ab_R) (T : List im_T) (n k jx : Nat) (rk : Int) (G : Int → Int → Int → Int → dM → (Int → Int) → Prop) (V : Int → im_V) : Prop := ∀ (d : Nat) (od : Bool) (v : Nat → Int) (R : Nat → Int → Int) (e : Int → Int) (o i l live b j l' : Int) (m : dM), EPR od v R e → (0 ≤ o ∧ o ≤ 8) → 8 * (8 - o) + rk ≤ (d : Int) → (0 ≤ i ∧ i ≤ v 23) → (live = 0 ∨ live = 1) → (b = 0 ∨ b = 1) → dn od (EC v R) (EX R) n k o i l d_0 = some (.inr (j, l', m)) → im_ct ro T d jx [mr 0, .inl live] (MW (EW v i b) R) (fun r w => ∃ y b', r = some (V y) ∧ w = MW (EW v j b') R ∧ G live b b' y m e)
/-- its loop: of sums, of tests -/
def EvRS (ro : ab_R) (T : List im_T) (n k : Nat) (code : ab_C) (rk : Int) : Prop := ∀ (d : Nat) (od : Bool) (v : Nat → Int) (R : Nat → Int → Int) (e : Int → Int) (o i l live b0 b y : Int) (a : dM) (j l' : Int) (m : dM) (x4 x5 x6 : Option im_V), EPR od v R e → (0 ≤ o ∧ o ≤ 8) → 8 * (8 - o) + rk ≤ (d : Int) → (0 ≤ i ∧ i ≤ v 23) → (live = 0 ∨ live = 1) → EG live b0 b y a e → dn od (EC v R) (EX R) n k o i l a = some (.inr (j, l', m)) → im_wp ro (ab_Ev ro ab_codes d) 9 (some .long) code 24 T (fun r w => ∃ y b', r = some (VJ y) ∧ w = MW (EW v j b') R ∧ EG live b0 b' y m e) (6, [some (mr 0), some (.inl live), some (.inr (.inl y)), none, x4, x5, x6], [], MW (EW v i b) R)
def EvRT (ro : ab_R) (T : List im_T) (n k : Nat) (code : ab_C) (rk : Int) : Prop := ∀ (d : Nat) (od : Bool) (v : Nat → Int) (R : Nat → Int → Int) (e : Int → Int) (o i l live b0 b y : Int) (a : dM) (j l' : Int) (m : dM) (x3 : Option im_V), EPR od v R e → (0 ≤ o ∧ o ≤ 8) → 8 * (8 - o) + rk ≤ (d : Int) → (0 ≤ i ∧ i ≤ v 23) → (live = 0 ∨ live = 1) → ET live b0 b y a e → dn od (EC v R) (EX R) n k o i l a = some (.inr (j, l', m)) → im_wp ro (ab_Ev ro ab_codes d) 9 (some .boolean) code 24 T (fun r w => ∃ y b', r = some (VI y) ∧ w = MW (EW v j b') R ∧ ET live b0 b' y m e) (6, [some (mr 0), some (.inl live), some (.inl y), x3], [], MW (EW v i b) R)

section Ex
variable {ro : ab_R} {T : List im_T}
set_option maxHeartbeats 8000000 in
theorem e_M3 (hT : T.length < 1000) {n : Nat} (h1 : EvM ro T n 1 176 5 EG VJ) (h4 : EvRS ro T n 4 ab_k_X9_sumOf 5) : EvM ro T (n + 1) 3 175 6 EG VJ := by
  intro d od v R e o i l live b j l' m hE ho hd hi hl hb hdn
  obtain ⟨d, rfl⟩ : ∃ e, d = e + 1 := ⟨d - 1, by omega⟩
  have h23 := hE.1
  have hcb := @EC_b od v R e hE
  rw [dn_3] at hdn
  obtain ⟨j1, l1, m1, q1, q2⟩ := d_bind_r hdn
  have hj := dn_in (by decide) hi q1
  refine im_ct_of (own := 9) (ret := (some .long)) (code := ab_k_X9_sumOf) (nL := 7) (L0 := [some (mr 0), some (.inl live), none, none, none, none, none]) (n := 24) rfl rfl rfl rfl rfl rfl rfl rfl rfl ?_
  refine im_g 2 (y := (2, _, _, _)) rfl trivial ?_
  refine im_cM rfl rfl (h1 d od v R e (o) (i) l (live) (b) j1 l1 m1 hE ho (by omega) hi hl hb q1) rfl hT (fun v1 w1 hq => ?_)
  obtain ⟨y1, b1, rfl, rfl, g1⟩ := hq
  refine ⟨(EW v (j1) b1), R, rfl, rfl, ?_⟩
  refine im_g 1 (y := (6, _, _, _)) rfl trivial ?_
  exact h4 d od v R e o j1 l1 live b b1 y1 m1 j l' m _ _ _ hE ho (by omega) hj hl g1 q2
set_option maxHeartbeats 8000000 in
theorem e_R4 (hT : T.length < 1000) {n : Nat} (h1 : EvM ro T n 1 176 5 EG VJ) (h4 : EvRS ro T n 4 ab_k_X9_sumOf 5) : EvRS ro T (n + 1) 4 ab_k_X9_sumOf 5 := by
  intro d od v R e o i l live b0 b y a j l' m x4 x5 x6 hE ho hd hi hl g hdn
  have h23 := hE.1
  have hcb := @EC_b od v R e hE
  have hb := g.1
  have hk := hcb hi.1
  refine im_g 3 (y := (11, _, _, _)) rfl trivial ?_
  refine im_cM rfl rfl (e_codeAt (v := v) (R := R) (i := i) (b := b) (k := i) (by omega) hT (by omega) (by omega) h23) rfl hT (fun v1 w1 hq => ?_)
  obtain ⟨rfl, rfl⟩ := hq
  refine ⟨(EW v (i) b), R, rfl, rfl, ?_⟩
  refine im_g 1 (y := (16, _, _, _)) rfl trivial ?_
  refine im_call [] rfl rfl (m_sign (a := 43) (by omega) hT) rfl rfl rfl (by decide) rfl (by decide) hT (fun v1 w1 hq => ?_)
  obtain ⟨rfl, rfl⟩ := hq
  refine ⟨_, _, MW (EW v i b) R, rfl, rfl, rfl, ?_⟩
  refine im_b rfl rfl ⟨(by omega), (by omega), trivial⟩ (fun br1 => ?_) (fun br1 => ?_)
  · rw [dn_4, if_pos (by omega)] at hdn
    obtain ⟨j1, l1, m1, q1, q2⟩ := d_bind_r hdn
    have hci := EC_in (v := v) (R := R) (i := i) (by omega)
    have hj := dn_in (by decide) (by omega) q1
    rw [show d_sw (EC v R i) = 3 from if_pos (by omega)] at q2
    refine im_g 3 (y := (43, _, _, _)) rfl trivial ?_
    refine im_cM rfl rfl (e_codeAt (v := v) (R := R) (i := i) (b := b) (k := i) (by omega) hT (by omega) (by omega) h23) rfl hT (fun v1 w1 hq => ?_)
    obtain ⟨rfl, rfl⟩ := hq
    refine ⟨(EW v (i) b), R, rfl, rfl, ?_⟩
    refine im_g 1 (y := (48, _, _, _)) rfl trivial ?_
    refine im_call [] rfl rfl (m_sign (a := 43) (by omega) hT) rfl rfl rfl (by decide) rfl (by decide) hT (fun v1 w1 hq => ?_)
    obtain ⟨rfl, rfl⟩ := hq
    refine ⟨_, _, MW (EW v i b) R, rfl, rfl, rfl, ?_⟩
    refine im_bF rfl rfl ⟨(by omega), (by omega), trivial⟩ (by omega) ?_
    refine im_g 11 (y := (73, _, _, _)) rfl trivial ?_
    refine im_cM rfl rfl (h1 d od v R e (o) (i + 1) l (live) (b) j1 l1 m1 hE ho (by omega) (by omega) hl hb q1) rfl hT (fun v1 w1 hq => ?_)
    obtain ⟨y1, b1, rfl, rfl, g1⟩ := hq
    refine ⟨(EW v (j1) b1), R, rfl, rfl, ?_⟩
    have ga := g.2.2.1
    have gb := g1.2.2.1
    have gc := g1.1
    refine im_g 3 (y := (81, _, _, _)) rfl trivial ?_
    refine im_bF rfl rfl ⟨(by omega), trivial⟩ (by decide) ?_
    refine im_g 5 (y := (96, _, _, _)) rfl trivial ?_
    refine im_cM rfl rfl (e_bounded (v := v) (R := R) (i := j1) (b := b1) (z := y + y1) (live := live) (by omega) hT (by constructor <;> omega) hl (by omega)) rfl hT (fun v1 w1 hq => ?_)
    obtain ⟨rfl, rfl⟩ := hq
    refine ⟨(EW v j1 (e_bq (y + y1) live b1)), R, rfl, rfl, ?_⟩
    refine im_g 2 (y := (6, _, _, _)) rfl trivial ?_
    exact h4 d od v R e o j1 l1 live b0 _ _ (d_op 3 a m1) j l' m _ _ _ hE ho (by omega) hj hl (EG_op hl g g1 (Or.inl rfl) (fun q => by have t1 := g.2.2.2.2.1 (Or.inl q); have t2 := g1.2.2.2.2.1 (Or.inl q); omega) (fun _ _ => mc_cb_p _ _) (fun _ t1 t2 => absurd (t1.symm.trans t2) (by decide))) q2
  · refine im_g 3 (y := (27, _, _, _)) rfl trivial ?_
    refine im_cM rfl rfl (e_codeAt (v := v) (R := R) (i := i) (b := b) (k := i) (by omega) hT (by omega) (by omega) h23) rfl hT (fun v1 w1 hq => ?_)
    obtain ⟨rfl, rfl⟩ := hq
    refine ⟨(EW v (i) b), R, rfl, rfl, ?_⟩
    refine im_g 1 (y := (32, _, _, _)) rfl trivial ?_
    refine im_call [] rfl rfl (m_sign (a := 45) (by omega) hT) rfl rfl rfl (by decide) rfl (by decide) hT (fun v1 w1 hq => ?_)
    obtain ⟨rfl, rfl⟩ := hq
    refine ⟨_, _, MW (EW v i b) R, rfl, rfl, rfl, ?_⟩
    refine im_b rfl rfl ⟨(by omega), (by omega), trivial⟩ (fun br2 => ?_) (fun br2 => ?_)
    · refine im_g 1 (y := (104, _, _, _)) rfl trivial ?_
      refine im_r rfl rfl trivial rfl ?_
      rw [dn_4, if_neg (by omega)] at hdn
      have z1 : i = j ∧ a = m := by cases hdn; exact ⟨rfl, rfl⟩
      exact ⟨y, b, rfl, by rw [← z1.1], by rw [← z1.2]; exact g⟩
    · rw [dn_4, if_pos (by omega)] at hdn
      obtain ⟨j1, l1, m1, q1, q2⟩ := d_bind_r hdn
      have hci := EC_in (v := v) (R := R) (i := i) (by omega)
      have hj := dn_in (by decide) (by omega) q1
      rw [show d_sw (EC v R i) = 4 from if_neg (by omega)] at q2
      refine im_g 3 (y := (43, _, _, _)) rfl trivial ?_
      refine im_cM rfl rfl (e_codeAt (v := v) (R := R) (i := i) (b := b) (k := i) (by omega) hT (by omega) (by omega) h23) rfl hT (fun v1 w1 hq => ?_)
      obtain ⟨rfl, rfl⟩ := hq
      refine ⟨(EW v (i) b), R, rfl, rfl, ?_⟩
      refine im_g 1 (y := (48, _, _, _)) rfl trivial ?_
      refine im_call [] rfl rfl (m_sign (a := 43) (by omega) hT) rfl rfl rfl (by decide) rfl (by decide) hT (fun v1 w1 hq => ?_)
      obtain ⟨rfl, rfl⟩ := hq
      refine ⟨_, _, MW (EW v i b) R, rfl, rfl, rfl, ?_⟩
      refine im_bT rfl rfl ⟨(by omega), (by omega), trivial⟩ (by omega) ?_
      refine im_g 10 (y := (73, _, _, _)) rfl trivial ?_
      refine im_cM rfl rfl (h1 d od v R e (o) (i + 1) l (live) (b) j1 l1 m1 hE ho (by omega) (by omega) hl hb q1) rfl hT (fun v1 w1 hq => ?_)
      obtain ⟨y1, b1, rfl, rfl, g1⟩ := hq
      refine ⟨(EW v (j1) b1), R, rfl, rfl, ?_⟩
      have ga := g.2.2.1
      have gb := g1.2.2.1
      have gc := g1.1
      refine im_g 3 (y := (81, _, _, _)) rfl trivial ?_
      refine im_bT rfl rfl ⟨(by omega), trivial⟩ (by decide) ?_
      refine im_g 4 (y := (96, _, _, _)) rfl trivial ?_
      refine im_cM rfl rfl (e_bounded (v := v) (R := R) (i := j1) (b := b1) (z := y - y1) (live := live) (by omega) hT (by constructor <;> omega) hl (by omega)) rfl hT (fun v1 w1 hq => ?_)
      obtain ⟨rfl, rfl⟩ := hq
      refine ⟨(EW v j1 (e_bq (y - y1) live b1)), R, rfl, rfl, ?_⟩
      refine im_g 2 (y := (6, _, _, _)) rfl trivial ?_
      exact h4 d od v R e o j1 l1 live b0 _ _ (d_op 4 a m1) j l' m _ _ _ hE ho (by omega) hj hl (EG_op hl g g1 (Or.inl rfl) (fun q => by have t1 := g.2.2.2.2.1 (Or.inl q); have t2 := g1.2.2.2.2.1 (Or.inl q); omega) (fun _ _ => mc_cb_m _ _) (fun _ t1 t2 => absurd (t1.symm.trans t2) (by decide))) q2
set_option maxHeartbeats 8000000 in
theorem e_M1 (hT : T.length < 1000) {n : Nat} (h0 : EvM ro T n 0 177 4 EG VJ) (h2 : EvRS ro T n 2 ab_k_X9_termOf 4) : EvM ro T (n + 1) 1 176 5 EG VJ := by
  intro d od v R e o i l live b j l' m hE ho hd hi hl hb hdn
  obtain ⟨d, rfl⟩ : ∃ e, d = e + 1 := ⟨d - 1, by omega⟩
  have h23 := hE.1
  have hcb := @EC_b od v R e hE
  rw [dn_1] at hdn
  obtain ⟨j1, l1, m1, q1, q2⟩ := d_bind_r hdn
  have hj := dn_in (by decide) hi q1
  refine im_ct_of (own := 9) (ret := (some .long)) (code := ab_k_X9_termOf) (nL := 7) (L0 := [some (mr 0), some (.inl live), none, none, none, none, none]) (n := 24) rfl rfl rfl rfl rfl rfl rfl rfl rfl ?_
  refine im_g 2 (y := (2, _, _, _)) rfl trivial ?_
  refine im_cM rfl rfl (h0 d od v R e (o) (i) l (live) (b) j1 l1 m1 hE ho (by omega) hi hl hb q1) rfl hT (fun v1 w1 hq => ?_)
  obtain ⟨y1, b1, rfl, rfl, g1⟩ := hq
  refine ⟨(EW v (j1) b1), R, rfl, rfl, ?_⟩
  refine im_g 1 (y := (6, _, _, _)) rfl trivial ?_
  exact h2 d od v R e o j1 l1 live b b1 y1 m1 j l' m _ _ _ hE ho (by omega) hj hl g1 q2
set_option maxHeartbeats 8000000 in
theorem e_R2 (hT : T.length < 1000) {n : Nat} (h0 : EvM ro T n 0 177 4 EG VJ) (h2 : EvRS ro T n 2 ab_k_X9_termOf 4) : EvRS ro T (n + 1) 2 ab_k_X9_termOf 4 := by
  intro d od v R e o i l live b0 b y a j l' m x4 x5 x6 hE ho hd hi hl g hdn
  have h23 := hE.1
  have hcb := @EC_b od v R e hE
  have hb := g.1
  have hk := hcb hi.1
  refine im_g 3 (y := (11, _, _, _)) rfl trivial ?_
  refine im_cM rfl rfl (e_codeAt (v := v) (R := R) (i := i) (b := b) (k := i) (by omega) hT (by omega) (by omega) h23) rfl hT (fun v1 w1 hq => ?_)
  obtain ⟨rfl, rfl⟩ := hq
  refine ⟨(EW v (i) b), R, rfl, rfl, ?_⟩
  refine im_g 1 (y := (16, _, _, _)) rfl trivial ?_
  refine im_call [] rfl rfl (m_sign (a := 42) (by omega) hT) rfl rfl rfl (by decide) rfl (by decide) hT (fun v1 w1 hq => ?_)
  obtain ⟨rfl, rfl⟩ := hq
  refine ⟨_, _, MW (EW v i b) R, rfl, rfl, rfl, ?_⟩
  refine im_b rfl rfl ⟨(by omega), (by omega), trivial⟩ (fun br1 => ?_) (fun br1 => ?_)
  · rw [dn_2, if_pos (by omega)] at hdn
    obtain ⟨j1, l1, m1, q1, q2⟩ := d_bind_r hdn
    have hci := EC_in (v := v) (R := R) (i := i) (by omega)
    have hj := dn_in (by decide) (by omega) q1
    rw [show d_tw (EC v R i) = 5 by unfold d_tw; rw [if_pos (by omega)]] at q2
    refine im_g 3 (y := (59, _, _, _)) rfl trivial ?_
    refine im_cM rfl rfl (e_codeAt (v := v) (R := R) (i := i) (b := b) (k := i) (by omega) hT (by omega) (by omega) h23) rfl hT (fun v1 w1 hq => ?_)
    obtain ⟨rfl, rfl⟩ := hq
    refine ⟨(EW v (i) b), R, rfl, rfl, ?_⟩
    refine im_g 9 (y := (76, _, _, _)) rfl trivial ?_
    refine im_cM rfl rfl (h0 d od v R e (o) (i + 1) l (live) (b) j1 l1 m1 hE ho (by omega) (by omega) hl hb q1) rfl hT (fun v1 w1 hq => ?_)
    obtain ⟨y1, b1, rfl, rfl, g1⟩ := hq
    refine ⟨(EW v (j1) b1), R, rfl, rfl, ?_⟩
    have ga := g.2.2.1
    have gb := g1.2.2.1
    have gc := g1.1
    refine im_g 3 (y := (85, _, _, _)) rfl trivial ?_
    refine im_call [] rfl rfl (m_sign (a := 42) (by omega) hT) rfl rfl rfl (by decide) rfl (by decide) hT (fun v1 w1 hq => ?_)
    obtain ⟨rfl, rfl⟩ := hq
    refine ⟨_, _, MW (EW v j1 b1) R, rfl, rfl, rfl, ?_⟩
    refine im_bT rfl rfl ⟨(by omega), (by omega), trivial⟩ (by omega) ?_
    have mb : im_lr (y * y1) := by have := im_mulb (a := y) (b := y1) (by omega) (by omega); constructor <;> omega
    refine im_g 3 (y := (126, _, _, _)) rfl trivial ?_
    refine im_call [] rfl rfl (m_sign (a := 42) (by omega) hT) rfl rfl rfl (by decide) rfl (by decide) hT (fun v1 w1 hq => ?_)
    obtain ⟨rfl, rfl⟩ := hq
    refine ⟨_, _, MW (EW v j1 b1) R, rfl, rfl, rfl, ?_⟩
    refine im_bF rfl rfl ⟨(by omega), (by omega), trivial⟩ (by omega) ?_
    refine im_g 5 (y := (161, _, _, _)) rfl trivial ?_
    refine im_cM rfl rfl (e_bounded (v := v) (R := R) (i := j1) (b := b1) (z := y * y1) (live := live) (by omega) hT (by exact mb) hl (by omega)) rfl hT (fun v1 w1 hq => ?_)
    obtain ⟨rfl, rfl⟩ := hq
    refine ⟨(EW v j1 (e_bq (y * y1) live b1)), R, rfl, rfl, ?_⟩
    refine im_g 2 (y := (6, _, _, _)) rfl trivial ?_
    exact h2 d od v R e o j1 l1 live b0 _ _ (d_op 5 a m1) j l' m _ _ _ hE ho (by omega) hj hl (EG_op (z := y * y1) (b2 := b1) hl g g1 (Or.inl rfl) (fun q => by rw [g.2.2.2.2.1 (Or.inl q)]; exact Int.zero_mul _) (fun _ _ => mc_cb_t _ _) (fun _ t1 t2 => absurd (t1.symm.trans t2) (by decide))) q2
  · refine im_g 3 (y := (27, _, _, _)) rfl trivial ?_
    refine im_cM rfl rfl (e_codeAt (v := v) (R := R) (i := i) (b := b) (k := i) (by omega) hT (by omega) (by omega) h23) rfl hT (fun v1 w1 hq => ?_)
    obtain ⟨rfl, rfl⟩ := hq
    refine ⟨(EW v (i) b), R, rfl, rfl, ?_⟩
    refine im_g 1 (y := (32, _, _, _)) rfl trivial ?_
    refine im_call [] rfl rfl (m_sign (a := 47) (by omega) hT) rfl rfl rfl (by decide) rfl (by decide) hT (fun v1 w1 hq => ?_)
    obtain ⟨rfl, rfl⟩ := hq
    refine ⟨_, _, MW (EW v i b) R, rfl, rfl, rfl, ?_⟩
    refine im_b rfl rfl ⟨(by omega), (by omega), trivial⟩ (fun br2 => ?_) (fun br2 => ?_)
    · rw [dn_2, if_pos (by omega)] at hdn
      obtain ⟨j1, l1, m1, q1, q2⟩ := d_bind_r hdn
      have hci := EC_in (v := v) (R := R) (i := i) (by omega)
      have hj := dn_in (by decide) (by omega) q1
      rw [show d_tw (EC v R i) = 6 by unfold d_tw; rw [if_neg (by omega), if_pos (by omega)]] at q2
      refine im_g 3 (y := (59, _, _, _)) rfl trivial ?_
      refine im_cM rfl rfl (e_codeAt (v := v) (R := R) (i := i) (b := b) (k := i) (by omega) hT (by omega) (by omega) h23) rfl hT (fun v1 w1 hq => ?_)
      obtain ⟨rfl, rfl⟩ := hq
      refine ⟨(EW v (i) b), R, rfl, rfl, ?_⟩
      refine im_g 9 (y := (76, _, _, _)) rfl trivial ?_
      refine im_cM rfl rfl (h0 d od v R e (o) (i + 1) l (live) (b) j1 l1 m1 hE ho (by omega) (by omega) hl hb q1) rfl hT (fun v1 w1 hq => ?_)
      obtain ⟨y1, b1, rfl, rfl, g1⟩ := hq
      refine ⟨(EW v (j1) b1), R, rfl, rfl, ?_⟩
      have ga := g.2.2.1
      have gb := g1.2.2.1
      have gc := g1.1
      refine im_g 3 (y := (85, _, _, _)) rfl trivial ?_
      refine im_call [] rfl rfl (m_sign (a := 42) (by omega) hT) rfl rfl rfl (by decide) rfl (by decide) hT (fun v1 w1 hq => ?_)
      obtain ⟨rfl, rfl⟩ := hq
      refine ⟨_, _, MW (EW v j1 b1) R, rfl, rfl, rfl, ?_⟩
      refine im_bF rfl rfl ⟨(by omega), (by omega), trivial⟩ (by omega) ?_
      refine im_g 3 (y := (95, _, _, _)) rfl ⟨(by constructor <;> omega), (by constructor <;> omega), trivial⟩ ?_
      refine im_b rfl rfl ⟨(by exact im_cmp_ir _ _), trivial⟩ (fun br3 => ?_) (fun br3 => ?_)
      · rw [im_cmp_0] at br3
        have nz : ¬ y1 = 0 := br3
        have mb := im_tdivb (a := y) (b := y1) (by omega)
        refine im_g 3 (y := (126, _, _, _)) rfl trivial ?_
        refine im_call [] rfl rfl (m_sign (a := 42) (by omega) hT) rfl rfl rfl (by decide) rfl (by decide) hT (fun v1 w1 hq => ?_)
        obtain ⟨rfl, rfl⟩ := hq
        refine ⟨_, _, MW (EW v j1 b1) R, rfl, rfl, rfl, ?_⟩
        refine im_bT rfl rfl ⟨(by omega), (by omega), trivial⟩ (by omega) ?_
        refine im_g 2 (y := (143, _, _, _)) rfl trivial ?_
        refine im_call [] rfl rfl (m_sign (a := 47) (by omega) hT) rfl rfl rfl (by decide) rfl (by decide) hT (fun v1 w1 hq => ?_)
        obtain ⟨rfl, rfl⟩ := hq
        refine ⟨_, _, MW (EW v j1 b1) R, rfl, rfl, rfl, ?_⟩
        refine im_bF rfl rfl ⟨(by omega), (by omega), trivial⟩ (by omega) ?_
        refine im_g 5 (y := (161, _, _, _)) rfl ⟨(by first | (constructor <;> omega) | omega), (by first | (constructor <;> omega) | omega), (by first | (constructor <;> omega) | omega), trivial⟩ ?_
        refine im_cM rfl rfl (e_bounded (v := v) (R := R) (i := j1) (b := b1) (z := y.tdiv y1) (live := live) (by omega) hT (by constructor <;> omega) hl (by omega)) rfl hT (fun v1 w1 hq => ?_)
        obtain ⟨rfl, rfl⟩ := hq
        refine ⟨(EW v j1 (e_bq (y.tdiv y1) live b1)), R, rfl, rfl, ?_⟩
        refine im_g 2 (y := (6, _, _, _)) rfl trivial ?_
        exact h2 d od v R e o j1 l1 live b0 _ _ (d_op 6 a m1) j l' m _ _ _ hE ho (by omega) hj hl (EG_op (z := y.tdiv y1) (b2 := b1) hl g g1 (Or.inl rfl) (fun q => by rw [g.2.2.2.2.1 (Or.inl q)]; exact Int.zero_tdiv _) (fun _ _ => mc_cb_d _ nz) (fun _ t1 t2 => absurd (t1.symm.trans t2) (by decide))) q2
      · rw [im_cmp_0] at br3
        have z0 : y1 = 0 := Classical.not_not.mp br3
        refine im_g 3 (y := (103, _, _, _)) rfl trivial ?_
        refine im_b rfl rfl ⟨(by show im_ir b1; omega), trivial⟩ (fun br4 => ?_) (fun br4 => ?_)
        · have hh1 : ¬ b1 = 0 := br4
          refine im_g 5 (y := (121, _, _, _)) rfl ⟨(by decide), trivial⟩ ?_
          have mb := im_tdivb (a := y) (b := 1) (by omega)
          refine im_g 3 (y := (126, _, _, _)) rfl trivial ?_
          refine im_call [] rfl rfl (m_sign (a := 42) (by omega) hT) rfl rfl rfl (by decide) rfl (by decide) hT (fun v1 w1 hq => ?_)
          obtain ⟨rfl, rfl⟩ := hq
          refine ⟨_, _, MW (EW v j1 1) R, rfl, rfl, rfl, ?_⟩
          refine im_bT rfl rfl ⟨(by omega), (by omega), trivial⟩ (by omega) ?_
          refine im_g 2 (y := (143, _, _, _)) rfl trivial ?_
          refine im_call [] rfl rfl (m_sign (a := 47) (by omega) hT) rfl rfl rfl (by decide) rfl (by decide) hT (fun v1 w1 hq => ?_)
          obtain ⟨rfl, rfl⟩ := hq
          refine ⟨_, _, MW (EW v j1 1) R, rfl, rfl, rfl, ?_⟩
          refine im_bF rfl rfl ⟨(by omega), (by omega), trivial⟩ (by omega) ?_
          refine im_g 5 (y := (161, _, _, _)) rfl ⟨(by first | (constructor <;> omega) | omega), (by first | (constructor <;> omega) | omega), (by first | (constructor <;> omega) | omega), trivial⟩ ?_
          refine im_cM rfl rfl (e_bounded (v := v) (R := R) (i := j1) (b := 1) (z := y.tdiv 1) (live := live) (by omega) hT (by constructor <;> omega) hl (by omega)) rfl hT (fun v1 w1 hq => ?_)
          obtain ⟨rfl, rfl⟩ := hq
          refine ⟨(EW v j1 (e_bq (y.tdiv 1) live 1)), R, rfl, rfl, ?_⟩
          refine im_g 2 (y := (6, _, _, _)) rfl trivial ?_
          exact h2 d od v R e o j1 l1 live b0 _ _ (d_op 6 a m1) j l' m _ _ _ hE ho (by omega) hj hl (EG_op (z := y.tdiv 1) (b2 := 1) hl g g1 (by omega) (fun q => by rw [g.2.2.2.2.1 (Or.inl q)]; exact Int.zero_tdiv _) (fun t1 t2 => absurd t2 (by decide)) (fun _ _ _ => by rw [z0]; exact mc_cb_z 6 y (by decide))) q2
        · have hh1 : ¬ ¬ b1 = 0 := br4
          refine im_g 1 (y := (107, _, _, _)) rfl trivial ?_
          refine im_b rfl rfl ⟨(by omega), trivial⟩ (fun br5 => ?_) (fun br5 => ?_)
          · refine im_g 4 (y := (121, _, _, _)) rfl ⟨(by decide), trivial⟩ ?_
            have mb := im_tdivb (a := y) (b := 1) (by omega)
            refine im_g 3 (y := (126, _, _, _)) rfl trivial ?_
            refine im_call [] rfl rfl (m_sign (a := 42) (by omega) hT) rfl rfl rfl (by decide) rfl (by decide) hT (fun v1 w1 hq => ?_)
            obtain ⟨rfl, rfl⟩ := hq
            refine ⟨_, _, MW (EW v j1 0) R, rfl, rfl, rfl, ?_⟩
            refine im_bT rfl rfl ⟨(by omega), (by omega), trivial⟩ (by omega) ?_
            refine im_g 2 (y := (143, _, _, _)) rfl trivial ?_
            refine im_call [] rfl rfl (m_sign (a := 47) (by omega) hT) rfl rfl rfl (by decide) rfl (by decide) hT (fun v1 w1 hq => ?_)
            obtain ⟨rfl, rfl⟩ := hq
            refine ⟨_, _, MW (EW v j1 0) R, rfl, rfl, rfl, ?_⟩
            refine im_bF rfl rfl ⟨(by omega), (by omega), trivial⟩ (by omega) ?_
            refine im_g 5 (y := (161, _, _, _)) rfl ⟨(by first | (constructor <;> omega) | omega), (by first | (constructor <;> omega) | omega), (by first | (constructor <;> omega) | omega), trivial⟩ ?_
            refine im_cM rfl rfl (e_bounded (v := v) (R := R) (i := j1) (b := 0) (z := y.tdiv 1) (live := live) (by omega) hT (by constructor <;> omega) hl (by omega)) rfl hT (fun v1 w1 hq => ?_)
            obtain ⟨rfl, rfl⟩ := hq
            refine ⟨(EW v j1 (e_bq (y.tdiv 1) live 0)), R, rfl, rfl, ?_⟩
            refine im_g 2 (y := (6, _, _, _)) rfl trivial ?_
            exact h2 d od v R e o j1 l1 live b0 _ _ (d_op 6 a m1) j l' m _ _ _ hE ho (by omega) hj hl (EG_op (z := y.tdiv 1) (b2 := 0) hl g g1 (by omega) (fun q => by rw [g.2.2.2.2.1 (Or.inl q)]; exact Int.zero_tdiv _) (fun t1 t2 => by omega) (fun _ t _ => absurd t (by decide))) q2
          · refine im_g 5 (y := (121, _, _, _)) rfl ⟨(by decide), trivial⟩ ?_
            have mb := im_tdivb (a := y) (b := 1) (by omega)
            refine im_g 3 (y := (126, _, _, _)) rfl trivial ?_
            refine im_call [] rfl rfl (m_sign (a := 42) (by omega) hT) rfl rfl rfl (by decide) rfl (by decide) hT (fun v1 w1 hq => ?_)
            obtain ⟨rfl, rfl⟩ := hq
            refine ⟨_, _, MW (EW v j1 1) R, rfl, rfl, rfl, ?_⟩
            refine im_bT rfl rfl ⟨(by omega), (by omega), trivial⟩ (by omega) ?_
            refine im_g 2 (y := (143, _, _, _)) rfl trivial ?_
            refine im_call [] rfl rfl (m_sign (a := 47) (by omega) hT) rfl rfl rfl (by decide) rfl (by decide) hT (fun v1 w1 hq => ?_)
            obtain ⟨rfl, rfl⟩ := hq
            refine ⟨_, _, MW (EW v j1 1) R, rfl, rfl, rfl, ?_⟩
            refine im_bF rfl rfl ⟨(by omega), (by omega), trivial⟩ (by omega) ?_
            refine im_g 5 (y := (161, _, _, _)) rfl ⟨(by first | (constructor <;> omega) | omega), (by first | (constructor <;> omega) | omega), (by first | (constructor <;> omega) | omega), trivial⟩ ?_
            refine im_cM rfl rfl (e_bounded (v := v) (R := R) (i := j1) (b := 1) (z := y.tdiv 1) (live := live) (by omega) hT (by constructor <;> omega) hl (by omega)) rfl hT (fun v1 w1 hq => ?_)
            obtain ⟨rfl, rfl⟩ := hq
            refine ⟨(EW v j1 (e_bq (y.tdiv 1) live 1)), R, rfl, rfl, ?_⟩
            refine im_g 2 (y := (6, _, _, _)) rfl trivial ?_
            exact h2 d od v R e o j1 l1 live b0 _ _ (d_op 6 a m1) j l' m _ _ _ hE ho (by omega) hj hl (EG_op (z := y.tdiv 1) (b2 := 1) hl g g1 (by omega) (fun q => by rw [g.2.2.2.2.1 (Or.inl q)]; exact Int.zero_tdiv _) (fun t1 t2 => absurd t2 (by decide)) (fun _ _ _ => by rw [z0]; exact mc_cb_z 6 y (by decide))) q2
    · refine im_g 3 (y := (43, _, _, _)) rfl trivial ?_
      refine im_cM rfl rfl (e_codeAt (v := v) (R := R) (i := i) (b := b) (k := i) (by omega) hT (by omega) (by omega) h23) rfl hT (fun v1 w1 hq => ?_)
      obtain ⟨rfl, rfl⟩ := hq
      refine ⟨(EW v (i) b), R, rfl, rfl, ?_⟩
      refine im_g 1 (y := (48, _, _, _)) rfl trivial ?_
      refine im_call [] rfl rfl (m_sign (a := 37) (by omega) hT) rfl rfl rfl (by decide) rfl (by decide) hT (fun v1 w1 hq => ?_)
      obtain ⟨rfl, rfl⟩ := hq
      refine ⟨_, _, MW (EW v i b) R, rfl, rfl, rfl, ?_⟩
      refine im_b rfl rfl ⟨(by omega), (by omega), trivial⟩ (fun br6 => ?_) (fun br6 => ?_)
      · refine im_g 1 (y := (169, _, _, _)) rfl trivial ?_
        refine im_r rfl rfl trivial rfl ?_
        rw [dn_2, if_neg (by omega)] at hdn
        have z1 : i = j ∧ a = m := by cases hdn; exact ⟨rfl, rfl⟩
        exact ⟨y, b, rfl, by rw [← z1.1], by rw [← z1.2]; exact g⟩
      · rw [dn_2, if_pos (by omega)] at hdn
        obtain ⟨j1, l1, m1, q1, q2⟩ := d_bind_r hdn
        have hci := EC_in (v := v) (R := R) (i := i) (by omega)
        have hj := dn_in (by decide) (by omega) q1
        rw [show d_tw (EC v R i) = 7 by unfold d_tw; rw [if_neg (by omega), if_neg (by omega)]] at q2
        refine im_g 3 (y := (59, _, _, _)) rfl trivial ?_
        refine im_cM rfl rfl (e_codeAt (v := v) (R := R) (i := i) (b := b) (k := i) (by omega) hT (by omega) (by omega) h23) rfl hT (fun v1 w1 hq => ?_)
        obtain ⟨rfl, rfl⟩ := hq
        refine ⟨(EW v (i) b), R, rfl, rfl, ?_⟩
        refine im_g 9 (y := (76, _, _, _)) rfl trivial ?_
        refine im_cM rfl rfl (h0 d od v R e (o) (i + 1) l (live) (b) j1 l1 m1 hE ho (by omega) (by omega) hl hb q1) rfl hT (fun v1 w1 hq => ?_)
        obtain ⟨y1, b1, rfl, rfl, g1⟩ := hq
        refine ⟨(EW v (j1) b1), R, rfl, rfl, ?_⟩
        have ga := g.2.2.1
        have gb := g1.2.2.1
        have gc := g1.1
        refine im_g 3 (y := (85, _, _, _)) rfl trivial ?_
        refine im_call [] rfl rfl (m_sign (a := 42) (by omega) hT) rfl rfl rfl (by decide) rfl (by decide) hT (fun v1 w1 hq => ?_)
        obtain ⟨rfl, rfl⟩ := hq
        refine ⟨_, _, MW (EW v j1 b1) R, rfl, rfl, rfl, ?_⟩
        refine im_bF rfl rfl ⟨(by omega), (by omega), trivial⟩ (by omega) ?_
        refine im_g 3 (y := (95, _, _, _)) rfl ⟨(by constructor <;> omega), (by constructor <;> omega), trivial⟩ ?_
        refine im_b rfl rfl ⟨(by exact im_cmp_ir _ _), trivial⟩ (fun br7 => ?_) (fun br7 => ?_)
        · rw [im_cmp_0] at br7
          have nz : ¬ y1 = 0 := br7
          have mb := im_tmodb (a := y) (b := y1) (by omega)
          refine im_g 3 (y := (126, _, _, _)) rfl trivial ?_
          refine im_call [] rfl rfl (m_sign (a := 42) (by omega) hT) rfl rfl rfl (by decide) rfl (by decide) hT (fun v1 w1 hq => ?_)
          obtain ⟨rfl, rfl⟩ := hq
          refine ⟨_, _, MW (EW v j1 b1) R, rfl, rfl, rfl, ?_⟩
          refine im_bT rfl rfl ⟨(by omega), (by omega), trivial⟩ (by omega) ?_
          refine im_g 2 (y := (143, _, _, _)) rfl trivial ?_
          refine im_call [] rfl rfl (m_sign (a := 47) (by omega) hT) rfl rfl rfl (by decide) rfl (by decide) hT (fun v1 w1 hq => ?_)
          obtain ⟨rfl, rfl⟩ := hq
          refine ⟨_, _, MW (EW v j1 b1) R, rfl, rfl, rfl, ?_⟩
          refine im_bT rfl rfl ⟨(by omega), (by omega), trivial⟩ (by omega) ?_
          refine im_g 4 (y := (161, _, _, _)) rfl ⟨(by first | (constructor <;> omega) | omega), (by first | (constructor <;> omega) | omega), (by first | (constructor <;> omega) | omega), trivial⟩ ?_
          refine im_cM rfl rfl (e_bounded (v := v) (R := R) (i := j1) (b := b1) (z := y.tmod y1) (live := live) (by omega) hT (by constructor <;> omega) hl (by omega)) rfl hT (fun v1 w1 hq => ?_)
          obtain ⟨rfl, rfl⟩ := hq
          refine ⟨(EW v j1 (e_bq (y.tmod y1) live b1)), R, rfl, rfl, ?_⟩
          refine im_g 2 (y := (6, _, _, _)) rfl trivial ?_
          exact h2 d od v R e o j1 l1 live b0 _ _ (d_op 7 a m1) j l' m _ _ _ hE ho (by omega) hj hl (EG_op (z := y.tmod y1) (b2 := b1) hl g g1 (Or.inl rfl) (fun q => by rw [g.2.2.2.2.1 (Or.inl q)]; exact Int.zero_tmod _) (fun _ _ => mc_cb_r _ nz) (fun _ t1 t2 => absurd (t1.symm.trans t2) (by decide))) q2
        · rw [im_cmp_0] at br7
          have z0 : y1 = 0 := Classical.not_not.mp br7
          refine im_g 3 (y := (103, _, _, _)) rfl trivial ?_
          refine im_b rfl rfl ⟨(by show im_ir b1; omega), trivial⟩ (fun br8 => ?_) (fun br8 => ?_)
          · have hh1 : ¬ b1 = 0 := br8
            refine im_g 5 (y := (121, _, _, _)) rfl ⟨(by decide), trivial⟩ ?_
            have mb := im_tmodb (a := y) (b := 1) (by omega)
            refine im_g 3 (y := (126, _, _, _)) rfl trivial ?_
            refine im_call [] rfl rfl (m_sign (a := 42) (by omega) hT) rfl rfl rfl (by decide) rfl (by decide) hT (fun v1 w1 hq => ?_)
            obtain ⟨rfl, rfl⟩ := hq
            refine ⟨_, _, MW (EW v j1 1) R, rfl, rfl, rfl, ?_⟩
            refine im_bT rfl rfl ⟨(by omega), (by omega), trivial⟩ (by omega) ?_
            refine im_g 2 (y := (143, _, _, _)) rfl trivial ?_
            refine im_call [] rfl rfl (m_sign (a := 47) (by omega) hT) rfl rfl rfl (by decide) rfl (by decide) hT (fun v1 w1 hq => ?_)
            obtain ⟨rfl, rfl⟩ := hq
            refine ⟨_, _, MW (EW v j1 1) R, rfl, rfl, rfl, ?_⟩
            refine im_bT rfl rfl ⟨(by omega), (by omega), trivial⟩ (by omega) ?_
            refine im_g 4 (y := (161, _, _, _)) rfl ⟨(by first | (constructor <;> omega) | omega), (by first | (constructor <;> omega) | omega), (by first | (constructor <;> omega) | omega), trivial⟩ ?_
            refine im_cM rfl rfl (e_bounded (v := v) (R := R) (i := j1) (b := 1) (z := y.tmod 1) (live := live) (by omega) hT (by constructor <;> omega) hl (by omega)) rfl hT (fun v1 w1 hq => ?_)
            obtain ⟨rfl, rfl⟩ := hq
            refine ⟨(EW v j1 (e_bq (y.tmod 1) live 1)), R, rfl, rfl, ?_⟩
            refine im_g 2 (y := (6, _, _, _)) rfl trivial ?_
            exact h2 d od v R e o j1 l1 live b0 _ _ (d_op 7 a m1) j l' m _ _ _ hE ho (by omega) hj hl (EG_op (z := y.tmod 1) (b2 := 1) hl g g1 (by omega) (fun q => by rw [g.2.2.2.2.1 (Or.inl q)]; exact Int.zero_tmod _) (fun t1 t2 => absurd t2 (by decide)) (fun _ _ _ => by rw [z0]; exact mc_cb_z 7 y (by decide))) q2
          · have hh1 : ¬ ¬ b1 = 0 := br8
            refine im_g 1 (y := (107, _, _, _)) rfl trivial ?_
            refine im_b rfl rfl ⟨(by omega), trivial⟩ (fun br9 => ?_) (fun br9 => ?_)
            · refine im_g 4 (y := (121, _, _, _)) rfl ⟨(by decide), trivial⟩ ?_
              have mb := im_tmodb (a := y) (b := 1) (by omega)
              refine im_g 3 (y := (126, _, _, _)) rfl trivial ?_
              refine im_call [] rfl rfl (m_sign (a := 42) (by omega) hT) rfl rfl rfl (by decide) rfl (by decide) hT (fun v1 w1 hq => ?_)
              obtain ⟨rfl, rfl⟩ := hq
              refine ⟨_, _, MW (EW v j1 0) R, rfl, rfl, rfl, ?_⟩
              refine im_bT rfl rfl ⟨(by omega), (by omega), trivial⟩ (by omega) ?_
              refine im_g 2 (y := (143, _, _, _)) rfl trivial ?_
              refine im_call [] rfl rfl (m_sign (a := 47) (by omega) hT) rfl rfl rfl (by decide) rfl (by decide) hT (fun v1 w1 hq => ?_)
              obtain ⟨rfl, rfl⟩ := hq
              refine ⟨_, _, MW (EW v j1 0) R, rfl, rfl, rfl, ?_⟩
              refine im_bT rfl rfl ⟨(by omega), (by omega), trivial⟩ (by omega) ?_
              refine im_g 4 (y := (161, _, _, _)) rfl ⟨(by first | (constructor <;> omega) | omega), (by first | (constructor <;> omega) | omega), (by first | (constructor <;> omega) | omega), trivial⟩ ?_
              refine im_cM rfl rfl (e_bounded (v := v) (R := R) (i := j1) (b := 0) (z := y.tmod 1) (live := live) (by omega) hT (by constructor <;> omega) hl (by omega)) rfl hT (fun v1 w1 hq => ?_)
              obtain ⟨rfl, rfl⟩ := hq
              refine ⟨(EW v j1 (e_bq (y.tmod 1) live 0)), R, rfl, rfl, ?_⟩
              refine im_g 2 (y := (6, _, _, _)) rfl trivial ?_
              exact h2 d od v R e o j1 l1 live b0 _ _ (d_op 7 a m1) j l' m _ _ _ hE ho (by omega) hj hl (EG_op (z := y.tmod 1) (b2 := 0) hl g g1 (by omega) (fun q => by rw [g.2.2.2.2.1 (Or.inl q)]; exact Int.zero_tmod _) (fun t1 t2 => by omega) (fun _ t _ => absurd t (by decide))) q2
            · refine im_g 5 (y := (121, _, _, _)) rfl ⟨(by decide), trivial⟩ ?_
              have mb := im_tmodb (a := y) (b := 1) (by omega)
              refine im_g 3 (y := (126, _, _, _)) rfl trivial ?_
              refine im_call [] rfl rfl (m_sign (a := 42) (by omega) hT) rfl rfl rfl (by decide) rfl (by decide) hT (fun v1 w1 hq => ?_)
              obtain ⟨rfl, rfl⟩ := hq
              refine ⟨_, _, MW (EW v j1 1) R, rfl, rfl, rfl, ?_⟩
              refine im_bT rfl rfl ⟨(by omega), (by omega), trivial⟩ (by omega) ?_
              refine im_g 2 (y := (143, _, _, _)) rfl trivial ?_
              refine im_call [] rfl rfl (m_sign (a := 47) (by omega) hT) rfl rfl rfl (by decide) rfl (by decide) hT (fun v1 w1 hq => ?_)
              obtain ⟨rfl, rfl⟩ := hq
              refine ⟨_, _, MW (EW v j1 1) R, rfl, rfl, rfl, ?_⟩
              refine im_bT rfl rfl ⟨(by omega), (by omega), trivial⟩ (by omega) ?_
              refine im_g 4 (y := (161, _, _, _)) rfl ⟨(by first | (constructor <;> omega) | omega), (by first | (constructor <;> omega) | omega), (by first | (constructor <;> omega) | omega), trivial⟩ ?_
              refine im_cM rfl rfl (e_bounded (v := v) (R := R) (i := j1) (b := 1) (z := y.tmod 1) (live := live) (by omega) hT (by constructor <;> omega) hl (by omega)) rfl hT (fun v1 w1 hq => ?_)
              obtain ⟨rfl, rfl⟩ := hq
              refine ⟨(EW v j1 (e_bq (y.tmod 1) live 1)), R, rfl, rfl, ?_⟩
              refine im_g 2 (y := (6, _, _, _)) rfl trivial ?_
              exact h2 d od v R e o j1 l1 live b0 _ _ (d_op 7 a m1) j l' m _ _ _ hE ho (by omega) hj hl (EG_op (z := y.tmod 1) (b2 := 1) hl g g1 (by omega) (fun q => by rw [g.2.2.2.2.1 (Or.inl q)]; exact Int.zero_tmod _) (fun t1 t2 => absurd t2 (by decide)) (fun _ _ _ => by rw [z0]; exact mc_cb_z 7 y (by decide))) q2
set_option maxHeartbeats 8000000 in
theorem e_M0 (hT : T.length < 1000) {n : Nat} (h3 : EvM ro T n 3 175 6 EG VJ) : EvM ro T (n + 1) 0 177 4 EG VJ := by
  intro d od v R e o i l live b j l' m hE ho hd hi hl hb hdn
  obtain ⟨d, rfl⟩ : ∃ e, d = e + 1 := ⟨d - 1, by omega⟩
  have h23 := hE.1
  have hcb := @EC_b od v R e hE
  refine im_ct_of (own := 9) (ret := (some .long)) (code := ab_k_X9_partOf) (nL := 4) (L0 := [some (mr 0), some (.inl live), none, none]) (n := 24) rfl rfl rfl rfl rfl rfl rfl rfl rfl ?_
  cases od with
  | false =>
    refine im_g 2 (y := (3, _, _, _)) rfl trivial ?_
    refine im_call [] rfl rfl (m_sign (a := 91) (by omega) hT) rfl rfl rfl (by decide) rfl (by decide) hT (fun v1 w1 hq => ?_)
    obtain ⟨rfl, rfl⟩ := hq
    refine ⟨_, _, MW (EW v i b) R, rfl, rfl, rfl, ?_⟩
    refine im_cM rfl rfl (e_passes (v := v) (R := R) (i := i) (b := b) (c := 191) (by omega) hT (by omega) (by decide) (hcb hi.1) h23) rfl hT (fun v1 w1 hq => ?_)
    obtain ⟨rfl, rfl⟩ := hq
    refine ⟨(EW v (if EC v R i = 191 then i + 1 else i) b), R, rfl, rfl, ?_⟩
    refine im_b rfl rfl ⟨(by omega), trivial⟩ (fun br1 => ?_) (fun br1 => ?_)
    · have c9 : ¬ (EC v R i = 191) := by
        intro hh
        rw [if_pos hh] at br1
        exact absurd br1 (by decide)
      clear br1
      rw [if_neg c9]
      obtain ⟨hj, hq⟩ := dn_leaf_f hdn c9
      have hci := EC_in (v := v) (R := R) (i := i) (by omega)
      have e22 : EW v i b 22 = i := rfl
      have hx1 := hE.2.2.2.2.2.2.2 i (by omega) (by omega)
      refine im_g 3 (y := (35, _, _, _)) rfl trivial ?_
      refine im_cM rfl rfl (e_codeAt (v := v) (R := R) (i := i) (b := b) (k := i) (by omega) hT (by omega) (by omega) h23) rfl hT (fun v1 w1 hq => ?_)
      obtain ⟨rfl, rfl⟩ := hq
      refine ⟨(EW v (i) b), R, rfl, rfl, ?_⟩
      refine im_g 11 (y := (55, _, _, _)) rfl trivial ?_
      refine im_bT rfl rfl ⟨(by show im_ir (v 25); rw [hE.2.1.1]; decide), trivial⟩ (show v 25 = 0 from hE.2.1.1) ?_
      refine im_g 1 (y := (95, _, _, _)) rfl trivial ?_
      refine im_b rfl rfl ⟨(by omega), trivial⟩ (fun br2 => ?_) (fun br2 => ?_)
      · refine im_g 1 (y := (106, _, _, _)) rfl trivial ?_
        refine im_r rfl rfl trivial rfl ?_
        have hjj : j = i + 1 := by omega
        exact ⟨0, b, rfl, by rw [hjj] <;> rfl, EG_leaf hl hb (by decide) (fun _ => rfl) (fun t _ => absurd (t.symm.trans (show live = 0 from br2)) (by decide))⟩
      · refine im_g 2 (y := (102, _, _, _)) rfl trivial ?_
        refine im_b rfl rfl ⟨(by show im_ir b; omega), trivial⟩ (fun br3 => ?_) (fun br3 => ?_)
        · have hbz : b = 0 := br3
          refine im_g 2 (y := (110, _, _, _)) rfl trivial ?_
          refine im_b rfl rfl ⟨(by omega), (by omega), trivial⟩ (fun br4 => ?_) (fun br4 => ?_)
          · refine im_g 2 (y := (134, _, _, _)) rfl trivial ?_
            refine im_bT rfl rfl ⟨(by show im_ir (v 25); rw [hE.2.1.1]; decide), trivial⟩ (show v 25 = 0 from hE.2.1.1) ?_
            refine im_g 7 (y := (157, _, _, _)) rfl ⟨(by omega), (by rw [hE.2.1.2 (EC v R i) (by omega) (by omega)]; have t := hE.2.2.1 (d_wi false (EC v R i)); constructor <;> omega), trivial⟩ ?_
            refine im_r rfl rfl trivial rfl ?_
            have hjj : j = i + 1 := by omega
            have hl1 : live = 1 := by omega
            have hb1 : b = 0 := hbz
            have hw : 9 ≤ EC v R i ∧ EC v R i ≤ 16 := by omega
            have hm : m = d_wd (d_wi false (EC v R i)) := by rcases hq with t | t; exact absurd t.1 (by omega); exact t.2
            have hv := hE.2.1.2 (EC v R i) hw.1 hw.2
            refine ⟨R 12 (EC v R i - 9), b, rfl, by rw [hjj] <;> rfl, EG_leaf hl hb ?_ (fun t => by omega) (fun _ _ => by rw [hm, hv] <;> rfl)⟩
            rw [hv]
            exact hE.2.2.1 _
          · refine im_g 10 (y := (129, _, _, _)) rfl ⟨(by first | omega | (show (0 : Int) ≤ 2921 + (i + 1) - 1 ∧ 2921 + (i + 1) - 1 < ((5721 : Nat) : Int) ∧ 2921 + (i + 1) - 1 < 2147483648; omega)), (by show im_ir (R 2 (2921 + (i + 1) - 1)); rw [show (2921 : Int) + (i + 1) - 1 = 2921 + i by omega]; constructor <;> omega), trivial⟩ ?_
            refine im_r rfl rfl trivial rfl ?_
            have hjj : j = i + 1 := by omega
            have hl1 : live = 1 := by omega
            have hb1 : b = 0 := hbz
            have hm : m = d_num (EX R i) := by rcases hq with t | t; exact t.2.2; exact absurd t.1 (by omega)
            refine ⟨R 2 (2921 + i), b, ?_, by rw [hjj] <;> rfl, ?_⟩
            · exact congrArg (fun z => some (VJ (R 2 z))) (by show (2921 : Int) + (i + 1) - 1 = 2921 + i; omega)
            · refine EG_leaf hl hb ?_ (fun t => by omega) (fun _ _ => by rw [hm]; rfl)
              have hx3 : EX R i ≤ 1000 := by rcases hq with t | t; exact t.2.1; exact absurd t.1 (by omega)
              have hx4 : R 2 (2921 + i) ≤ 1000 := hx3
              omega
        · have hbz : ¬ b = 0 := br3
          refine im_g 1 (y := (106, _, _, _)) rfl trivial ?_
          refine im_r rfl rfl trivial rfl ?_
          have hjj : j = i + 1 := by omega
          exact ⟨0, b, rfl, by rw [hjj] <;> rfl, EG_leaf hl hb (by decide) (fun _ => rfl) (fun _ t => absurd t br3)⟩
    · have c9 : EC v R i = 191 := by
        by_cases hh : EC v R i = 191
        · exact hh
        · rw [if_neg hh] at br1; exact absurd rfl br1
      clear br1
      rw [dn_0, if_pos c9] at hdn
      split at hdn
      · cases hdn
      rename_i ho8
      obtain ⟨j1, l1, m1, q1, q2⟩ := d_bind_r hdn
      have hci := EC_in (v := v) (R := R) (i := i) (by omega)
      have hj := dn_in (by decide) (by omega) q1
      have hcj : EC v R j1 = 193 := by
        by_cases hh : EC v R j1 = 193
        · exact hh
        · rw [if_neg hh] at q2; cases q2
      rw [if_pos hcj] at q2
      have z1 : j1 + 1 = j ∧ m1 = m := by cases q2; exact ⟨rfl, rfl⟩
      rw [if_pos c9]
      refine im_g 2 (y := (14, _, _, _)) rfl trivial ?_
      refine im_cM rfl rfl (h3 d false v R e (o + 1) (i + 1) l (live) (b) j1 l1 m1 hE (by omega) (by omega) (by omega) hl hb q1) rfl hT (fun v1 w1 hq => ?_)
      obtain ⟨y1, b1, rfl, rfl, g1⟩ := hq
      refine ⟨(EW v (j1) b1), R, rfl, rfl, ?_⟩
      refine im_g 8 (y := (29, _, _, _)) rfl trivial ?_
      refine im_r rfl rfl trivial rfl ?_
      exact ⟨y1, b1, rfl, by rw [← z1.1]; rfl, by rw [← z1.2]; exact g1⟩
  | true =>
    refine im_g 2 (y := (3, _, _, _)) rfl trivial ?_
    refine im_call [] rfl rfl (m_sign (a := 91) (by omega) hT) rfl rfl rfl (by decide) rfl (by decide) hT (fun v1 w1 hq => ?_)
    obtain ⟨rfl, rfl⟩ := hq
    refine ⟨_, _, MW (EW v i b) R, rfl, rfl, rfl, ?_⟩
    refine im_cM rfl rfl (e_passes (v := v) (R := R) (i := i) (b := b) (c := 191) (by omega) hT (by omega) (by decide) (hcb hi.1) h23) rfl hT (fun v1 w1 hq => ?_)
    obtain ⟨rfl, rfl⟩ := hq
    refine ⟨(EW v (if EC v R i = 191 then i + 1 else i) b), R, rfl, rfl, ?_⟩
    refine im_b rfl rfl ⟨(by omega), trivial⟩ (fun br1 => ?_) (fun br1 => ?_)
    · have c9 : ¬ (EC v R i = 191) := by
        intro hh
        rw [if_pos hh] at br1
        exact absurd br1 (by decide)
      clear br1
      rw [if_neg c9]
      have hq := dn_leaf_t hdn c9
      have hci := EC_in (v := v) (R := R) (i := i) (by omega)
      have e22 : EW v i b 22 = i := rfl
      have hx1 := hE.2.2.2.2.2.2.2 i (by omega) (by omega)
      refine im_g 3 (y := (35, _, _, _)) rfl trivial ?_
      refine im_cM rfl rfl (e_codeAt (v := v) (R := R) (i := i) (b := b) (k := i) (by omega) hT (by omega) (by omega) h23) rfl hT (fun v1 w1 hq => ?_)
      obtain ⟨rfl, rfl⟩ := hq
      refine ⟨(EW v (i) b), R, rfl, rfl, ?_⟩
      refine im_g 11 (y := (55, _, _, _)) rfl trivial ?_
      refine im_bF rfl rfl ⟨(by show im_ir (v 25); rw [hE.2.1.1]; decide), trivial⟩ (show ¬ v 25 = 0 by rw [hE.2.1.1]; decide) ?_
      refine im_g 2 (y := (61, _, _, _)) rfl trivial ?_
      refine im_b rfl rfl ⟨(by omega), (by omega), trivial⟩ (fun br2 => ?_) (fun br2 => ?_)
      · have hk2 : (EC v R (i + 1) = 50 ∧ 0 ≤ EX R (i + 1) ∧ EX R (i + 1) ≤ 9) ∧ j = i + 2 := by rcases hq with t | t | t; exact absurd t.1 (by omega); exact absurd t.1 (by omega); exact ⟨⟨t.2.1, t.2.2.1⟩, t.2.2.2.1⟩
        have hci2 := EC_in (v := v) (R := R) (i := i + 1) (by omega)
        have e23 : EW v i b 22 + 1 = i + 1 := rfl
        refine im_g 15 (y := (95, _, _, _)) rfl ⟨(by first | omega | (show (0 : Int) ≤ 2921 + (i + 1) ∧ 2921 + (i + 1) < ((5721 : Nat) : Int) ∧ 2921 + (i + 1) < 2147483648; omega)), trivial⟩ ?_
        refine im_b rfl rfl ⟨(by omega), trivial⟩ (fun br3 => ?_) (fun br3 => ?_)
        · refine im_g 1 (y := (106, _, _, _)) rfl trivial ?_
          refine im_r rfl rfl trivial rfl ?_
          have hjj : j = i + 1 + 1 := by omega
          exact ⟨0, b, rfl, by rw [hjj] <;> rfl, EG_leaf hl hb (by decide) (fun _ => rfl) (fun t _ => absurd (t.symm.trans (show live = 0 from br3)) (by decide))⟩
        · refine im_g 2 (y := (102, _, _, _)) rfl trivial ?_
          refine im_b rfl rfl ⟨(by show im_ir b; omega), trivial⟩ (fun br4 => ?_) (fun br4 => ?_)
          · have hbz : b = 0 := br4
            refine im_g 2 (y := (110, _, _, _)) rfl trivial ?_
            refine im_bT rfl rfl ⟨(by omega), (by omega), trivial⟩ (by omega) ?_
            refine im_g 2 (y := (134, _, _, _)) rfl trivial ?_
            refine im_bF rfl rfl ⟨(by show im_ir (v 25); rw [hE.2.1.1]; decide), trivial⟩ (show ¬ v 25 = 0 by rw [hE.2.1.1]; decide) ?_
            refine im_g 3 (y := (140, _, _, _)) rfl trivial ?_
            refine im_cM rfl rfl (e_order (v := v) (R := R) (i := i + 1 + 1) (b := b) (c := EC v R i) (k := EX R (i + 1)) (by omega) hT (by omega) (by omega) hE.2.2.2.1 hE.2.2.2.2.1 hE.2.2.2.2.2.1) rfl hT (fun v1 w1 hq => ?_)
            obtain ⟨rfl, rfl⟩ := hq
            refine ⟨(EW v (i + 1 + 1) b), R, rfl, rfl, ?_⟩
            have hir : im_ir (e_ov v R (EC v R i) (EX R (i + 1))) := by
              rw [hE.2.1.2.1 (EC v R i) (EX R (i + 1)) (by omega) (by omega) (by omega)]
              have t := hE.2.2.1 (d_wi true (EC v R i) + EX R (i + 1))
              constructor <;> omega
            refine im_g 2 (y := (157, _, _, _)) rfl ⟨(by exact hir), trivial⟩ ?_
            refine im_r rfl rfl trivial rfl ?_
            have hjj : j = i + 1 + 1 := by omega
            have hl1 : live = 1 := by omega
            have hb1 : b = 0 := hbz
            have hm : m = d_wd (d_wi true (EC v R i) + EX R (i + 1)) := by rcases hq with t | t | t; exact absurd t.1 (by omega); exact absurd t.1 (by omega); exact t.2.2.2.2
            have hv := hE.2.1.2.1 (EC v R i) (EX R (i + 1)) (by omega) (by omega) (by omega)
            refine ⟨e_ov v R (EC v R i) (EX R (i + 1)), b, rfl, by rw [hjj] <;> rfl, EG_leaf hl hb ?_ (fun t => by omega) (fun _ _ => by rw [hm, hv] <;> rfl)⟩
            rw [hv]
            exact hE.2.2.1 _
          · have hbz : ¬ b = 0 := br4
            refine im_g 1 (y := (106, _, _, _)) rfl trivial ?_
            refine im_r rfl rfl trivial rfl ?_
            have hjj : j = i + 1 + 1 := by omega
            exact ⟨0, b, rfl, by rw [hjj] <;> rfl, EG_leaf hl hb (by decide) (fun _ => rfl) (fun _ t => absurd t br4)⟩
      · refine im_g 2 (y := (67, _, _, _)) rfl trivial ?_
        refine im_b rfl rfl ⟨(by omega), (by omega), trivial⟩ (fun br5 => ?_) (fun br5 => ?_)
        · have hk2 : j = i + 1 := by rcases hq with t | t | t; exact t.2.2.1; exact t.2.1; exact absurd t.1 (by omega)
          refine im_g 1 (y := (95, _, _, _)) rfl trivial ?_
          refine im_b rfl rfl ⟨(by omega), trivial⟩ (fun br6 => ?_) (fun br6 => ?_)
          · refine im_g 1 (y := (106, _, _, _)) rfl trivial ?_
            refine im_r rfl rfl trivial rfl ?_
            have hjj : j = i + 1 := by omega
            exact ⟨0, b, rfl, by rw [hjj] <;> rfl, EG_leaf hl hb (by decide) (fun _ => rfl) (fun t _ => absurd (t.symm.trans (show live = 0 from br6)) (by decide))⟩
          · refine im_g 2 (y := (102, _, _, _)) rfl trivial ?_
            refine im_b rfl rfl ⟨(by show im_ir b; omega), trivial⟩ (fun br7 => ?_) (fun br7 => ?_)
            · have hbz : b = 0 := br7
              refine im_g 2 (y := (110, _, _, _)) rfl trivial ?_
              refine im_b rfl rfl ⟨(by omega), (by omega), trivial⟩ (fun br8 => ?_) (fun br8 => ?_)
              · refine im_g 2 (y := (134, _, _, _)) rfl trivial ?_
                refine im_bF rfl rfl ⟨(by show im_ir (v 25); rw [hE.2.1.1]; decide), trivial⟩ (show ¬ v 25 = 0 by rw [hE.2.1.1]; decide) ?_
                refine im_g 3 (y := (140, _, _, _)) rfl trivial ?_
                refine im_cM rfl rfl (e_order (v := v) (R := R) (i := i + 1) (b := b) (c := EC v R i) (k := 0) (by omega) hT (by omega) (by omega) hE.2.2.2.1 hE.2.2.2.2.1 hE.2.2.2.2.2.1) rfl hT (fun v1 w1 hq => ?_)
                obtain ⟨rfl, rfl⟩ := hq
                refine ⟨(EW v (i + 1) b), R, rfl, rfl, ?_⟩
                have hir : im_ir (e_ov v R (EC v R i) (0)) := by
                  rw [hE.2.1.2.2 (EC v R i) (by omega) (by omega)]
                  have t := hE.2.2.1 (d_wi true (EC v R i))
                  constructor <;> omega
                refine im_g 2 (y := (157, _, _, _)) rfl ⟨(by exact hir), trivial⟩ ?_
                refine im_r rfl rfl trivial rfl ?_
                have hjj : j = i + 1 := by omega
                have hl1 : live = 1 := by omega
                have hb1 : b = 0 := hbz
                have hm : m = d_wd (d_wi true (EC v R i)) := by rcases hq with t | t | t; exact absurd t.1 (by omega); exact t.2.2; exact absurd t.1 (by omega)
                have hv := hE.2.1.2.2 (EC v R i) (by omega) (by omega)
                refine ⟨e_ov v R (EC v R i) 0, b, rfl, by rw [hjj] <;> rfl, EG_leaf hl hb ?_ (fun t => by omega) (fun _ _ => by rw [hm, hv] <;> rfl)⟩
                rw [hv]
                exact hE.2.2.1 _
              · refine im_g 10 (y := (129, _, _, _)) rfl ⟨(by first | omega | (show (0 : Int) ≤ 2921 + (i + 1) - 1 ∧ 2921 + (i + 1) - 1 < ((5721 : Nat) : Int) ∧ 2921 + (i + 1) - 1 < 2147483648; omega)), (by show im_ir (R 2 (2921 + (i + 1) - 1)); rw [show (2921 : Int) + (i + 1) - 1 = 2921 + i by omega]; constructor <;> omega), trivial⟩ ?_
                refine im_r rfl rfl trivial rfl ?_
                have hjj : j = i + 1 := by omega
                have hl1 : live = 1 := by omega
                have hb1 : b = 0 := hbz
                have hm : m = d_num (EX R i) := by rcases hq with t | t | t; exact t.2.2.2; exact absurd t.1 (by omega); exact absurd t.1 (by omega)
                refine ⟨R 2 (2921 + i), b, ?_, by rw [hjj] <;> rfl, ?_⟩
                · exact congrArg (fun z => some (VJ (R 2 z))) (by show (2921 : Int) + (i + 1) - 1 = 2921 + i; omega)
                · refine EG_leaf hl hb ?_ (fun t => by omega) (fun _ _ => by rw [hm]; rfl)
                  have hx3 : EX R i ≤ 1000 := by rcases hq with t | t | t; exact t.2.1; exact absurd t.1 (by omega); exact absurd t.1 (by omega)
                  have hx4 : R 2 (2921 + i) ≤ 1000 := hx3
                  omega
            · have hbz : ¬ b = 0 := br7
              refine im_g 1 (y := (106, _, _, _)) rfl trivial ?_
              refine im_r rfl rfl trivial rfl ?_
              have hjj : j = i + 1 := by omega
              exact ⟨0, b, rfl, by rw [hjj] <;> rfl, EG_leaf hl hb (by decide) (fun _ => rfl) (fun _ t => absurd t br7)⟩
        · have hk2 : (EC v R (i + 1) = 50 ∧ 0 ≤ EX R (i + 1) ∧ EX R (i + 1) ≤ 9) ∧ j = i + 2 := by rcases hq with t | t | t; exact absurd t.1 (by omega); exact absurd t.1 (by omega); exact ⟨⟨t.2.1, t.2.2.1⟩, t.2.2.2.1⟩
          have hci2 := EC_in (v := v) (R := R) (i := i + 1) (by omega)
          have e23 : EW v i b 22 + 1 = i + 1 := rfl
          refine im_g 15 (y := (95, _, _, _)) rfl ⟨(by first | omega | (show (0 : Int) ≤ 2921 + (i + 1) ∧ 2921 + (i + 1) < ((5721 : Nat) : Int) ∧ 2921 + (i + 1) < 2147483648; omega)), trivial⟩ ?_
          refine im_b rfl rfl ⟨(by omega), trivial⟩ (fun br9 => ?_) (fun br9 => ?_)
          · refine im_g 1 (y := (106, _, _, _)) rfl trivial ?_
            refine im_r rfl rfl trivial rfl ?_
            have hjj : j = i + 1 + 1 := by omega
            exact ⟨0, b, rfl, by rw [hjj] <;> rfl, EG_leaf hl hb (by decide) (fun _ => rfl) (fun t _ => absurd (t.symm.trans (show live = 0 from br9)) (by decide))⟩
          · refine im_g 2 (y := (102, _, _, _)) rfl trivial ?_
            refine im_b rfl rfl ⟨(by show im_ir b; omega), trivial⟩ (fun br10 => ?_) (fun br10 => ?_)
            · have hbz : b = 0 := br10
              refine im_g 2 (y := (110, _, _, _)) rfl trivial ?_
              refine im_bT rfl rfl ⟨(by omega), (by omega), trivial⟩ (by omega) ?_
              refine im_g 2 (y := (134, _, _, _)) rfl trivial ?_
              refine im_bF rfl rfl ⟨(by show im_ir (v 25); rw [hE.2.1.1]; decide), trivial⟩ (show ¬ v 25 = 0 by rw [hE.2.1.1]; decide) ?_
              refine im_g 3 (y := (140, _, _, _)) rfl trivial ?_
              refine im_cM rfl rfl (e_order (v := v) (R := R) (i := i + 1 + 1) (b := b) (c := EC v R i) (k := EX R (i + 1)) (by omega) hT (by omega) (by omega) hE.2.2.2.1 hE.2.2.2.2.1 hE.2.2.2.2.2.1) rfl hT (fun v1 w1 hq => ?_)
              obtain ⟨rfl, rfl⟩ := hq
              refine ⟨(EW v (i + 1 + 1) b), R, rfl, rfl, ?_⟩
              have hir : im_ir (e_ov v R (EC v R i) (EX R (i + 1))) := by
                rw [hE.2.1.2.1 (EC v R i) (EX R (i + 1)) (by omega) (by omega) (by omega)]
                have t := hE.2.2.1 (d_wi true (EC v R i) + EX R (i + 1))
                constructor <;> omega
              refine im_g 2 (y := (157, _, _, _)) rfl ⟨(by exact hir), trivial⟩ ?_
              refine im_r rfl rfl trivial rfl ?_
              have hjj : j = i + 1 + 1 := by omega
              have hl1 : live = 1 := by omega
              have hb1 : b = 0 := hbz
              have hm : m = d_wd (d_wi true (EC v R i) + EX R (i + 1)) := by rcases hq with t | t | t; exact absurd t.1 (by omega); exact absurd t.1 (by omega); exact t.2.2.2.2
              have hv := hE.2.1.2.1 (EC v R i) (EX R (i + 1)) (by omega) (by omega) (by omega)
              refine ⟨e_ov v R (EC v R i) (EX R (i + 1)), b, rfl, by rw [hjj] <;> rfl, EG_leaf hl hb ?_ (fun t => by omega) (fun _ _ => by rw [hm, hv] <;> rfl)⟩
              rw [hv]
              exact hE.2.2.1 _
            · have hbz : ¬ b = 0 := br10
              refine im_g 1 (y := (106, _, _, _)) rfl trivial ?_
              refine im_r rfl rfl trivial rfl ?_
              have hjj : j = i + 1 + 1 := by omega
              exact ⟨0, b, rfl, by rw [hjj] <;> rfl, EG_leaf hl hb (by decide) (fun _ => rfl) (fun _ t => absurd t br10)⟩
    · have c9 : EC v R i = 191 := by
        by_cases hh : EC v R i = 191
        · exact hh
        · rw [if_neg hh] at br1; exact absurd rfl br1
      clear br1
      rw [dn_0, if_pos c9] at hdn
      split at hdn
      · cases hdn
      rename_i ho8
      obtain ⟨j1, l1, m1, q1, q2⟩ := d_bind_r hdn
      have hci := EC_in (v := v) (R := R) (i := i) (by omega)
      have hj := dn_in (by decide) (by omega) q1
      have hcj : EC v R j1 = 193 := by
        by_cases hh : EC v R j1 = 193
        · exact hh
        · rw [if_neg hh] at q2; cases q2
      rw [if_pos hcj] at q2
      have z1 : j1 + 1 = j ∧ m1 = m := by cases q2; exact ⟨rfl, rfl⟩
      rw [if_pos c9]
      refine im_g 2 (y := (14, _, _, _)) rfl trivial ?_
      refine im_cM rfl rfl (h3 d true v R e (o + 1) (i + 1) l (live) (b) j1 l1 m1 hE (by omega) (by omega) (by omega) hl hb q1) rfl hT (fun v1 w1 hq => ?_)
      obtain ⟨y1, b1, rfl, rfl, g1⟩ := hq
      refine ⟨(EW v (j1) b1), R, rfl, rfl, ?_⟩
      refine im_g 8 (y := (29, _, _, _)) rfl trivial ?_
      refine im_r rfl rfl trivial rfl ?_
      exact ⟨y1, b1, rfl, by rw [← z1.1]; rfl, by rw [← z1.2]; exact g1⟩
set_option maxHeartbeats 8000000 in
theorem e_M6 (hT : T.length < 1000) {n : Nat} (h3 : EvM ro T n 3 175 6 EG VJ) (h9 : EvM ro T n 9 179 10 ET VI) : EvM ro T (n + 1) 6 182 7 ET VI := by
  intro d od v R e o i l live b j l' m hE ho hd hi hl hb hdn
  obtain ⟨d, rfl⟩ : ∃ e, d = e + 1 := ⟨d - 1, by omega⟩
  have h23 := hE.1
  have hcb := @EC_b od v R e hE
  refine im_ct_of (own := 9) (ret := (some .boolean)) (code := ab_k_X9_positiveOf) (nL := 7) (L0 := [some (mr 0), some (.inl live), none, none, none, none, none]) (n := 24) rfl rfl rfl rfl rfl rfl rfl rfl rfl ?_
  refine im_g 2 (y := (3, _, _, _)) rfl trivial ?_
  refine im_call [] rfl rfl (m_sign (a := 40) (by omega) hT) rfl rfl rfl (by decide) rfl (by decide) hT (fun v1 w1 hq => ?_)
  obtain ⟨rfl, rfl⟩ := hq
  refine ⟨_, _, MW (EW v i b) R, rfl, rfl, rfl, ?_⟩
  refine im_cM rfl rfl (e_passes (v := v) (R := R) (i := i) (b := b) (c := 140) (by omega) hT (by omega) (by decide) (hcb hi.1) h23) rfl hT (fun v1 w1 hq => ?_)
  obtain ⟨rfl, rfl⟩ := hq
  refine ⟨(EW v (if EC v R i = 140 then i + 1 else i) b), R, rfl, rfl, ?_⟩
  refine im_b rfl rfl ⟨(by omega), trivial⟩ (fun br1 => ?_) (fun br1 => ?_)
  · have c9 : ¬ (EC v R i = 140) := by
      intro hh
      rw [if_pos hh] at br1
      exact absurd br1 (by decide)
    clear br1
    rw [if_neg c9]
    rw [dn_6, if_neg c9] at hdn
    obtain ⟨j1, l1, m1, q1, q2⟩ := d_bind_r hdn
    have hj := dn_in (by decide) (by omega) q1
    have hcj : EC v R j1 = 160 ∨ EC v R j1 = 162 ∨ EC v R j1 = 161 := by
      by_cases hh : EC v R j1 = 160 ∨ EC v R j1 = 162 ∨ EC v R j1 = 161
      · exact hh
      · rw [if_neg hh] at q2; cases q2
    rw [if_pos hcj] at q2
    have hci := EC_in (v := v) (R := R) (i := j1) (by omega)
    obtain ⟨j2, l2, m2, q3, q4⟩ := d_bind_r q2
    have hj2 := dn_in (by decide) (by omega) q3
    have z2 : j2 = j ∧ d_op (d_cw (EC v R j1)) m1 m2 = m := by cases q4; exact ⟨rfl, rfl⟩
    refine im_g 2 (y := (32, _, _, _)) rfl trivial ?_
    refine im_cM rfl rfl (h3 d od v R e (o) (i) l (live) (b) j1 l1 m1 hE ho (by omega) hi hl hb q1) rfl hT (fun v1 w1 hq => ?_)
    obtain ⟨y1, b1, rfl, rfl, g1⟩ := hq
    refine ⟨(EW v (j1) b1), R, rfl, rfl, ?_⟩
    have gc := g1.1
    have hkj := hcb (i := j1) (by omega)
    refine im_g 4 (y := (41, _, _, _)) rfl trivial ?_
    refine im_cM rfl rfl (e_codeAt (v := v) (R := R) (i := j1) (b := b1) (k := j1) (by omega) hT (by omega) (by omega) h23) rfl hT (fun v1 w1 hq => ?_)
    obtain ⟨rfl, rfl⟩ := hq
    refine ⟨(EW v (j1) b1), R, rfl, rfl, ?_⟩
    refine im_g 9 (y := (58, _, _, _)) rfl trivial ?_
    refine im_cM rfl rfl (h3 d od v R e (o) (j1 + 1) l1 (live) (b1) j2 l2 m2 hE ho (by omega) (by omega) hl (by omega) q3) rfl hT (fun v1 w1 hq => ?_)
    obtain ⟨y2, b2, rfl, rfl, g2⟩ := hq
    refine ⟨(EW v (j2) b2), R, rfl, rfl, ?_⟩
    have gd := g2.1
    have ga := g1.2.2.1
    have gb := g2.2.2.1
    refine im_g 2 (y := (64, _, _, _)) rfl trivial ?_
    refine im_b rfl rfl ⟨(by omega), trivial⟩ (fun br2 => ?_) (fun br2 => ?_)
    · refine im_g 1 (y := (126, _, _, _)) rfl trivial ?_
      refine im_r rfl rfl ⟨(by first | decide | (have t := g1.2.2.1; omega)), trivial⟩ rfl ?_
      exact ⟨0, b2, rfl, by rw [← z2.1], by rw [← z2.2]; exact ET_cmp hl g1 g2 (by decide) (fun t _ => absurd (t.symm.trans (show live = 0 from br2)) (by decide))⟩
    · refine im_g 2 (y := (71, _, _, _)) rfl trivial ?_
      refine im_b rfl rfl ⟨(by show im_ir b2; omega), trivial⟩ (fun br3 => ?_) (fun br3 => ?_)
      · refine im_g 1 (y := (126, _, _, _)) rfl trivial ?_
        refine im_r rfl rfl ⟨(by first | decide | (have t := g1.2.2.1; omega)), trivial⟩ rfl ?_
        exact ⟨0, b2, rfl, by rw [← z2.1], by rw [← z2.2]; exact ET_cmp hl g1 g2 (by decide) (fun _ t => absurd t (show ¬ b2 = 0 from br3))⟩
      · refine im_g 2 (y := (78, _, _, _)) rfl trivial ?_
        refine im_call [] rfl rfl (m_sign (a := 60) (by omega) hT) rfl rfl rfl (by decide) rfl (by decide) hT (fun v1 w1 hq => ?_)
        obtain ⟨rfl, rfl⟩ := hq
        refine ⟨_, _, MW (EW v j2 b2) R, rfl, rfl, rfl, ?_⟩
        refine im_b rfl rfl ⟨(by omega), (by omega), trivial⟩ (fun br4 => ?_) (fun br4 => ?_)
        · refine im_g 2 (y := (98, _, _, _)) rfl trivial ?_
          refine im_call [] rfl rfl (m_sign (a := 62) (by omega) hT) rfl rfl rfl (by decide) rfl (by decide) hT (fun v1 w1 hq => ?_)
          obtain ⟨rfl, rfl⟩ := hq
          refine ⟨_, _, MW (EW v j2 b2) R, rfl, rfl, rfl, ?_⟩
          refine im_b rfl rfl ⟨(by omega), (by omega), trivial⟩ (fun br5 => ?_) (fun br5 => ?_)
          · refine im_g 3 (y := (118, _, _, _)) rfl ⟨(by constructor <;> omega), (by constructor <;> omega), trivial⟩ ?_
            refine im_b rfl rfl ⟨(by exact im_cmp_ir _ _), trivial⟩ (fun br6 => ?_) (fun br6 => ?_)
            · rw [im_cmp_0] at br6
              refine im_g 1 (y := (126, _, _, _)) rfl trivial ?_
              refine im_r rfl rfl ⟨(by first | decide | (have t := g1.2.2.1; omega)), trivial⟩ rfl ?_
              exact ⟨0, b2, rfl, by rw [← z2.1], by rw [← z2.2]; exact ET_cmp hl g1 g2 (by decide) (fun _ _ => by rw [show d_cw (EC v R j1) = 10 by unfold d_cw; rw [if_neg (by omega), if_neg (by omega)], mc_cb_e, if_neg (by omega)])⟩
            · rw [im_cmp_0] at br6
              refine im_g 2 (y := (126, _, _, _)) rfl trivial ?_
              refine im_r rfl rfl ⟨(by first | decide | (have t := g1.2.2.1; omega)), trivial⟩ rfl ?_
              exact ⟨1, b2, rfl, by rw [← z2.1], by rw [← z2.2]; exact ET_cmp hl g1 g2 (by decide) (fun _ _ => by rw [show d_cw (EC v R j1) = 10 by unfold d_cw; rw [if_neg (by omega), if_neg (by omega)], mc_cb_e, if_pos (by omega)])⟩
          · refine im_g 3 (y := (108, _, _, _)) rfl ⟨(by constructor <;> omega), (by constructor <;> omega), trivial⟩ ?_
            refine im_b rfl rfl ⟨(by exact im_cmp_ir _ _), trivial⟩ (fun br7 => ?_) (fun br7 => ?_)
            · rw [im_cmp_np] at br7
              refine im_g 1 (y := (126, _, _, _)) rfl trivial ?_
              refine im_r rfl rfl ⟨(by first | decide | (have t := g1.2.2.1; omega)), trivial⟩ rfl ?_
              exact ⟨0, b2, rfl, by rw [← z2.1], by rw [← z2.2]; exact ET_cmp hl g1 g2 (by decide) (fun _ _ => by rw [show d_cw (EC v R j1) = 9 by unfold d_cw; rw [if_neg (by omega), if_pos (by omega)], mc_cb_g, if_neg (by omega)])⟩
            · rw [im_cmp_np] at br7
              refine im_g 3 (y := (126, _, _, _)) rfl trivial ?_
              refine im_r rfl rfl ⟨(by first | decide | (have t := g1.2.2.1; omega)), trivial⟩ rfl ?_
              exact ⟨1, b2, rfl, by rw [← z2.1], by rw [← z2.2]; exact ET_cmp hl g1 g2 (by decide) (fun _ _ => by rw [show d_cw (EC v R j1) = 9 by unfold d_cw; rw [if_neg (by omega), if_pos (by omega)], mc_cb_g, if_pos (by omega)])⟩
        · refine im_g 3 (y := (88, _, _, _)) rfl ⟨(by constructor <;> omega), (by constructor <;> omega), trivial⟩ ?_
          refine im_b rfl rfl ⟨(by exact im_cmp_ir _ _), trivial⟩ (fun br8 => ?_) (fun br8 => ?_)
          · rw [im_cmp_nn] at br8
            refine im_g 1 (y := (126, _, _, _)) rfl trivial ?_
            refine im_r rfl rfl ⟨(by first | decide | (have t := g1.2.2.1; omega)), trivial⟩ rfl ?_
            exact ⟨0, b2, rfl, by rw [← z2.1], by rw [← z2.2]; exact ET_cmp hl g1 g2 (by decide) (fun _ _ => by rw [show d_cw (EC v R j1) = 8 by unfold d_cw; rw [if_pos (by omega)], mc_cb_l, if_neg (by omega)])⟩
          · rw [im_cmp_nn] at br8
            refine im_g 3 (y := (126, _, _, _)) rfl trivial ?_
            refine im_r rfl rfl ⟨(by first | decide | (have t := g1.2.2.1; omega)), trivial⟩ rfl ?_
            exact ⟨1, b2, rfl, by rw [← z2.1], by rw [← z2.2]; exact ET_cmp hl g1 g2 (by decide) (fun _ _ => by rw [show d_cw (EC v R j1) = 8 by unfold d_cw; rw [if_pos (by omega)], mc_cb_l, if_pos (by omega)])⟩
  · have c9 : EC v R i = 140 := by
      by_cases hh : EC v R i = 140
      · exact hh
      · rw [if_neg hh] at br1; exact absurd rfl br1
    clear br1
    rw [dn_6, if_pos c9] at hdn
    split at hdn
    · cases hdn
    rename_i ho8
    obtain ⟨j1, l1, m1, q1, q2⟩ := d_bind_r hdn
    have hci := EC_in (v := v) (R := R) (i := i) (by omega)
    have hj := dn_in (by decide) (by omega) q1
    have hcj : EC v R j1 = 141 := by
      by_cases hh : EC v R j1 = 141
      · exact hh
      · rw [if_neg hh] at q2; cases q2
    rw [if_pos hcj] at q2
    have z1 : j1 + 1 = j ∧ m1 = m := by cases q2; exact ⟨rfl, rfl⟩
    rw [if_pos c9]
    refine im_g 2 (y := (14, _, _, _)) rfl trivial ?_
    refine im_cM rfl rfl (h9 d od v R e (o + 1) (i + 1) l (live) (b) j1 l1 m1 hE (by omega) (by omega) (by omega) hl hb q1) rfl hT (fun v1 w1 hq => ?_)
    obtain ⟨y1, b1, rfl, rfl, g1⟩ := hq
    refine ⟨(EW v (j1) b1), R, rfl, rfl, ?_⟩
    refine im_g 8 (y := (29, _, _, _)) rfl trivial ?_
    refine im_r rfl rfl ⟨(by first | decide | (have t := g1.2.2.1; omega)), trivial⟩ rfl ?_
    exact ⟨y1, b1, rfl, by rw [← z1.1]; rfl, by rw [← z1.2]; exact g1⟩
set_option maxHeartbeats 8000000 in
theorem e_M5 (hT : T.length < 1000) {n : Nat} (h6 : EvM ro T n 6 182 7 ET VI) : EvM ro T (n + 1) 5 181 8 ET VI := by
  intro d od v R e o i l live b j l' m hE ho hd hi hl hb hdn
  obtain ⟨d, rfl⟩ : ∃ e, d = e + 1 := ⟨d - 1, by omega⟩
  have h23 := hE.1
  have hcb := @EC_b od v R e hE
  rw [dn_5] at hdn
  obtain ⟨j1, l1, m1, q1, q2⟩ := d_bind_r hdn
  generalize hns : d_nots (EC v R) 401 i false = ns at q1 q2
  obtain ⟨i1, nb⟩ := ns
  dsimp only at q1 q2
  have h8 := dn_6_not q1
  have hi1 : i ≤ i1 ∧ i1 ≤ v 23 := by
    have t1 := d_nots_ge (EC v R) 401 i false
    have t2 := d_nots_le (c := EC v R) (N := v 23) EC_0 401 i false hi.2
    rw [hns] at t1 t2
    exact ⟨t1, t2⟩
  have z1 : j1 = j ∧ d_nt nb m1 = m := by cases q2; exact ⟨rfl, rfl⟩
  have key : ∀ (k : Nat) (i2 : Int) (nb2 : Bool), i ≤ i2 ∧ i2 ≤ v 23 → d_nots (EC v R) k i2 nb2 = (i1, nb) → im_wp ro (ab_Ev ro ab_codes d) 9 (some .boolean) ab_k_X9_plainOf 24 T (fun r w => ∃ y b', r = some (VI y) ∧ w = MW (EW v j b') R ∧ ET live b b' y m e) (2, [some (mr 0), some (.inl live), some (.inl (e_bi nb2))], [], MW (EW v i2 b) R) := by
    intro k
    induction k with
    | zero =>
      intro i2 nb2 hi2 hk
      refine im_g 2 (y := (5, _, _, _)) rfl trivial ?_
      refine im_cM rfl rfl (e_passes (v := v) (R := R) (i := i2) (b := b) (c := 8) (by omega) hT (by omega) (by decide) (hcb (by omega)) h23) rfl hT (fun v1 w1 hq => ?_)
      obtain ⟨rfl, rfl⟩ := hq
      refine ⟨(EW v (if EC v R i2 = 8 then i2 + 1 else i2) b), R, rfl, rfl, ?_⟩
      refine im_b rfl rfl ⟨(by omega), trivial⟩ (fun br1 => ?_) (fun br1 => ?_)
      · have c8 : ¬ (EC v R i2 = 8) := by
          intro hh
          rw [if_pos hh] at br1
          exact absurd br1 (by decide)
        clear br1
        rw [if_neg c8]
        obtain ⟨ei, eb⟩ : i2 = i1 ∧ nb2 = nb := by
          rcases d_nots_8 h8 _ _ _ hk with ⟨t, -⟩ | t
          · exact absurd t c8
          · exact t
        rw [ei, eb]
        refine im_g 2 (y := (26, _, _, _)) rfl trivial ?_
        refine im_cM rfl rfl (h6 d od v R e (o) (i1) l (live) (b) j1 l1 m1 hE ho (by omega) (by omega) hl hb q1) rfl hT (fun v1 w1 hq => ?_)
        obtain ⟨y1, b1, rfl, rfl, g1⟩ := hq
        refine ⟨(EW v (j1) b1), R, rfl, rfl, ?_⟩
        have gz := g1.2.2.1
        refine im_g 1 (y := (30, _, _, _)) rfl trivial ?_
        refine im_b rfl rfl ⟨(by first | (constructor <;> omega) | (cases nb2 <;> decide) | (cases nb <;> decide)), (by first | (constructor <;> omega) | (cases nb2 <;> decide) | (cases nb <;> decide)), trivial⟩ (fun br2 => ?_) (fun br2 => ?_)
        · refine im_g 1 (y := (38, _, _, _)) rfl trivial ?_
          refine im_r rfl rfl ⟨(by decide), trivial⟩ rfl ?_
          have gz := g1.2.2.1
          refine ⟨0, b1, rfl, by rw [← z1.1], ?_⟩
          rw [← z1.2]
          cases nb with
          | true =>
            have t0 : y1 = 1 := by have t : e_bi true = 1 := rfl; omega
            rw [t0] at g1
            exact ET_not g1
          | false =>
            have t0 : y1 = 0 := by have t : e_bi false = 0 := rfl; omega
            rw [t0] at g1
            exact g1
        · refine im_g 2 (y := (38, _, _, _)) rfl trivial ?_
          refine im_r rfl rfl ⟨(by decide), trivial⟩ rfl ?_
          have gz := g1.2.2.1
          refine ⟨1, b1, rfl, by rw [← z1.1], ?_⟩
          rw [← z1.2]
          cases nb with
          | true =>
            have t0 : y1 = 0 := by have t : e_bi true = 1 := rfl; omega
            rw [t0] at g1
            exact ET_not g1
          | false =>
            have t0 : y1 = 1 := by have t : e_bi false = 0 := rfl; omega
            rw [t0] at g1
            exact g1
      · have c8 : EC v R i2 = 8 := by
          by_cases hh : EC v R i2 = 8
          · exact hh
          · rw [if_neg hh] at br1; exact absurd rfl br1
        clear br1
        rw [if_pos c8]
        refine im_g 1 (y := (12, _, _, _)) rfl trivial ?_
        refine im_b rfl rfl ⟨(by cases nb2 <;> decide), trivial⟩ (fun br3 => ?_) (fun br3 => ?_)
        · refine im_g 3 (y := (2, _, _, _)) rfl trivial ?_
          rcases d_nots_8 h8 _ _ _ hk with ⟨-, k2, hk2, hk3⟩ | ⟨t, -⟩
          · exact absurd hk2 (by omega)
          · exact absurd (t ▸ c8) h8
        · refine im_g 4 (y := (2, _, _, _)) rfl trivial ?_
          rcases d_nots_8 h8 _ _ _ hk with ⟨-, k2, hk2, hk3⟩ | ⟨t, -⟩
          · exact absurd hk2 (by omega)
          · exact absurd (t ▸ c8) h8
    | succ k ih =>
      intro i2 nb2 hi2 hk
      refine im_g 2 (y := (5, _, _, _)) rfl trivial ?_
      refine im_cM rfl rfl (e_passes (v := v) (R := R) (i := i2) (b := b) (c := 8) (by omega) hT (by omega) (by decide) (hcb (by omega)) h23) rfl hT (fun v1 w1 hq => ?_)
      obtain ⟨rfl, rfl⟩ := hq
      refine ⟨(EW v (if EC v R i2 = 8 then i2 + 1 else i2) b), R, rfl, rfl, ?_⟩
      refine im_b rfl rfl ⟨(by omega), trivial⟩ (fun br1 => ?_) (fun br1 => ?_)
      · have c8 : ¬ (EC v R i2 = 8) := by
          intro hh
          rw [if_pos hh] at br1
          exact absurd br1 (by decide)
        clear br1
        rw [if_neg c8]
        obtain ⟨ei, eb⟩ : i2 = i1 ∧ nb2 = nb := by
          rcases d_nots_8 h8 _ _ _ hk with ⟨t, -⟩ | t
          · exact absurd t c8
          · exact t
        rw [ei, eb]
        refine im_g 2 (y := (26, _, _, _)) rfl trivial ?_
        refine im_cM rfl rfl (h6 d od v R e (o) (i1) l (live) (b) j1 l1 m1 hE ho (by omega) (by omega) hl hb q1) rfl hT (fun v1 w1 hq => ?_)
        obtain ⟨y1, b1, rfl, rfl, g1⟩ := hq
        refine ⟨(EW v (j1) b1), R, rfl, rfl, ?_⟩
        have gz := g1.2.2.1
        refine im_g 1 (y := (30, _, _, _)) rfl trivial ?_
        refine im_b rfl rfl ⟨(by first | (constructor <;> omega) | (cases nb2 <;> decide) | (cases nb <;> decide)), (by first | (constructor <;> omega) | (cases nb2 <;> decide) | (cases nb <;> decide)), trivial⟩ (fun br2 => ?_) (fun br2 => ?_)
        · refine im_g 1 (y := (38, _, _, _)) rfl trivial ?_
          refine im_r rfl rfl ⟨(by decide), trivial⟩ rfl ?_
          have gz := g1.2.2.1
          refine ⟨0, b1, rfl, by rw [← z1.1], ?_⟩
          rw [← z1.2]
          cases nb with
          | true =>
            have t0 : y1 = 1 := by have t : e_bi true = 1 := rfl; omega
            rw [t0] at g1
            exact ET_not g1
          | false =>
            have t0 : y1 = 0 := by have t : e_bi false = 0 := rfl; omega
            rw [t0] at g1
            exact g1
        · refine im_g 2 (y := (38, _, _, _)) rfl trivial ?_
          refine im_r rfl rfl ⟨(by decide), trivial⟩ rfl ?_
          have gz := g1.2.2.1
          refine ⟨1, b1, rfl, by rw [← z1.1], ?_⟩
          rw [← z1.2]
          cases nb with
          | true =>
            have t0 : y1 = 0 := by have t : e_bi true = 1 := rfl; omega
            rw [t0] at g1
            exact ET_not g1
          | false =>
            have t0 : y1 = 1 := by have t : e_bi false = 0 := rfl; omega
            rw [t0] at g1
            exact g1
      · have c8 : EC v R i2 = 8 := by
          by_cases hh : EC v R i2 = 8
          · exact hh
          · rw [if_neg hh] at br1; exact absurd rfl br1
        clear br1
        rw [if_pos c8]
        refine im_g 1 (y := (12, _, _, _)) rfl trivial ?_
        refine im_b rfl rfl ⟨(by cases nb2 <;> decide), trivial⟩ (fun br3 => ?_) (fun br3 => ?_)
        · refine im_g 3 (y := (2, _, _, _)) rfl trivial ?_
          rcases d_nots_8 h8 _ _ _ hk with ⟨-, k2, hk2, hk3⟩ | ⟨t, -⟩
          · obtain rfl : k = k2 := by omega
            have hci := EC_in (v := v) (R := R) (i := i2) (by omega)
            have t := ih (i2 + 1) (!nb2) (by omega) hk3
            have tb : nb2 = true := by
              have tt := br3
              cases nb2
              · exact absurd rfl tt
              · rfl
            rw [tb] at t
            exact t
          · exact absurd (t ▸ c8) h8
        · refine im_g 4 (y := (2, _, _, _)) rfl trivial ?_
          rcases d_nots_8 h8 _ _ _ hk with ⟨-, k2, hk2, hk3⟩ | ⟨t, -⟩
          · obtain rfl : k = k2 := by omega
            have hci := EC_in (v := v) (R := R) (i := i2) (by omega)
            have t := ih (i2 + 1) (!nb2) (by omega) hk3
            have tb : nb2 = false := by
              have tt := br3
              cases nb2
              · rfl
              · exact absurd (show (1 : Int) = 0 from Classical.not_not.mp tt) (by decide)
            rw [tb] at t
            exact t
          · exact absurd (t ▸ c8) h8
  refine im_ct_of (own := 9) (ret := (some .boolean)) (code := ab_k_X9_plainOf) (nL := 3) (L0 := [some (mr 0), some (.inl live), none]) (n := 24) rfl rfl rfl rfl rfl rfl rfl rfl rfl ?_
  refine im_g 2 (y := (2, _, _, _)) rfl trivial ?_
  exact key 401 i false (by omega) hns
set_option maxHeartbeats 8000000 in
theorem e_M7 (hT : T.length < 1000) {n : Nat} (h1 : EvM ro T n 5 181 8 ET VI) (h2 : EvRT ro T n 8 ab_k_X9_bothOf 8) : EvM ro T (n + 1) 7 180 9 ET VI := by
  intro d od v R e o i l live b j l' m hE ho hd hi hl hb hdn
  obtain ⟨d, rfl⟩ : ∃ e, d = e + 1 := ⟨d - 1, by omega⟩
  have h23 := hE.1
  have hcb := @EC_b od v R e hE
  rw [dn_7] at hdn
  obtain ⟨j1, l1, m1, q1, q2⟩ := d_bind_r hdn
  have hj := dn_in (by decide) hi q1
  refine im_ct_of (own := 9) (ret := (some .boolean)) (code := ab_k_X9_bothOf) (nL := 4) (L0 := [some (mr 0), some (.inl live), none, none]) (n := 24) rfl rfl rfl rfl rfl rfl rfl rfl rfl ?_
  refine im_g 2 (y := (2, _, _, _)) rfl trivial ?_
  refine im_cM rfl rfl (h1 d od v R e (o) (i) l (live) (b) j1 l1 m1 hE ho (by omega) hi hl hb q1) rfl hT (fun v1 w1 hq => ?_)
  obtain ⟨y1, b1, rfl, rfl, g1⟩ := hq
  refine ⟨(EW v (j1) b1), R, rfl, rfl, ?_⟩
  refine im_g 1 (y := (6, _, _, _)) rfl trivial ?_
  exact h2 d od v R e o j1 l1 live b b1 y1 m1 j l' m _ hE ho (by omega) hj hl g1 q2
set_option maxHeartbeats 8000000 in
theorem e_R8 (hT : T.length < 1000) {n : Nat} (h1 : EvM ro T n 5 181 8 ET VI) (h2 : EvRT ro T n 8 ab_k_X9_bothOf 8) : EvRT ro T (n + 1) 8 ab_k_X9_bothOf 8 := by
  intro d od v R e o i l live b0 b y a j l' m x3 hE ho hd hi hl g hdn
  have h23 := hE.1
  have hcb := @EC_b od v R e hE
  have hb := g.1
  have gyy := g.2.2.1
  refine im_g 2 (y := (9, _, _, _)) rfl trivial ?_
  refine im_cM rfl rfl (e_passes (v := v) (R := R) (i := i) (b := b) (c := 7) (by omega) hT (by omega) (by decide) (hcb hi.1) h23) rfl hT (fun v1 w1 hq => ?_)
  obtain ⟨rfl, rfl⟩ := hq
  refine ⟨(EW v (if EC v R i = 7 then i + 1 else i) b), R, rfl, rfl, ?_⟩
  refine im_b rfl rfl ⟨(by omega), trivial⟩ (fun br1 => ?_) (fun br1 => ?_)
  · have c12 : ¬ (EC v R i = 7) := by
      intro hh
      rw [if_pos hh] at br1
      exact absurd br1 (by decide)
    clear br1
    rw [if_neg c12]
    rw [dn_8, if_neg c12] at hdn
    refine im_g 1 (y := (51, _, _, _)) rfl trivial ?_
    refine im_r rfl rfl ⟨(by omega), trivial⟩ rfl ?_
    have z1 : i = j ∧ a = m := by cases hdn; exact ⟨rfl, rfl⟩
    exact ⟨y, b, rfl, by rw [← z1.1], by rw [← z1.2]; exact g⟩
  · have c12 : EC v R i = 7 := by
      by_cases hh : EC v R i = 7
      · exact hh
      · rw [if_neg hh] at br1; exact absurd rfl br1
    clear br1
    rw [if_pos c12]
    rw [dn_8, if_pos c12] at hdn
    obtain ⟨j1, l1, m1, q1, q2⟩ := d_bind_r hdn
    have hci := EC_in (v := v) (R := R) (i := i) (by omega)
    have hj := dn_in (by decide) (by omega) q1
    refine im_g 2 (y := (17, _, _, _)) rfl trivial ?_
    refine im_b rfl rfl ⟨(by omega), trivial⟩ (fun br2 => ?_) (fun br2 => ?_)
    · refine im_g 1 (y := (29, _, _, _)) rfl trivial ?_
      refine im_cM rfl rfl (h1 d od v R e (o) (i + 1) l (0) (b) j1 l1 m1 hE ho (by omega) (by omega) (by decide) hb q1) rfl hT (fun v1 w1 hq => ?_)
      obtain ⟨y1, b1, rfl, rfl, g1⟩ := hq
      refine ⟨(EW v (j1) b1), R, rfl, rfl, ?_⟩
      have gy := g1.2.2.1
      refine im_g 2 (y := (34, _, _, _)) rfl trivial ?_
      refine im_b rfl rfl ⟨(by omega), trivial⟩ (fun br3 => ?_) (fun br3 => ?_)
      · refine im_g 3 (y := (6, _, _, _)) rfl trivial ?_
        exact h2 d od v R e o j1 l1 live b0 _ _ (d_and a m1) j l' m _ hE ho (by omega) hj hl (ET_and (b := b) (b1 := b1) (y := y) (x := y1) g (by rw [if_neg (by omega)]; exact g1) (by rw [if_neg (by omega)])) q2
      · refine im_g 1 (y := (38, _, _, _)) rfl trivial ?_
        refine im_b rfl rfl ⟨(by omega), trivial⟩ (fun br4 => ?_) (fun br4 => ?_)
        · refine im_g 3 (y := (6, _, _, _)) rfl trivial ?_
          exact h2 d od v R e o j1 l1 live b0 _ _ (d_and a m1) j l' m _ hE ho (by omega) hj hl (ET_and (b := b) (b1 := b1) (y := y) (x := y1) g (by rw [if_neg (by omega)]; exact g1) (by rw [if_neg (by omega)])) q2
        · refine im_g 4 (y := (6, _, _, _)) rfl trivial ?_
          exact h2 d od v R e o j1 l1 live b0 _ _ (d_and a m1) j l' m _ hE ho (by omega) hj hl (ET_and (b := b) (b1 := b1) (y := y) (x := y1) g (by rw [if_neg (by omega)]; exact g1) (by rw [if_pos (by omega)])) q2
    · refine im_g 1 (y := (21, _, _, _)) rfl trivial ?_
      refine im_b rfl rfl ⟨(by omega), trivial⟩ (fun br5 => ?_) (fun br5 => ?_)
      · refine im_g 1 (y := (29, _, _, _)) rfl trivial ?_
        refine im_cM rfl rfl (h1 d od v R e (o) (i + 1) l (0) (b) j1 l1 m1 hE ho (by omega) (by omega) (by decide) hb q1) rfl hT (fun v1 w1 hq => ?_)
        obtain ⟨y1, b1, rfl, rfl, g1⟩ := hq
        refine ⟨(EW v (j1) b1), R, rfl, rfl, ?_⟩
        have gy := g1.2.2.1
        refine im_g 2 (y := (34, _, _, _)) rfl trivial ?_
        refine im_b rfl rfl ⟨(by omega), trivial⟩ (fun br6 => ?_) (fun br6 => ?_)
        · refine im_g 3 (y := (6, _, _, _)) rfl trivial ?_
          exact h2 d od v R e o j1 l1 live b0 _ _ (d_and a m1) j l' m _ hE ho (by omega) hj hl (ET_and (b := b) (b1 := b1) (y := y) (x := y1) g (by rw [if_neg (by omega)]; exact g1) (by rw [if_neg (by omega)])) q2
        · refine im_g 1 (y := (38, _, _, _)) rfl trivial ?_
          refine im_b rfl rfl ⟨(by omega), trivial⟩ (fun br7 => ?_) (fun br7 => ?_)
          · refine im_g 3 (y := (6, _, _, _)) rfl trivial ?_
            exact h2 d od v R e o j1 l1 live b0 _ _ (d_and a m1) j l' m _ hE ho (by omega) hj hl (ET_and (b := b) (b1 := b1) (y := y) (x := y1) g (by rw [if_neg (by omega)]; exact g1) (by rw [if_neg (by omega)])) q2
          · refine im_g 4 (y := (6, _, _, _)) rfl trivial ?_
            exact h2 d od v R e o j1 l1 live b0 _ _ (d_and a m1) j l' m _ hE ho (by omega) hj hl (ET_and (b := b) (b1 := b1) (y := y) (x := y1) g (by rw [if_neg (by omega)]; exact g1) (by rw [if_pos (by omega)])) q2
      · refine im_g 2 (y := (29, _, _, _)) rfl trivial ?_
        refine im_cM rfl rfl (h1 d od v R e (o) (i + 1) l (1) (b) j1 l1 m1 hE ho (by omega) (by omega) (by decide) hb q1) rfl hT (fun v1 w1 hq => ?_)
        obtain ⟨y1, b1, rfl, rfl, g1⟩ := hq
        refine ⟨(EW v (j1) b1), R, rfl, rfl, ?_⟩
        have gy := g1.2.2.1
        refine im_g 2 (y := (34, _, _, _)) rfl trivial ?_
        refine im_b rfl rfl ⟨(by omega), trivial⟩ (fun br8 => ?_) (fun br8 => ?_)
        · refine im_g 3 (y := (6, _, _, _)) rfl trivial ?_
          exact h2 d od v R e o j1 l1 live b0 _ _ (d_and a m1) j l' m _ hE ho (by omega) hj hl (ET_and (b := b) (b1 := b1) (y := y) (x := y1) g (by rw [if_pos (by omega)]; exact g1) (by rw [if_neg (by omega)])) q2
        · refine im_g 1 (y := (38, _, _, _)) rfl trivial ?_
          refine im_b rfl rfl ⟨(by omega), trivial⟩ (fun br9 => ?_) (fun br9 => ?_)
          · refine im_g 3 (y := (6, _, _, _)) rfl trivial ?_
            exact h2 d od v R e o j1 l1 live b0 _ _ (d_and a m1) j l' m _ hE ho (by omega) hj hl (ET_and (b := b) (b1 := b1) (y := y) (x := y1) g (by rw [if_pos (by omega)]; exact g1) (by rw [if_neg (by omega)])) q2
          · refine im_g 4 (y := (6, _, _, _)) rfl trivial ?_
            exact h2 d od v R e o j1 l1 live b0 _ _ (d_and a m1) j l' m _ hE ho (by omega) hj hl (ET_and (b := b) (b1 := b1) (y := y) (x := y1) g (by rw [if_pos (by omega)]; exact g1) (by rw [if_pos (by omega)])) q2
set_option maxHeartbeats 8000000 in
theorem e_M9 (hT : T.length < 1000) {n : Nat} (h1 : EvM ro T n 7 180 9 ET VI) (h2 : EvRT ro T n 10 ab_k_X9_testOf 9) : EvM ro T (n + 1) 9 179 10 ET VI := by
  intro d od v R e o i l live b j l' m hE ho hd hi hl hb hdn
  obtain ⟨d, rfl⟩ : ∃ e, d = e + 1 := ⟨d - 1, by omega⟩
  have h23 := hE.1
  have hcb := @EC_b od v R e hE
  rw [dn_9] at hdn
  obtain ⟨j1, l1, m1, q1, q2⟩ := d_bind_r hdn
  have hj := dn_in (by decide) hi q1
  refine im_ct_of (own := 9) (ret := (some .boolean)) (code := ab_k_X9_testOf) (nL := 4) (L0 := [some (mr 0), some (.inl live), none, none]) (n := 24) rfl rfl rfl rfl rfl rfl rfl rfl rfl ?_
  refine im_g 2 (y := (2, _, _, _)) rfl trivial ?_
  refine im_cM rfl rfl (h1 d od v R e (o) (i) l (live) (b) j1 l1 m1 hE ho (by omega) hi hl hb q1) rfl hT (fun v1 w1 hq => ?_)
  obtain ⟨y1, b1, rfl, rfl, g1⟩ := hq
  refine ⟨(EW v (j1) b1), R, rfl, rfl, ?_⟩
  refine im_g 1 (y := (6, _, _, _)) rfl trivial ?_
  exact h2 d od v R e o j1 l1 live b b1 y1 m1 j l' m _ hE ho (by omega) hj hl g1 q2
set_option maxHeartbeats 8000000 in
theorem e_R10 (hT : T.length < 1000) {n : Nat} (h1 : EvM ro T n 7 180 9 ET VI) (h2 : EvRT ro T n 10 ab_k_X9_testOf 9) : EvRT ro T (n + 1) 10 ab_k_X9_testOf 9 := by
  intro d od v R e o i l live b0 b y a j l' m x3 hE ho hd hi hl g hdn
  have h23 := hE.1
  have hcb := @EC_b od v R e hE
  have hb := g.1
  have gyy := g.2.2.1
  refine im_g 2 (y := (9, _, _, _)) rfl trivial ?_
  refine im_cM rfl rfl (e_passes (v := v) (R := R) (i := i) (b := b) (c := 6) (by omega) hT (by omega) (by decide) (hcb hi.1) h23) rfl hT (fun v1 w1 hq => ?_)
  obtain ⟨rfl, rfl⟩ := hq
  refine ⟨(EW v (if EC v R i = 6 then i + 1 else i) b), R, rfl, rfl, ?_⟩
  refine im_b rfl rfl ⟨(by omega), trivial⟩ (fun br1 => ?_) (fun br1 => ?_)
  · have c12 : ¬ (EC v R i = 6) := by
      intro hh
      rw [if_pos hh] at br1
      exact absurd br1 (by decide)
    clear br1
    rw [if_neg c12]
    rw [dn_10, if_neg c12] at hdn
    refine im_g 1 (y := (51, _, _, _)) rfl trivial ?_
    refine im_r rfl rfl ⟨(by omega), trivial⟩ rfl ?_
    have z1 : i = j ∧ a = m := by cases hdn; exact ⟨rfl, rfl⟩
    exact ⟨y, b, rfl, by rw [← z1.1], by rw [← z1.2]; exact g⟩
  · have c12 : EC v R i = 6 := by
      by_cases hh : EC v R i = 6
      · exact hh
      · rw [if_neg hh] at br1; exact absurd rfl br1
    clear br1
    rw [if_pos c12]
    rw [dn_10, if_pos c12] at hdn
    obtain ⟨j1, l1, m1, q1, q2⟩ := d_bind_r hdn
    have hci := EC_in (v := v) (R := R) (i := i) (by omega)
    have hj := dn_in (by decide) (by omega) q1
    refine im_g 2 (y := (17, _, _, _)) rfl trivial ?_
    refine im_b rfl rfl ⟨(by omega), trivial⟩ (fun br2 => ?_) (fun br2 => ?_)
    · refine im_g 1 (y := (29, _, _, _)) rfl trivial ?_
      refine im_cM rfl rfl (h1 d od v R e (o) (i + 1) l (0) (b) j1 l1 m1 hE ho (by omega) (by omega) (by decide) hb q1) rfl hT (fun v1 w1 hq => ?_)
      obtain ⟨y1, b1, rfl, rfl, g1⟩ := hq
      refine ⟨(EW v (j1) b1), R, rfl, rfl, ?_⟩
      have gy := g1.2.2.1
      refine im_g 2 (y := (34, _, _, _)) rfl trivial ?_
      refine im_b rfl rfl ⟨(by omega), trivial⟩ (fun br3 => ?_) (fun br3 => ?_)
      · refine im_g 4 (y := (6, _, _, _)) rfl trivial ?_
        exact h2 d od v R e o j1 l1 live b0 _ _ (d_or a m1) j l' m _ hE ho (by omega) hj hl (ET_or (b := b) (b1 := b1) (y := y) (x := y1) g (by rw [if_neg (by omega)]; exact g1) (by rw [if_pos (by omega)])) q2
      · refine im_g 1 (y := (38, _, _, _)) rfl trivial ?_
        refine im_b rfl rfl ⟨(by omega), trivial⟩ (fun br4 => ?_) (fun br4 => ?_)
        · refine im_g 3 (y := (6, _, _, _)) rfl trivial ?_
          exact h2 d od v R e o j1 l1 live b0 _ _ (d_or a m1) j l' m _ hE ho (by omega) hj hl (ET_or (b := b) (b1 := b1) (y := y) (x := y1) g (by rw [if_neg (by omega)]; exact g1) (by rw [if_neg (by omega)])) q2
        · refine im_g 4 (y := (6, _, _, _)) rfl trivial ?_
          exact h2 d od v R e o j1 l1 live b0 _ _ (d_or a m1) j l' m _ hE ho (by omega) hj hl (ET_or (b := b) (b1 := b1) (y := y) (x := y1) g (by rw [if_neg (by omega)]; exact g1) (by rw [if_pos (by omega)])) q2
    · refine im_g 1 (y := (21, _, _, _)) rfl trivial ?_
      refine im_b rfl rfl ⟨(by omega), trivial⟩ (fun br5 => ?_) (fun br5 => ?_)
      · refine im_g 1 (y := (29, _, _, _)) rfl trivial ?_
        refine im_cM rfl rfl (h1 d od v R e (o) (i + 1) l (0) (b) j1 l1 m1 hE ho (by omega) (by omega) (by decide) hb q1) rfl hT (fun v1 w1 hq => ?_)
        obtain ⟨y1, b1, rfl, rfl, g1⟩ := hq
        refine ⟨(EW v (j1) b1), R, rfl, rfl, ?_⟩
        have gy := g1.2.2.1
        refine im_g 2 (y := (34, _, _, _)) rfl trivial ?_
        refine im_b rfl rfl ⟨(by omega), trivial⟩ (fun br6 => ?_) (fun br6 => ?_)
        · refine im_g 4 (y := (6, _, _, _)) rfl trivial ?_
          exact h2 d od v R e o j1 l1 live b0 _ _ (d_or a m1) j l' m _ hE ho (by omega) hj hl (ET_or (b := b) (b1 := b1) (y := y) (x := y1) g (by rw [if_neg (by omega)]; exact g1) (by rw [if_pos (by omega)])) q2
        · refine im_g 1 (y := (38, _, _, _)) rfl trivial ?_
          refine im_b rfl rfl ⟨(by omega), trivial⟩ (fun br7 => ?_) (fun br7 => ?_)
          · refine im_g 3 (y := (6, _, _, _)) rfl trivial ?_
            exact h2 d od v R e o j1 l1 live b0 _ _ (d_or a m1) j l' m _ hE ho (by omega) hj hl (ET_or (b := b) (b1 := b1) (y := y) (x := y1) g (by rw [if_neg (by omega)]; exact g1) (by rw [if_neg (by omega)])) q2
          · refine im_g 4 (y := (6, _, _, _)) rfl trivial ?_
            exact h2 d od v R e o j1 l1 live b0 _ _ (d_or a m1) j l' m _ hE ho (by omega) hj hl (ET_or (b := b) (b1 := b1) (y := y) (x := y1) g (by rw [if_neg (by omega)]; exact g1) (by rw [if_pos (by omega)])) q2
      · refine im_g 2 (y := (29, _, _, _)) rfl trivial ?_
        refine im_cM rfl rfl (h1 d od v R e (o) (i + 1) l (1) (b) j1 l1 m1 hE ho (by omega) (by omega) (by decide) hb q1) rfl hT (fun v1 w1 hq => ?_)
        obtain ⟨y1, b1, rfl, rfl, g1⟩ := hq
        refine ⟨(EW v (j1) b1), R, rfl, rfl, ?_⟩
        have gy := g1.2.2.1
        refine im_g 2 (y := (34, _, _, _)) rfl trivial ?_
        refine im_b rfl rfl ⟨(by omega), trivial⟩ (fun br8 => ?_) (fun br8 => ?_)
        · refine im_g 4 (y := (6, _, _, _)) rfl trivial ?_
          exact h2 d od v R e o j1 l1 live b0 _ _ (d_or a m1) j l' m _ hE ho (by omega) hj hl (ET_or (b := b) (b1 := b1) (y := y) (x := y1) g (by rw [if_pos (by omega)]; exact g1) (by rw [if_pos (by omega)])) q2
        · refine im_g 1 (y := (38, _, _, _)) rfl trivial ?_
          refine im_b rfl rfl ⟨(by omega), trivial⟩ (fun br9 => ?_) (fun br9 => ?_)
          · refine im_g 3 (y := (6, _, _, _)) rfl trivial ?_
            exact h2 d od v R e o j1 l1 live b0 _ _ (d_or a m1) j l' m _ hE ho (by omega) hj hl (ET_or (b := b) (b1 := b1) (y := y) (x := y1) g (by rw [if_pos (by omega)]; exact g1) (by rw [if_neg (by omega)])) q2
          · refine im_g 4 (y := (6, _, _, _)) rfl trivial ?_
            exact h2 d od v R e o j1 l1 live b0 _ _ (d_or a m1) j l' m _ hE ho (by omega) hj hl (ET_or (b := b) (b1 := b1) (y := y) (x := y1) g (by rw [if_pos (by omega)]; exact g1) (by rw [if_pos (by omega)])) q2
theorem e_all (hT : T.length < 1000) : ∀ n : Nat, (EvM ro T n 0 177 4 EG VJ) ∧ (EvM ro T n 1 176 5 EG VJ) ∧ (EvM ro T n 3 175 6 EG VJ) ∧ (EvM ro T n 5 181 8 ET VI) ∧ (EvM ro T n 6 182 7 ET VI) ∧ (EvM ro T n 7 180 9 ET VI) ∧ (EvM ro T n 9 179 10 ET VI) ∧ (EvRS ro T n 2 ab_k_X9_termOf 4) ∧ (EvRS ro T n 4 ab_k_X9_sumOf 5) ∧ (EvRT ro T n 8 ab_k_X9_bothOf 8) ∧ (EvRT ro T n 10 ab_k_X9_testOf 9)
  | 0 => ⟨(fun _ _ _ _ _ _ _ _ _ _ _ _ _ _ _ _ _ _ _ h => nomatch h), (fun _ _ _ _ _ _ _ _ _ _ _ _ _ _ _ _ _ _ _ h => nomatch h), (fun _ _ _ _ _ _ _ _ _ _ _ _ _ _ _ _ _ _ _ h => nomatch h), (fun _ _ _ _ _ _ _ _ _ _ _ _ _ _ _ _ _ _ _ h => nomatch h), (fun _ _ _ _ _ _ _ _ _ _ _ _ _ _ _ _ _ _ _ h => nomatch h), (fun _ _ _ _ _ _ _ _ _ _ _ _ _ _ _ _ _ _ _ h => nomatch h), (fun _ _ _ _ _ _ _ _ _ _ _ _ _ _ _ _ _ _ _ h => nomatch h), (fun _ _ _ _ _ _ _ _ _ _ _ _ _ _ _ _ _ _ _ _ _ _ _ _ _ h => nomatch h), (fun _ _ _ _ _ _ _ _ _ _ _ _ _ _ _ _ _ _ _ _ _ _ _ _ _ h => nomatch h), (fun _ _ _ _ _ _ _ _ _ _ _ _ _ _ _ _ _ _ _ _ _ _ _ h => nomatch h), (fun _ _ _ _ _ _ _ _ _ _ _ _ _ _ _ _ _ _ _ _ _ _ _ h => nomatch h)⟩
  | n + 1 => by
    obtain ⟨h0, h1, h3, h5, h6, h7, h9, r2, r4, r8, r10⟩ := e_all hT n
    exact ⟨e_M0 hT h3, e_M1 hT h0 r2, e_M3 hT h1 r4, e_M5 hT h6, e_M6 hT h3 h9, e_M7 hT h5 r8, e_M9 hT h7 r10, e_R2 hT h0 r2, e_R4 hT h1 r4, e_R8 hT h5 r8, e_R10 hT h7 r10⟩
end Ex
