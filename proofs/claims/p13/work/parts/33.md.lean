/-! the reference: what is kept, lent, grown; walking, arriving; the tape -/
/-- an act is kept to be undone -/
def kp_sh (v : Nat → Int) (R : Nat → Int → Int) : Int → Int := if v 34 = 16 then im_cpy (R 14) (R 14) 72 0 1080 else R 14
def kp_un (v : Nat → Int) : Int := if v 34 = 16 then 15 else v 34
def kp_keep (what : Int) (v : Nat → Int) (R : Nat → Int → Int) : Int → Int := im_up (im_cpy (R 2) (kp_sh v R) 0 (72 * kp_un v) 71) (72 * kp_un v + 71) what
def km_keeps (what : Int) (v : Nat → Int) (R : Nat → Int → Int) : (Nat → Int) × (Nat → Int → Int) := (pl_U v 34 (kp_un v + 1), pl_U R 14 (kp_keep what v R))
def kp_bes (a b : Int) (K : Int → Int) : Prop := K (71 + a) = b ∨ K (71 + b) = a
def km_lend (a b n : Int) (v : Nat → Int) (R : Nat → Int → Int) : km_Q := if 1 ≤ n ∧ n ≤ 99 then (if (0 ≤ a ∧ a ≤ R 2 110 - 1) ∧ (0 ≤ b ∧ b ≤ R 2 110 - 1) then (if (R 2 (71 + a) = b ∨ R 2 (71 + b) = a) ∧ n ≤ R 2 (0 + a) ∧ R 2 (0 + b) + n ≤ 999 then (im_up (im_up (R 2) (0 + a) (R 2 (0 + a) - n)) (0 + b) (im_up (R 2) (0 + a) (R 2 (0 + a) - n) (0 + b) + n) (0 + a), pl_U v 34 (kp_un v + 1), pl_U (pl_U R 14 (kp_keep 2 v R)) 2 (im_up (im_up (R 2) (0 + a) (R 2 (0 + a) - n)) (0 + b) (im_up (R 2) (0 + a) (R 2 (0 + a) - n) (0 + b) + n))) else (-3, v, R)) else (-2, v, R)) else (-1, v, R)
def km_grow (p b : Int) (v : Nat → Int) (R : Nat → Int → Int) : km_Q := if -99 ≤ b ∧ b ≤ 99 then (if 0 ≤ p ∧ p ≤ R 2 110 - 1 then (if 0 ≤ R 2 (0 + p) + b ∧ R 2 (0 + p) + b ≤ 999 then (im_up (R 2) (0 + p) (R 2 (0 + p) + b) (0 + p), pl_U v 34 (kp_un v + 1), pl_U (pl_U R 14 (kp_keep 3 v R)) 2 (im_up (R 2) (0 + p) (R 2 (0 + p) + b))) else (-3, v, R)) else (-2, v, R)) else (-1, v, R)
def kp_wlk (K : Int → Int) : Nat → Int
  | 0 => 0
  | k + 1 => kp_wlk K k + K (20 + 3 * (k : Int) + 1)
theorem kp_wlk_b {K : Int → Int} {N : Int} (h : ∀ g, 0 ≤ g → g < N → 0 ≤ K (20 + 3 * g + 1) ∧ K (20 + 3 * g + 1) ≤ 98) : ∀ k : Nat, (k : Int) ≤ N → 0 ≤ kp_wlk K k ∧ kp_wlk K k ≤ 98 * k
  | 0, _ => ⟨Int.le_refl _, Int.le_refl _⟩
  | k + 1, hk => by
    have h1 := kp_wlk_b h k (by omega)
    have h2 := h k (by omega) (by omega)
    show 0 ≤ kp_wlk K k + K (20 + 3 * (k : Int) + 1) ∧ kp_wlk K k + K (20 + 3 * (k : Int) + 1) ≤ 98 * ((k + 1 : Nat) : Int)
    omega
def kp_off (p n : Int) (K : Int → Int) : Int → Int := im_up (im_up K (0 + p) (K (0 + p) - n)) (10 + p) (min 99999 (im_up K (0 + p) (K (0 + p) - n) (10 + p) + n))
def km_arr (p n : Int) (v : Nat → Int) (R : Nat → Int → Int) : (Nat → Int) × (Nat → Int → Int) := if R 2 (71 + p) = -1 then (pl_U v 31 (v 31 + n), pl_U R 2 (im_up (R 2) 69 (min 99999 (R 2 69 + n)))) else (v, pl_U R 2 (im_up (R 2) (0 + R 2 (71 + p)) (min 999 (R 2 (0 + R 2 (71 + p)) + n))))
/-- twenty bytes -/
def kp_five (a b c e f : Int) (F : Int → Int) : Int → Int := im_up (im_up (im_up (im_up (im_up F 0 a) 1 b) 2 c) 3 e) 4 f
def kp_fd (t : Int) (F A : Int → Int) : Nat → Int → Int
  | 0 => A
  | k + 1 => im_up (kp_fd t F A k) (t + (k : Int)) (im_byte (im_shr (F ((k : Int).tdiv 4)) (24 - 8 * (k : Int).tmod 4)))
theorem im_byte_b (x : Int) : -128 ≤ im_byte x ∧ im_byte x < 128 := ⟨Int.le_bmod (by decide), Int.bmod_lt (by decide)⟩
def km_feed (a b c e f : Int) (v : Nat → Int) (R : Nat → Int → Int) : km_Q := if v 13 + 20 ≤ 400 then (v 13 + 20, pl_U v 13 (v 13 + 20), pl_U (pl_U R 8 (kp_five a b c e f (R 8))) 7 (kp_fd (v 13) (kp_five a b c e f (R 8)) (R 7) 20)) else (-1, v, R)
theorem MW_self (v : Nat → Int) (R : Nat → Int → Int) : MW v R = MW (pl_U v 34 (v 34)) (pl_U R 14 (R 14)) := rfl
section Md
variable {ro : ab_R} {T : List im_T} {d : Nat} {v : Nat → Int} {R : Nat → Int → Int}
set_option maxHeartbeats 8000000 in
theorem m_keeps (hd : 1 ≤ d) (hT : T.length < 1000) {what : Int} (h1 : 0 ≤ v 34 ∧ v 34 ≤ 16) : im_ct ro T d 195 [mr 0, .inl what] (MW v R) (fun r w => r = none ∧ w = MW (km_keeps what v R).1 (km_keeps what v R).2) := by
  obtain ⟨d, rfl⟩ : ∃ e, d = e + 1 := ⟨d - 1, by omega⟩
  refine im_ct_of (own := 9) (ret := none) (code := ab_k_X9_keeps) (nL := 4) (L0 := [some (mr 0), some (.inl what), none, none]) (n := 24) rfl rfl rfl rfl rfl rfl rfl rfl rfl ?_
  refine im_g 5 (y := (9, _, _, _)) rfl trivial ?_
  refine im_b rfl rfl ⟨(by omega), (by omega), trivial⟩ (fun j1 => ?_) (fun j1 => ?_)
  · refine im_g 2 (y := (54, _, _, _)) rfl trivial ?_
    have q1 : kp_sh v R = R 14 := if_neg (by omega)
    have q2 : kp_un v = v 34 := if_neg (by omega)
    refine im_eqs (y := (54, [some (mr 0), some (.inl what), some (.inl 72), some (.inl 0)], [], MW (pl_U v 34 (kp_un v)) (pl_U R 14 (kp_sh v R)))) (by rw [q1, q2]; exact congrArg (fun z => ((54, [some (mr 0), some (.inl what), some (.inl 72), some (.inl 0)], [], z) : im_S)) (MW_self v R)) ?_
    have q3 : 0 ≤ kp_un v ∧ kp_un v ≤ 15 := by omega
    have q4 : pl_U v 34 (kp_un v) 34 = kp_un v := rfl
    refine im_eqs (y := (54, [some (mr 0), some (.inl what), some (.inl 72), some (.inl ((0 : Nat) : Int))], [], MW (pl_U v 34 (kp_un v)) (pl_U (pl_U R 14 (kp_sh v R)) 14 (im_cpy (R 2) (kp_sh v R) (0) (72 * kp_un v) ((0 : Nat) : Int))))) (by rw [im_cpy_0]; rfl) ?_
    refine im_for 71 (fun m => (54, [some (mr 0), some (.inl what), some (.inl 72), some (.inl (m : Int))], [], MW (pl_U v 34 (kp_un v)) (pl_U (pl_U R 14 (kp_sh v R)) 14 (im_cpy (R 2) (kp_sh v R) (0) (72 * kp_un v) (m : Int))))) (fun m hm ih => ?_) ?_
    · refine im_g 2 (y := (57, _, _, _)) rfl trivial ?_
      refine im_bF rfl rfl ⟨(by omega), (by omega), trivial⟩ (by omega) ?_
      refine im_g 15 (y := (54, _, _, _)) rfl ⟨(by omega), (by omega), trivial⟩ ?_
      rw [im_cpy_s0] at ih
      exact ih
    · refine im_g 2 (y := (57, _, _, _)) rfl trivial ?_
      refine im_bT rfl rfl ⟨(by omega), (by omega), trivial⟩ (by omega) ?_
      refine im_g 16 (y := (110, _, _, _)) rfl ⟨(by omega), trivial⟩ ?_
      refine im_r rfl rfl trivial rfl ?_
      exact ⟨rfl, rfl⟩
  · refine im_g 2 (y := (14, _, _, _)) rfl trivial ?_
    refine im_eqs (y := (14, [some (mr 0), some (.inl what), some (.inl 72), some (.inl ((0 : Nat) : Int))], [], MW v (pl_U R 14 (im_cpy (R 14) (R 14) 72 0 ((0 : Nat) : Int))))) (by rw [im_cpy_0]; rfl) ?_
    refine im_for 1080 (fun m => (14, [some (mr 0), some (.inl what), some (.inl 72), some (.inl (m : Int))], [], MW v (pl_U R 14 (im_cpy (R 14) (R 14) 72 0 (m : Int))))) (fun m hm ih => ?_) ?_
    · refine im_g 4 (y := (19, _, _, _)) rfl trivial ?_
      refine im_bF rfl rfl ⟨(by omega), (by omega), trivial⟩ (by omega) ?_
      refine im_g 12 (y := (14, _, _, _)) rfl ⟨(by omega), (by omega), trivial⟩ ?_
      rw [im_cpy_sd] at ih
      refine im_eqs ?_ ih
      show ((14, [some (mr 0), some (.inl what), some (.inl 72), some (.inl ((m : Int) + 1))], [], MW v (pl_U R 14 (im_up (im_cpy (R 14) (R 14) 72 0 (m : Int)) (m : Int) (im_cpy (R 14) (R 14) 72 0 (m : Int) ((m : Int) + 72))))) : im_S) = _
      rw [im_cpy_far (by omega), show (m : Int) + 72 = 72 + (m : Int) by omega]
      rfl
    · refine im_g 4 (y := (19, _, _, _)) rfl trivial ?_
      refine im_bT rfl rfl ⟨(by omega), (by omega), trivial⟩ (by omega) ?_
      refine im_g 8 (y := (54, _, _, _)) rfl trivial ?_
      have q1 : kp_sh v R = im_cpy (R 14) (R 14) 72 0 1080 := if_pos (by omega)
      have q2 : kp_un v = 15 := if_pos (by omega)
      refine im_eqs (y := (54, [some (mr 0), some (.inl what), some (.inl 72), some (.inl 0)], [], MW (pl_U v 34 (kp_un v)) (pl_U R 14 (kp_sh v R)))) (by rw [q1, q2]; rw [show (15 : Int) = v 34 - 1 by omega]; rfl) ?_
      have q3 : 0 ≤ kp_un v ∧ kp_un v ≤ 15 := by omega
      have q4 : pl_U v 34 (kp_un v) 34 = kp_un v := rfl
      refine im_eqs (y := (54, [some (mr 0), some (.inl what), some (.inl 72), some (.inl ((0 : Nat) : Int))], [], MW (pl_U v 34 (kp_un v)) (pl_U (pl_U R 14 (kp_sh v R)) 14 (im_cpy (R 2) (kp_sh v R) (0) (72 * kp_un v) ((0 : Nat) : Int))))) (by rw [im_cpy_0]; rfl) ?_
      refine im_for 71 (fun m => (54, [some (mr 0), some (.inl what), some (.inl 72), some (.inl (m : Int))], [], MW (pl_U v 34 (kp_un v)) (pl_U (pl_U R 14 (kp_sh v R)) 14 (im_cpy (R 2) (kp_sh v R) (0) (72 * kp_un v) (m : Int))))) (fun m hm ih => ?_) ?_
      · refine im_g 2 (y := (57, _, _, _)) rfl trivial ?_
        refine im_bF rfl rfl ⟨(by omega), (by omega), trivial⟩ (by omega) ?_
        refine im_g 15 (y := (54, _, _, _)) rfl ⟨(by omega), (by omega), trivial⟩ ?_
        rw [im_cpy_s0] at ih
        exact ih
      · refine im_g 2 (y := (57, _, _, _)) rfl trivial ?_
        refine im_bT rfl rfl ⟨(by omega), (by omega), trivial⟩ (by omega) ?_
        refine im_g 16 (y := (110, _, _, _)) rfl ⟨(by omega), trivial⟩ ?_
        refine im_r rfl rfl trivial rfl ?_
        exact ⟨rfl, rfl⟩
set_option maxHeartbeats 8000000 in
theorem m_beside (hd : 1 ≤ d) (hT : T.length < 1000) {a b : Int} (ha : 0 ≤ a ∧ a ≤ 9) (hb : 0 ≤ b ∧ b ≤ 9) (hk : ∀ p, 0 ≤ p → p < 10 → -1 ≤ R 2 (71 + p) ∧ R 2 (71 + p) ≤ 9) : im_ct ro T d 200 [mr 0, .inl a, .inl b] (MW v R) (fun r w => r = some (.inl (if R 2 (71 + a) = b ∨ R 2 (71 + b) = a then 1 else 0)) ∧ w = MW v R) := by
  obtain ⟨d, rfl⟩ : ∃ e, d = e + 1 := ⟨d - 1, by omega⟩
  have k1 := hk a ha.1 (by omega)
  have k2 := hk b hb.1 (by omega)
  refine im_ct_of (own := 9) (ret := (some .boolean)) (code := ab_k_X9_areBeside) (nL := 3) (L0 := [some (mr 0), some (.inl a), some (.inl b)]) (n := 24) rfl rfl rfl rfl rfl rfl rfl rfl rfl ?_
  refine im_g 7 (y := (10, _, _, _)) rfl ⟨(by omega), trivial⟩ ?_
  refine im_b rfl rfl ⟨(by omega), (by omega), trivial⟩ (fun j1 => ?_) (fun j1 => ?_)
  · refine im_g 2 (y := (31, _, _, _)) rfl trivial ?_
    refine im_r rfl rfl ⟨(by omega), trivial⟩ rfl ?_
    rw [if_pos (by omega)]
    exact ⟨rfl, rfl⟩
  · refine im_g 7 (y := (23, _, _, _)) rfl ⟨(by omega), trivial⟩ ?_
    refine im_b rfl rfl ⟨(by omega), (by omega), trivial⟩ (fun j2 => ?_) (fun j2 => ?_)
    · refine im_g 1 (y := (31, _, _, _)) rfl trivial ?_
      refine im_r rfl rfl ⟨(by omega), trivial⟩ rfl ?_
      rw [if_neg (by omega)]
      exact ⟨rfl, rfl⟩
    · refine im_g 2 (y := (31, _, _, _)) rfl trivial ?_
      refine im_r rfl rfl ⟨(by omega), trivial⟩ rfl ?_
      rw [if_pos (by omega)]
      exact ⟨rfl, rfl⟩
set_option maxHeartbeats 8000000 in
theorem m_lends (hd : 3 ≤ d) (hT : T.length < 1000) {a b n : Int} (ha : im_ir a) (hb : im_ir b) (hn : im_ir n) (h1 : 0 ≤ R 2 110 ∧ R 2 110 ≤ 10) (h2 : 0 ≤ v 34 ∧ v 34 ≤ 16) (hk : ∀ p, 0 ≤ p → p < 10 → -1 ≤ R 2 (71 + p) ∧ R 2 (71 + p) ≤ 9) (hc : ∀ p, 0 ≤ p → p < 10 → 0 ≤ R 2 (0 + p) ∧ R 2 (0 + p) ≤ 999) : im_ct ro T d 201 [mr 0, .inl a, .inl b, .inl n] (MW v R) (fun r w => r = some (.inl (km_lend a b n v R).1) ∧ w = MW (km_lend a b n v R).2.1 (km_lend a b n v R).2.2) := by
  obtain ⟨d, rfl⟩ : ∃ e, d = e + 1 := ⟨d - 1, by omega⟩
  refine im_ct_of (own := 9) (ret := (some .int)) (code := ab_k_X9_lendsKept) (nL := 4) (L0 := [some (mr 0), some (.inl a), some (.inl b), some (.inl n)]) (n := 24) rfl rfl rfl rfl rfl rfl rfl rfl rfl ?_
  refine im_g 3 (y := (4, _, _, _)) rfl trivial ?_
  refine im_call [] rfl rfl (m_lies (x := n) (a := 1) (b := 99) (by omega) hT (by omega) (by omega) (by omega)) rfl rfl rfl (by decide) rfl (by decide) hT (fun v1 w1 hq => ?_)
  obtain ⟨rfl, rfl⟩ := hq
  refine ⟨_, _, MW v R, rfl, rfl, rfl, ?_⟩
  refine im_b rfl rfl ⟨(by omega), trivial⟩ (fun j1 => ?_) (fun j1 => ?_)
  · have c7 : 1 ≤ n ∧ n ≤ 99 := by
      by_cases hh : 1 ≤ n ∧ n ≤ 99
      · exact hh
      · rw [if_neg hh] at j1; exact absurd rfl j1
    clear j1
    refine im_g 2 (y := (14, _, _, _)) rfl trivial ?_
    refine im_cM rfl rfl (m_isParish (v := v) (R := R) (p := a) (by omega) hT (by omega) h1) rfl hT (fun v1 w1 hq => ?_)
    obtain ⟨rfl, rfl⟩ := hq
    refine ⟨v, R, rfl, rfl, ?_⟩
    refine im_b rfl rfl ⟨(by omega), trivial⟩ (fun j2 => ?_) (fun j2 => ?_)
    · have c17 : ¬ (0 ≤ a ∧ a ≤ R 2 110 - 1) := by
        intro hh
        rw [if_pos hh] at j2
        exact absurd j2 (by decide)
      clear j2
      refine im_g 1 (y := (30, _, _, _)) rfl trivial ?_
      refine im_r rfl rfl trivial rfl ?_
      unfold km_lend
      rw [if_pos c7, if_neg (fun z => c17 z.1)]
      exact ⟨rfl, rfl⟩
    · have c17 : 0 ≤ a ∧ a ≤ R 2 110 - 1 := by
        by_cases hh : 0 ≤ a ∧ a ≤ R 2 110 - 1
        · exact hh
        · rw [if_neg hh] at j2; exact absurd rfl j2
      clear j2
      refine im_g 2 (y := (22, _, _, _)) rfl trivial ?_
      refine im_cM rfl rfl (m_isParish (v := v) (R := R) (p := b) (by omega) hT (by omega) h1) rfl hT (fun v1 w1 hq => ?_)
      obtain ⟨rfl, rfl⟩ := hq
      refine ⟨v, R, rfl, rfl, ?_⟩
      refine im_b rfl rfl ⟨(by omega), trivial⟩ (fun j3 => ?_) (fun j3 => ?_)
      · have c25 : 0 ≤ b ∧ b ≤ R 2 110 - 1 := by
          by_cases hh : 0 ≤ b ∧ b ≤ R 2 110 - 1
          · exact hh
          · rw [if_neg hh] at j3; exact absurd rfl j3
        clear j3
        have k1 := hc a (by omega) (by omega)
        have k2 := hc b (by omega) (by omega)
        refine im_g 3 (y := (34, _, _, _)) rfl trivial ?_
        refine im_cM rfl rfl (m_beside (v := v) (R := R) (a := a) (b := b) (by omega) hT (by omega) (by omega) hk) rfl hT (fun v1 w1 hq => ?_)
        obtain ⟨rfl, rfl⟩ := hq
        refine ⟨v, R, rfl, rfl, ?_⟩
        refine im_b rfl rfl ⟨(by omega), trivial⟩ (fun j4 => ?_) (fun j4 => ?_)
        · have c37 : ¬ (R 2 (71 + a) = b ∨ R 2 (71 + b) = a) := by
            intro hh
            rw [if_pos hh] at j4
            exact absurd j4 (by decide)
          clear j4
          refine im_g 1 (y := (70, _, _, _)) rfl trivial ?_
          refine im_r rfl rfl trivial rfl ?_
          unfold km_lend
          rw [if_pos c7, if_pos ⟨c17, c25⟩, if_neg (fun z => c37 z.1)]
          exact ⟨rfl, rfl⟩
        · have c37 : R 2 (71 + a) = b ∨ R 2 (71 + b) = a := by
            by_cases hh : R 2 (71 + a) = b ∨ R 2 (71 + b) = a
            · exact hh
            · rw [if_neg hh] at j4; exact absurd rfl j4
          clear j4
          refine im_g 7 (y := (49, _, _, _)) rfl ⟨(by omega), trivial⟩ ?_
          refine im_b rfl rfl ⟨(by omega), (by omega), trivial⟩ (fun j5 => ?_) (fun j5 => ?_)
          · refine im_g 1 (y := (70, _, _, _)) rfl trivial ?_
            refine im_r rfl rfl trivial rfl ?_
            unfold km_lend
            rw [if_pos c7, if_pos ⟨c17, c25⟩, if_neg (fun z => absurd z.2.1 (by omega))]
            exact ⟨rfl, rfl⟩
          · refine im_g 9 (y := (65, _, _, _)) rfl ⟨(by omega), trivial⟩ ?_
            refine im_b rfl rfl ⟨(by omega), (by omega), trivial⟩ (fun j6 => ?_) (fun j6 => ?_)
            · refine im_g 2 (y := (73, _, _, _)) rfl trivial ?_
              refine im_cM rfl rfl (m_keeps (v := v) (R := R) (what := 2) (by omega) hT h2) rfl hT (fun v1 w1 hq => ?_)
              obtain ⟨rfl, rfl⟩ := hq
              refine ⟨(pl_U v 34 (kp_un v + 1)), (pl_U R 14 (kp_keep 2 v R)), rfl, rfl, ?_⟩
              refine im_g 26 (y := (108, _, _, _)) rfl ⟨(by omega), (by omega), (by omega), (by omega), (by omega), trivial⟩ ?_
              refine im_r rfl rfl trivial rfl ?_
              unfold km_lend
              rw [if_pos c7, if_pos ⟨c17, c25⟩, if_pos ⟨c37, by omega, by omega⟩]
              exact ⟨rfl, rfl⟩
            · refine im_g 1 (y := (70, _, _, _)) rfl trivial ?_
              refine im_r rfl rfl trivial rfl ?_
              unfold km_lend
              rw [if_pos c7, if_pos ⟨c17, c25⟩, if_neg (fun z => absurd z.2.2 (by omega))]
              exact ⟨rfl, rfl⟩
      · have c25 : ¬ (0 ≤ b ∧ b ≤ R 2 110 - 1) := by
          intro hh
          rw [if_pos hh] at j3
          exact j3 (by decide)
        clear j3
        refine im_g 1 (y := (30, _, _, _)) rfl trivial ?_
        refine im_r rfl rfl trivial rfl ?_
        unfold km_lend
        rw [if_pos c7, if_neg (fun z => c25 z.2)]
        exact ⟨rfl, rfl⟩
  · have c7 : ¬ (1 ≤ n ∧ n ≤ 99) := by
      intro hh
      rw [if_pos hh] at j1
      exact j1 (by decide)
    clear j1
    refine im_g 1 (y := (11, _, _, _)) rfl trivial ?_
    refine im_r rfl rfl trivial rfl ?_
    unfold km_lend
    rw [if_neg c7]
    exact ⟨rfl, rfl⟩
set_option maxHeartbeats 8000000 in
theorem m_grows (hd : 3 ≤ d) (hT : T.length < 1000) {p b : Int} (hp : im_ir p) (hb : im_ir b) (h1 : 0 ≤ R 2 110 ∧ R 2 110 ≤ 10) (h2 : 0 ≤ v 34 ∧ v 34 ≤ 16) (hk : ∀ p, 0 ≤ p → p < 10 → -1 ≤ R 2 (71 + p) ∧ R 2 (71 + p) ≤ 9) (hc : ∀ p, 0 ≤ p → p < 10 → 0 ≤ R 2 (0 + p) ∧ R 2 (0 + p) ≤ 999) : im_ct ro T d 202 [mr 0, .inl p, .inl b] (MW v R) (fun r w => r = some (.inl (km_grow p b v R).1) ∧ w = MW (km_grow p b v R).2.1 (km_grow p b v R).2.2) := by
  obtain ⟨d, rfl⟩ : ∃ e, d = e + 1 := ⟨d - 1, by omega⟩
  refine im_ct_of (own := 9) (ret := (some .int)) (code := ab_k_X9_growsKept) (nL := 3) (L0 := [some (mr 0), some (.inl p), some (.inl b)]) (n := 24) rfl rfl rfl rfl rfl rfl rfl rfl rfl ?_
  refine im_g 3 (y := (5, _, _, _)) rfl trivial ?_
  refine im_call [] rfl rfl (m_lies (x := b) (a := -99) (b := 99) (by omega) hT (by omega) (by omega) (by omega)) rfl rfl rfl (by decide) rfl (by decide) hT (fun v1 w1 hq => ?_)
  obtain ⟨rfl, rfl⟩ := hq
  refine ⟨_, _, MW v R, rfl, rfl, rfl, ?_⟩
  refine im_b rfl rfl ⟨(by omega), trivial⟩ (fun j1 => ?_) (fun j1 => ?_)
  · have c8 : -99 ≤ b ∧ b ≤ 99 := by
      by_cases hh : -99 ≤ b ∧ b ≤ 99
      · exact hh
      · rw [if_neg hh] at j1; exact absurd rfl j1
    clear j1
    refine im_g 2 (y := (15, _, _, _)) rfl trivial ?_
    refine im_cM rfl rfl (m_isParish (v := v) (R := R) (p := p) (by omega) hT (by omega) h1) rfl hT (fun v1 w1 hq => ?_)
    obtain ⟨rfl, rfl⟩ := hq
    refine ⟨v, R, rfl, rfl, ?_⟩
    refine im_b rfl rfl ⟨(by omega), trivial⟩ (fun j2 => ?_) (fun j2 => ?_)
    · have c18 : 0 ≤ p ∧ p ≤ R 2 110 - 1 := by
        by_cases hh : 0 ≤ p ∧ p ≤ R 2 110 - 1
        · exact hh
        · rw [if_neg hh] at j2; exact absurd rfl j2
      clear j2
      have k1 := hc p (by omega) (by omega)
      refine im_g 10 (y := (38, _, _, _)) rfl ⟨(by omega), trivial⟩ ?_
      refine im_call [] rfl rfl (m_lies (x := R 2 (0 + p) + b) (a := 0) (b := 999) (by omega) hT (by omega) (by omega) (by omega)) rfl rfl rfl (by decide) rfl (by decide) hT (fun v1 w1 hq => ?_)
      obtain ⟨rfl, rfl⟩ := hq
      refine ⟨_, _, MW v R, rfl, rfl, rfl, ?_⟩
      refine im_b rfl rfl ⟨(by omega), trivial⟩ (fun j3 => ?_) (fun j3 => ?_)
      · have c41 : 0 ≤ R 2 (0 + p) + b ∧ R 2 (0 + p) + b ≤ 999 := by
          by_cases hh : 0 ≤ R 2 (0 + p) + b ∧ R 2 (0 + p) + b ≤ 999
          · exact hh
          · rw [if_neg hh] at j3; exact absurd rfl j3
        clear j3
        refine im_g 2 (y := (49, _, _, _)) rfl trivial ?_
        refine im_cM rfl rfl (m_keeps (v := v) (R := R) (what := 3) (by omega) hT h2) rfl hT (fun v1 w1 hq => ?_)
        obtain ⟨rfl, rfl⟩ := hq
        refine ⟨(pl_U v 34 (kp_un v + 1)), (pl_U R 14 (kp_keep 3 v R)), rfl, rfl, ?_⟩
        refine im_g 16 (y := (72, _, _, _)) rfl ⟨(by omega), (by omega), (by omega), trivial⟩ ?_
        refine im_r rfl rfl trivial rfl ?_
        unfold km_grow
        rw [if_pos c8, if_pos c18, if_pos c41]
        exact ⟨rfl, rfl⟩
      · have c41 : ¬ (0 ≤ R 2 (0 + p) + b ∧ R 2 (0 + p) + b ≤ 999) := by
          intro hh
          rw [if_pos hh] at j3
          exact j3 (by decide)
        clear j3
        refine im_g 1 (y := (46, _, _, _)) rfl trivial ?_
        refine im_r rfl rfl trivial rfl ?_
        unfold km_grow
        rw [if_pos c8, if_pos c18, if_neg c41]
        exact ⟨rfl, rfl⟩
    · have c18 : ¬ (0 ≤ p ∧ p ≤ R 2 110 - 1) := by
        intro hh
        rw [if_pos hh] at j2
        exact j2 (by decide)
      clear j2
      refine im_g 1 (y := (23, _, _, _)) rfl trivial ?_
      refine im_r rfl rfl trivial rfl ?_
      unfold km_grow
      rw [if_pos c8, if_neg c18]
      exact ⟨rfl, rfl⟩
  · have c8 : ¬ (-99 ≤ b ∧ b ≤ 99) := by
      intro hh
      rw [if_pos hh] at j1
      exact j1 (by decide)
    clear j1
    refine im_g 1 (y := (12, _, _, _)) rfl trivial ?_
    refine im_r rfl rfl trivial rfl ?_
    unfold km_grow
    rw [if_neg c8]
    exact ⟨rfl, rfl⟩
set_option maxHeartbeats 8000000 in
theorem m_walking (hd : 1 ≤ d) (hT : T.length < 1000) (h1 : 0 ≤ R 2 68 ∧ R 2 68 ≤ 16) (hg : ∀ g, 0 ≤ g → g < R 2 68 → 0 ≤ R 2 (20 + 3 * g + 1) ∧ R 2 (20 + 3 * g + 1) ≤ 98) : im_ct ro T d 189 [mr 0] (MW v R) (fun r w => r = some (.inl (kp_wlk (R 2) (R 2 68).toNat)) ∧ w = MW v R) := by
  obtain ⟨d, rfl⟩ : ∃ e, d = e + 1 := ⟨d - 1, by omega⟩
  refine im_ct_of (own := 9) (ret := (some .int)) (code := ab_k_X9_walking) (nL := 3) (L0 := [some (mr 0), none, none]) (n := 24) rfl rfl rfl rfl rfl rfl rfl rfl rfl ?_
  refine im_g 4 (y := (4, _, _, _)) rfl trivial ?_
  refine im_for (R 2 68).toNat (fun k => (4, [some (mr 0), some (.inl (kp_wlk (R 2) k)), some (.inl (k : Int))], [], MW v R)) (fun k hk ih => ?_) ?_
  · have hb := kp_wlk_b hg k (by omega)
    have hb2 := hg k (by omega) (by omega)
    refine im_g 5 (y := (12, _, _, _)) rfl ⟨(by omega), trivial⟩ ?_
    refine im_bF rfl rfl ⟨(by omega), (by omega), trivial⟩ (by omega) ?_
    refine im_g 15 (y := (4, _, _, _)) rfl ⟨(by omega), trivial⟩ ?_
    exact ih
  · have hb := kp_wlk_b hg (R 2 68).toNat (by omega)
    refine im_g 5 (y := (12, _, _, _)) rfl ⟨(by omega), trivial⟩ ?_
    refine im_bT rfl rfl ⟨(by omega), (by omega), trivial⟩ (by omega) ?_
    refine im_g 1 (y := (38, _, _, _)) rfl trivial ?_
    refine im_r rfl rfl trivial rfl ?_
    exact ⟨rfl, rfl⟩
set_option maxHeartbeats 8000000 in
theorem m_hasRoom (hd : 1 ≤ d) (hT : T.length < 1000) {n : Int} (hn : im_ir n) (h1 : 0 ≤ R 2 68 ∧ R 2 68 ≤ 16) : im_ct ro T d 190 [mr 0, .inl n] (MW v R) (fun r w => r = some (.inl (if n = 0 ∨ R 2 68 < 16 then 1 else 0)) ∧ w = MW v R) := by
  obtain ⟨d, rfl⟩ : ∃ e, d = e + 1 := ⟨d - 1, by omega⟩
  refine im_ct_of (own := 9) (ret := (some .boolean)) (code := ab_k_X9_hasRoom) (nL := 2) (L0 := [some (mr 0), some (.inl n)]) (n := 24) rfl rfl rfl rfl rfl rfl rfl rfl rfl ?_
  refine im_g 1 (y := (1, _, _, _)) rfl trivial ?_
  refine im_b rfl rfl ⟨(by omega), trivial⟩ (fun j1 => ?_) (fun j1 => ?_)
  · refine im_g 2 (y := (21, _, _, _)) rfl trivial ?_
    refine im_r rfl rfl ⟨(by omega), trivial⟩ rfl ?_
    rw [if_pos (by omega)]
    exact ⟨rfl, rfl⟩
  · refine im_g 5 (y := (13, _, _, _)) rfl ⟨(by omega), trivial⟩ ?_
    refine im_b rfl rfl ⟨(by omega), (by omega), trivial⟩ (fun j2 => ?_) (fun j2 => ?_)
    · refine im_g 1 (y := (21, _, _, _)) rfl trivial ?_
      refine im_r rfl rfl ⟨(by omega), trivial⟩ rfl ?_
      rw [if_neg (by omega)]
      exact ⟨rfl, rfl⟩
    · refine im_g 2 (y := (21, _, _, _)) rfl trivial ?_
      refine im_r rfl rfl ⟨(by omega), trivial⟩ rfl ?_
      rw [if_pos (by omega)]
      exact ⟨rfl, rfl⟩
set_option maxHeartbeats 8000000 in
theorem m_walksOff (hd : 2 ≤ d) (hT : T.length < 1000) {p n : Int} (hp : 0 ≤ p ∧ p ≤ 9) (hn : 0 ≤ n ∧ n ≤ 999) (hw : 0 ≤ R 2 (10 + p) ∧ R 2 (10 + p) ≤ 99999) : im_ct ro T d 191 [mr 0, .inl p, .inl n] (MW v R) (fun r w => r = none ∧ w = MW v (pl_U R 2 (kp_off p n (R 2)))) := by
  obtain ⟨d, rfl⟩ : ∃ e, d = e + 1 := ⟨d - 1, by omega⟩
  refine im_ct_of (own := 9) (ret := none) (code := ab_k_X9_walksOff) (nL := 3) (L0 := [some (mr 0), some (.inl p), some (.inl n)]) (n := 24) rfl rfl rfl rfl rfl rfl rfl rfl rfl ?_
  refine im_g 10 (y := (12, _, _, _)) rfl ⟨(by omega), (by omega), trivial⟩ ?_
  have e1 := im_up_ne (R 2) (k := 0 + p) (j := 10 + p) (R 2 (0 + p) - n) (by omega)
  refine im_g 14 (y := (34, _, _, _)) rfl ⟨(by omega), trivial⟩ ?_
  refine im_call [] rfl rfl (m_lesser (a := 99999) (b := im_up (R 2) (0 + p) (R 2 (0 + p) - n) (10 + p) + n) (by omega) hT (by omega) (by omega)) rfl rfl rfl (by decide) rfl (by decide) hT (fun v1 w1 hq => ?_)
  obtain ⟨rfl, rfl⟩ := hq
  refine ⟨_, _, MW v (pl_U R 2 (im_up (R 2) (0 + p) (R 2 (0 + p) - n))), rfl, rfl, rfl, ?_⟩
  refine im_g 1 (y := (38, _, _, _)) rfl ⟨(by omega), trivial⟩ ?_
  refine im_r rfl rfl trivial rfl ?_
  exact ⟨rfl, rfl⟩
set_option maxHeartbeats 8000000 in
theorem m_arrives (hd : 2 ≤ d) (hT : T.length < 1000) {p n : Int} (hp : 0 ≤ p ∧ p ≤ 9) (hn : 0 ≤ n ∧ n ≤ 999) (hb : -1 ≤ R 2 (71 + p) ∧ R 2 (71 + p) ≤ 9) (hs : 0 ≤ R 2 69 ∧ R 2 69 ≤ 99999) (hc : ∀ p, 0 ≤ p → p < 10 → 0 ≤ R 2 (0 + p) ∧ R 2 (0 + p) ≤ 999) : im_ct ro T d 193 [mr 0, .inl p, .inl n] (MW v R) (fun r w => r = none ∧ w = MW (km_arr p n v R).1 (km_arr p n v R).2) := by
  obtain ⟨d, rfl⟩ : ∃ e, d = e + 1 := ⟨d - 1, by omega⟩
  refine im_ct_of (own := 9) (ret := none) (code := ab_k_X9_arrives) (nL := 4) (L0 := [some (mr 0), some (.inl p), some (.inl n), none]) (n := 24) rfl rfl rfl rfl rfl rfl rfl rfl rfl ?_
  refine im_g 9 (y := (12, _, _, _)) rfl ⟨(by omega), trivial⟩ ?_
  refine im_b rfl rfl ⟨(by omega), (by omega), trivial⟩ (fun j1 => ?_) (fun j1 => ?_)
  · have k1 := hc (R 2 (71 + p)) (by omega) (by omega)
    refine im_g 14 (y := (70, _, _, _)) rfl ⟨(by omega), trivial⟩ ?_
    refine im_call [] rfl rfl (m_lesser (a := 999) (b := R 2 (0 + R 2 (71 + p)) + n) (by omega) hT (by omega) (by omega)) rfl rfl rfl (by decide) rfl (by decide) hT (fun v1 w1 hq => ?_)
    obtain ⟨rfl, rfl⟩ := hq
    refine ⟨_, _, MW v R, rfl, rfl, rfl, ?_⟩
    refine im_g 1 (y := (74, _, _, _)) rfl ⟨(by omega), trivial⟩ ?_
    refine im_r rfl rfl trivial rfl ?_
    unfold km_arr
    rw [if_neg (by omega)]
    exact ⟨rfl, rfl⟩
  · refine im_g 10 (y := (33, _, _, _)) rfl ⟨(by omega), trivial⟩ ?_
    refine im_call [] rfl rfl (m_lesser (a := 99999) (b := R 2 69 + n) (by omega) hT (by omega) (by omega)) rfl rfl rfl (by decide) rfl (by decide) hT (fun v1 w1 hq => ?_)
    obtain ⟨rfl, rfl⟩ := hq
    refine ⟨_, _, MW v R, rfl, rfl, rfl, ?_⟩
    refine im_g 8 (y := (74, _, _, _)) rfl ⟨(by omega), trivial⟩ ?_
    refine im_r rfl rfl trivial rfl ?_
    unfold km_arr
    rw [if_pos (by omega)]
    exact ⟨rfl, rfl⟩
set_option maxHeartbeats 8000000 in
theorem m_feed (hd : 1 ≤ d) (hT : T.length < 1000) {a b c e f : Int} (h1 : 0 ≤ v 13 ∧ v 13 ≤ 400) : im_ct ro T d 144 [mr 0, .inl a, .inl b, .inl c, .inl e, .inl f] (MW v R) (fun r w => r = some (.inl (km_feed a b c e f v R).1) ∧ w = MW (km_feed a b c e f v R).2.1 (km_feed a b c e f v R).2.2) := by
  obtain ⟨d, rfl⟩ : ∃ e, d = e + 1 := ⟨d - 1, by omega⟩
  refine im_ct_of (own := 9) (ret := (some .int)) (code := ab_k_X9_feed) (nL := 7) (L0 := [some (mr 0), some (.inl a), some (.inl b), some (.inl c), some (.inl e), some (.inl f), none]) (n := 24) rfl rfl rfl rfl rfl rfl rfl rfl rfl ?_
  refine im_g 5 (y := (10, _, _, _)) rfl trivial ?_
  refine im_b rfl rfl ⟨(by omega), (by omega), trivial⟩ (fun j1 => ?_) (fun j1 => ?_)
  · refine im_g 27 (y := (55, _, _, _)) rfl ⟨(by omega), (by omega), (by omega), (by omega), (by omega), trivial⟩ ?_
    refine im_for 20 (fun m => (55, [some (mr 0), some (.inl a), some (.inl b), some (.inl c), some (.inl e), some (.inl f), some (.inl (m : Int))], [], MW v (pl_U (pl_U R 8 (kp_five a b c e f (R 8))) 7 (kp_fd (v 13) (kp_five a b c e f (R 8)) (R 7) m)))) (fun m hm ih => ?_) ?_
    · have q1 : (m : Int).tdiv 4 = (m : Int) / 4 := Int.tdiv_eq_ediv_of_nonneg (by omega)
      have q2 := im_byte_b (im_shr ((kp_five a b c e f (R 8)) ((m : Int).tdiv 4)) (24 - 8 * (m : Int).tmod 4))
      refine im_g 2 (y := (59, _, _, _)) rfl trivial ?_
      refine im_bF rfl rfl ⟨(by omega), (by omega), trivial⟩ (by omega) ?_
      refine im_g 24 (y := (55, _, _, _)) rfl ⟨(by omega), (by omega), (by omega), (by omega), (by omega), (by omega), (by omega), (by first | omega | exact q2), (by first | omega | exact q2), trivial⟩ ?_
      exact ih
    · refine im_g 2 (y := (59, _, _, _)) rfl trivial ?_
      refine im_bT rfl rfl ⟨(by omega), (by omega), trivial⟩ (by omega) ?_
      refine im_g 8 (y := (116, _, _, _)) rfl trivial ?_
      refine im_r rfl rfl trivial rfl ?_
      unfold km_feed
      rw [if_pos (by omega)]
      exact ⟨rfl, rfl⟩
  · refine im_g 1 (y := (14, _, _, _)) rfl trivial ?_
    refine im_r rfl rfl trivial rfl ?_
    unfold km_feed
    rw [if_neg (by omega)]
    exact ⟨rfl, rfl⟩
end Md
