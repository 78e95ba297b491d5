/-! orders run: what they do -/
abbrev ru_S : Type := (Nat → Int) × (Nat → Int → Int) × (Int × Int) × (Int × Int) × (Int → Int)
/-- the sum, the test, of a clause -/
def ru_ev (lw : Option im_T) (q : im_T) (c f : Int) (z : ru_S) : Int × Int := mc_ev q.2.1.2 q.2.1.1 25 (fw lw q.1.2.2 z.2.2.1.1 z.2.2.1.2 z.1 z.2.1) (tx_part q.2.2.1 q.2.2.2 c f)
/-- a clause once: does it stop; what is then -/
def ru_1 (lw : Option im_T) (q : im_T) (c : Int) (z : ru_S) : Bool × ru_S :=
  if ¬ ((ru_ev lw q c 4 z).2 = 0 ∧ ¬ (ru_ev lw q c 4 z).1 = 0) then (false, z)
  else if ¬ ((ru_ev lw q c 2 z).2 = 0 ∧ (ru_ev lw q c 3 z).2 = 0) then (true, z)
  else if (pl_act lw (tx_part q.2.2.1 q.2.2.2 c 0) (ru_ev lw q c 2 z).1 (ru_ev lw q c 3 z).1 1 z.1 z.2.1).1 < 0 then (true, (pl_act lw (tx_part q.2.2.1 q.2.2.2 c 0) (ru_ev lw q c 2 z).1 (ru_ev lw q c 3 z).1 1 z.1 z.2.1).2.1, (pl_act lw (tx_part q.2.2.1 q.2.2.2 c 0) (ru_ev lw q c 2 z).1 (ru_ev lw q c 3 z).1 1 z.1 z.2.1).2.2, z.2.2.1, z.2.2.2.1, pt_note (pt_at z.2.2.2.1.1 z.2.2.2.1.2) (tx_part q.2.2.1 q.2.2.2 c 0) z.1 z.2.1 z.2.2.2.2)
  else (false, (pl_act lw (tx_part q.2.2.1 q.2.2.2 c 0) (ru_ev lw q c 2 z).1 (ru_ev lw q c 3 z).1 1 z.1 z.2.1).2.1, (pl_act lw (tx_part q.2.2.1 q.2.2.2 c 0) (ru_ev lw q c 2 z).1 (ru_ev lw q c 3 z).1 1 z.1 z.2.1).2.2, (if tx_part q.2.2.1 q.2.2.2 c 0 = 0 then (pl_act lw (tx_part q.2.2.1 q.2.2.2 c 0) (ru_ev lw q c 2 z).1 (ru_ev lw q c 3 z).1 1 z.1 z.2.1).1 else z.2.2.1.1, z.2.2.1.2 + 1), pt_keep z.2.2.2.1.1 z.2.2.2.1.2, pt_note (pt_at z.2.2.2.1.1 z.2.2.2.1.2) (tx_part q.2.2.1 q.2.2.2 c 0) z.1 z.2.1 z.2.2.2.2)
def ru_t (lw : Option im_T) (q : im_T) (c : Int) : Nat → ru_S → Bool × ru_S
  | 0, z => (false, z)
  | n + 1, z => if (ru_1 lw q c z).1 = true then (true, (ru_1 lw q c z).2) else ru_t lw q c n (ru_1 lw q c z).2
def ru_n (q : im_T) (c : Int) : Nat := (min 20 (tx_part q.2.2.1 q.2.2.2 c 1)).toNat
def ru_c (lw : Option im_T) (q : im_T) : Nat → Int → ru_S → Option Int × ru_S
  | 0, _, z => (none, z)
  | n + 1, c, z => if (ru_t lw q c (ru_n q c) z).1 = true then (some c, (ru_t lw q c (ru_n q c) z).2) else ru_c lw q n (c + 1) (ru_t lw q c (ru_n q c) z).2
def ru_tc (lw : Option im_T) (q : im_T) (n2 : Nat) (c : Int) (n : Nat) (z : ru_S) : Option Int × ru_S := if (ru_t lw q c n z).1 = true then (some c, (ru_t lw q c n z).2) else ru_c lw q n2 (c + 1) (ru_t lw q c n z).2
theorem ru_tc_0 (lw : Option im_T) (q : im_T) (n2 : Nat) (c : Int) (z : ru_S) : ru_tc lw q n2 c 0 z = ru_c lw q n2 (c + 1) z := if_neg (show ¬ (false = true) by decide)
theorem ru_c_s (lw : Option im_T) (q : im_T) (n2 : Nat) (c : Int) (z : ru_S) : ru_c lw q (n2 + 1) c z = ru_tc lw q n2 c (ru_n q c) z := rfl
theorem ru_tc_stop {lw : Option im_T} {q : im_T} {n2 : Nat} {c : Int} {n : Nat} {z : ru_S} (h : (ru_1 lw q c z).1 = true) : ru_tc lw q n2 c (n + 1) z = (some c, (ru_1 lw q c z).2) := by
  have e : ru_t lw q c (n + 1) z = (true, (ru_1 lw q c z).2) := if_pos h
  unfold ru_tc
  rw [e]
  exact if_pos rfl
theorem ru_tc_go {lw : Option im_T} {q : im_T} {n2 : Nat} {c : Int} {n : Nat} {z : ru_S} (h : (ru_1 lw q c z).1 = false) : ru_tc lw q n2 c (n + 1) z = ru_tc lw q n2 c n (ru_1 lw q c z).2 := by
  have e : ru_t lw q c (n + 1) z = ru_t lw q c n (ru_1 lw q c z).2 := if_neg (by rw [h]; decide)
  unfold ru_tc
  rw [e]
def RSI (v0 : Nat → Int) (b : Int) (z : ru_S) : Prop := LOK z.1 z.2.1 ∧ z.2.1 7 0 ≤ 999 ∧ z.1 5 = v0 5 ∧ (-1 ≤ z.2.2.1.1 ∧ z.2.2.1.1 ≤ 98) ∧ (0 ≤ z.2.2.1.2 ∧ z.2.2.1.2 ≤ b) ∧ (0 ≤ z.2.2.2.1.1 ∧ z.2.2.2.1.1 ≤ 16) ∧ (0 ≤ z.2.2.2.1.2 ∧ z.2.2.2.1.2 ≤ 16)
theorem pl_send_b (lw : Option im_T) (p : Int) (v : Nat → Int) (R : Nat → Int → Int) : -5 ≤ (pl_send lw p v R).1 ∧ (pl_send lw p v R).1 ≤ 98 := by
  have h1 := as_over_b lw p 0 R
  have h2 := as_stay_b lw p 0 R
  unfold pl_send
  split
  · exact ⟨by dsimp only; omega, by dsimp only; omega⟩
  split
  · exact ⟨by dsimp only; omega, by dsimp only; omega⟩
  split
  · exact ⟨by dsimp only; omega, by dsimp only; omega⟩
  split
  · exact ⟨by dsimp only; omega, by dsimp only; omega⟩
  · dsimp only
    omega
theorem pl_act_b (lw : Option im_T) {v : Nat → Int} {R : Nat → Int → Int} (h : LOK v R) (kind a b : Int) : (-5 ≤ (pl_act lw kind a b 1 v R).1 ∧ (pl_act lw kind a b 1 v R).1 ≤ 2000) ∧ (kind = 0 → (pl_act lw kind a b 1 v R).1 ≤ 98) := by
  have h1 := pl_send_b lw a v R
  have h2 := (LOK_day h).2.2.2
  have ca := lk_cnt h a
  have cb := lk_cnt h b
  unfold pl_act
  by_cases k0 : kind = 0
  · rw [if_pos k0]
    exact ⟨by omega, fun _ => h1.2⟩
  rw [if_neg k0]
  by_cases k1 : kind = 1
  · rw [if_pos k1]
    split
    · exact ⟨by omega, fun z => absurd z k0⟩
    · exact ⟨⟨by dsimp only; omega, by dsimp only; omega⟩, fun z => absurd z k0⟩
  rw [if_neg k1]
  by_cases k2 : kind = 2
  · rw [if_pos k2]
    refine ⟨?_, fun z => absurd z k0⟩
    show -5 ≤ (pl_lend a b 1 v R).1 ∧ (pl_lend a b 1 v R).1 ≤ 2000
    unfold pl_lend
    split
    · exact ⟨by dsimp only; omega, by dsimp only; omega⟩
    split
    · exact ⟨by dsimp only; omega, by dsimp only; omega⟩
    split
    · exact ⟨by dsimp only; omega, by dsimp only; omega⟩
    · dsimp only
      rw [im_up_at, im_up_at, im_up_at]
      split <;> (try split) <;> omega
  · rw [if_neg k2]
    refine ⟨?_, fun z => absurd z k0⟩
    show -5 ≤ (pl_growBy a b v R).1 ∧ (pl_growBy a b v R).1 ≤ 2000
    unfold pl_growBy
    split
    · exact ⟨by dsimp only; omega, by dsimp only; omega⟩
    split
    · exact ⟨by dsimp only; omega, by dsimp only; omega⟩
    split
    · exact ⟨by dsimp only; omega, by dsimp only; omega⟩
    · dsimp only
      omega
theorem pl_act_7 (lw : Option im_T) {v : Nat → Int} {R : Nat → Int → Int} (h : LOK v R) (hd : R 7 0 ≤ 999) (kind a b n : Int) : (pl_act lw kind a b n v R).2.2 7 0 ≤ 999 ∧ (pl_act lw kind a b n v R).2.1 5 = v 5 := by
  unfold pl_act
  split
  · unfold pl_send
    split
    · exact ⟨hd, rfl⟩
    split
    · exact ⟨hd, rfl⟩
    split
    · exact ⟨hd, rfl⟩
    split
    · exact ⟨hd, rfl⟩
    · refine ⟨?_, rfl⟩
      show (pl_leave _ _ _ _) 7 0 ≤ 999
      rw [pl_leave_row _ _ _ _ (by decide) (by decide)]
      exact hd
  split
  · split
    · rename_i hc
      obtain ⟨-, -, h7, -⟩ := LOK_day h
      refine ⟨by rw [h7]; omega, ?_⟩
      have hg := lk_grp h
      exact (PDI_k h (v 1).toNat (by omega)).1.2.2.2.2
    · exact ⟨hd, rfl⟩
  split
  · refine ⟨?_, rfl⟩
    show (pl_lend a b n v R).2 7 0 ≤ 999
    unfold pl_lend
    split
    · exact hd
    split
    · exact hd
    split
    · exact hd
    · exact hd
  · refine ⟨?_, rfl⟩
    show (pl_growBy a b v R).2 7 0 ≤ 999
    unfold pl_growBy
    split
    · exact hd
    split
    · exact hd
    split
    · exact hd
    · exact hd
theorem pt_keep_b {f k : Int} (hf : 0 ≤ f ∧ f ≤ 16) (hk : 0 ≤ k ∧ k ≤ 16) : (0 ≤ (pt_keep f k).1 ∧ (pt_keep f k).1 ≤ 16) ∧ (0 ≤ (pt_keep f k).2 ∧ (pt_keep f k).2 ≤ 16) := by
  unfold pt_keep
  split
  · dsimp only; omega
  · dsimp only; omega
theorem RSI_1 {lw : Option im_T} {q : im_T} {c : Int} {v0 : Nat → Int} {b : Int} {z : ru_S} (h : RSI v0 b z) : RSI v0 (b + 1) (ru_1 lw q c z).2 := by
  obtain ⟨h1, h2, h3, h4, h5, h6, h7⟩ := h
  have ha := pl_act_b lw h1 (tx_part q.2.2.1 q.2.2.2 c 0) (ru_ev lw q c 2 z).1 (ru_ev lw q c 3 z).1
  have h8 := pl_act_7 lw h1 h2 (tx_part q.2.2.1 q.2.2.2 c 0) (ru_ev lw q c 2 z).1 (ru_ev lw q c 3 z).1 1
  have h9 := LOK_act lw h1 (tx_part q.2.2.1 q.2.2.2 c 0) (ru_ev lw q c 2 z).1 (ru_ev lw q c 3 z).1 1
  have hk := pt_keep_b h6 h7
  unfold ru_1
  split
  · exact ⟨h1, h2, h3, h4, ⟨h5.1, by show z.2.2.1.2 ≤ b + 1; omega⟩, h6, h7⟩
  split
  · exact ⟨h1, h2, h3, h4, ⟨h5.1, by show z.2.2.1.2 ≤ b + 1; omega⟩, h6, h7⟩
  split
  · exact ⟨h9, h8.1, h8.2.trans h3, h4, ⟨h5.1, by show z.2.2.1.2 ≤ b + 1; omega⟩, h6, h7⟩
  · rename_i hn
    refine ⟨h9, h8.1, h8.2.trans h3, ?_, ⟨by show 0 ≤ z.2.2.1.2 + 1; omega, by show z.2.2.1.2 + 1 ≤ b + 1; omega⟩, hk.1, hk.2⟩
    dsimp only
    split
    · rename_i k0
      exact ⟨by omega, ha.2 k0⟩
    · exact h4
theorem RSI_w {v0 : Nat → Int} {a b : Int} {z : ru_S} (h : RSI v0 a z) (hab : a ≤ b) : RSI v0 b z := by
  obtain ⟨h1, h2, h3, h4, h5, h6⟩ := h
  exact ⟨h1, h2, h3, h4, ⟨h5.1, by omega⟩, h6⟩
section Ra
variable {ro : ab_R} {T : List im_T} {d : Nat}
set_option maxHeartbeats 2500000 in
theorem c_runN (hd : 7 ≤ d) (hT : T.length < 1000) {v0 : Nat → Int} {g : Int → Option Nat} {lw : Option im_T} (hl : LWR v0 g T lw) {q : im_T} (hq : TXOK q) (hq2 : ∀ c, 0 ≤ c → c < q.1.2.1 → 0 ≤ tx_part q.2.2.1 q.2.2.2 c 0 ∧ tx_part q.2.2.1 q.2.2.2 c 0 ≤ 3) {z0 : ru_S} (hz : RSI v0 0 z0) (hz1 : z0.2.2.1 = (-1, 0)) {rv : Nat → Int} {b : Int} {s : Int → Int} {cv : Nat → Int} {cb : Int} {cs cwd rw : Int → Int} (hk : RKO b s cb cs cwd rw) : im_ct ro T d 69 [mr 0, mr 8, mr 11, mn] (RC 0 rv b s cv cb cs cwd rw ++ XC 8 q.1 q.2.1.1 q.2.1.2 q.2.2.1 q.2.2.2 ++ LC 11 z0.1 z0.2.1 g) (fun r w => r = some (.inl (match (ru_c lw q q.1.2.1.toNat 0 z0).1 with | none => -1 | some x => x)) ∧ ∃ rv1 b1 s1 cv1 cb1 cs1 cwd1 rw1, RKO b1 s1 cb1 cs1 cwd1 rw1 ∧ rv1 3 = (ru_c lw q q.1.2.1.toNat 0 z0).2.2.2.1.2 ∧ RSI v0 1000 (ru_c lw q q.1.2.1.toNat 0 z0).2 ∧ w = RC 0 rv1 b1 s1 cv1 cb1 cs1 cwd1 rw1 ++ XC 8 q.1 q.2.1.1 q.2.1.2 q.2.2.1 q.2.2.2 ++ LC 11 (ru_c lw q q.1.2.1.toNat 0 z0).2.1 (ru_c lw q q.1.2.1.toNat 0 z0).2.2.1 g) := by
  obtain ⟨d, rfl⟩ : ∃ e, d = e + 1 := ⟨d - 1, by omega⟩
  have hq0 := hq
  obtain ⟨hcl, hkl, hcc, hkk, hsz, hu1, hu2⟩ := hq0
  have key : ∀ (n2 m : Nat), (m : Int) + n2 = q.1.2.1 → ∀ (z : ru_S) (rv : Nat → Int) (b : Int) (s : Int → Int) (cv : Nat → Int) (cb : Int) (cs cwd rw : Int → Int) (x5 x6 x7 x8 : Option im_V), RSI v0 (20 * (m : Int)) z → rv 0 = z.2.2.1.1 → rv 3 = z.2.2.1.2 → RKO b s cb cs cwd rw → im_wp ro (ab_Ev ro ab_codes d) 6 (some .int) ab_k_X6_runAll 23 T (fun r w => r = some (.inl (match (ru_c lw q n2 (m : Int) z).1 with | none => -1 | some x => x)) ∧ ∃ rv1 b1 s1 cv1 cb1 cs1 cwd1 rw1, RKO b1 s1 cb1 cs1 cwd1 rw1 ∧ rv1 3 = (ru_c lw q n2 (m : Int) z).2.2.2.1.2 ∧ RSI v0 1000 (ru_c lw q n2 (m : Int) z).2 ∧ w = RC 0 rv1 b1 s1 cv1 cb1 cs1 cwd1 rw1 ++ XC 8 q.1 q.2.1.1 q.2.1.2 q.2.2.1 q.2.2.2 ++ LC 11 (ru_c lw q n2 (m : Int) z).2.1 (ru_c lw q n2 (m : Int) z).2.2.1 g) (13, [some (mr 0), some (mr 8), some (mr 11), some (mn), some (.inl (m : Int)), x5, x6, x7, x8], [], RC 0 rv b s cv cb cs cwd rw ++ XC 8 q.1 q.2.1.1 q.2.1.2 q.2.2.1 q.2.2.2 ++ LC 11 z.1 z.2.1 g) := by
    intro n2
    induction n2 with
    | zero =>
      intro m hm z rv b s cv cb cs cwd rw x5 x6 x7 x8 hi h0 h3 hk
      refine im_g 3 (y := (19, _, _, _)) rfl trivial ?_
      refine im_bT rfl rfl ⟨(by omega), (by omega), trivial⟩ (by omega) ?_
      refine im_g 1 (y := (176, _, _, _)) rfl trivial ?_
      refine im_r rfl rfl trivial rfl ?_
      exact ⟨rfl, rv, b, s, cv, cb, cs, cwd, rw, hk, h3, RSI_w hi (by omega), rfl⟩
    | succ n2 ihc =>
      intro m hm z rv b s cv cb cs cwd rw x5 x6 x7 x8 hi h0 h3 hk
      have hkd := hq2 m (by omega) (by omega)
      have hp1 := tx_part_b (kl := q.2.2.1) hkk (m : Int) 1
      have inner : ∀ (n t : Nat), t + n = ru_n q (m : Int) → ∀ (z : ru_S) (rv : Nat → Int) (b : Int) (s : Int → Int) (cv : Nat → Int) (cb : Int) (cs cwd rw : Int → Int) (x8 : Option im_V), RSI v0 (20 * (m : Int) + t) z → rv 0 = z.2.2.1.1 → rv 3 = z.2.2.1.2 → RKO b s cb cs cwd rw → im_wp ro (ab_Ev ro ab_codes d) 6 (some .int) ab_k_X6_runAll 23 T (fun r w => r = some (.inl (match (ru_tc lw q n2 (m : Int) n z).1 with | none => -1 | some x => x)) ∧ ∃ rv1 b1 s1 cv1 cb1 cs1 cwd1 rw1, RKO b1 s1 cb1 cs1 cwd1 rw1 ∧ rv1 3 = (ru_tc lw q n2 (m : Int) n z).2.2.2.1.2 ∧ RSI v0 1000 (ru_tc lw q n2 (m : Int) n z).2 ∧ w = RC 0 rv1 b1 s1 cv1 cb1 cs1 cwd1 rw1 ++ XC 8 q.1 q.2.1.1 q.2.1.2 q.2.2.1 q.2.2.2 ++ LC 11 (ru_tc lw q n2 (m : Int) n z).2.1 (ru_tc lw q n2 (m : Int) n z).2.2.1 g) (48, [some (mr 0), some (mr 8), some (mr 11), some (mn), some (.inl (m : Int)), some (.inl (tx_part q.2.2.1 q.2.2.2 (m : Int) 0)), some (.inl (min 20 (tx_part q.2.2.1 q.2.2.2 (m : Int) 1))), some (.inl (t : Int)), x8], [], RC 0 rv b s cv cb cs cwd rw ++ XC 8 q.1 q.2.1.1 q.2.1.2 q.2.2.1 q.2.2.2 ++ LC 11 z.1 z.2.1 g) := by
        intro n
        induction n with
        | zero =>
          intro t ht z rv b s cv cb cs cwd rw x8 hi h0 h3 hk
          unfold ru_n at ht
          refine im_g 2 (y := (52, _, _, _)) rfl trivial ?_
          refine im_bT rfl rfl ⟨(by omega), (by omega), trivial⟩ (by omega) ?_
          refine im_g 2 (y := (13, _, _, _)) rfl trivial ?_
          rw [ru_tc_0]
          exact ihc (m + 1) (by omega) z rv b s cv cb cs cwd rw _ _ _ _ (RSI_w hi (by omega)) h0 h3 hk
        | succ n ih =>
          intro t ht z rv b s cv cb cs cwd rw x8 hi h0 h3 hk
          unfold ru_n at ht
          have hi0 := hi
          obtain ⟨i1, i2, i3, i4, i5, i6, i7⟩ := hi0
          have hk0 := hk
          obtain ⟨k1, k2, k3, k4, k5, k6⟩ := hk0
          have hev : ∀ f, mc_ev q.2.1.2 q.2.1.1 25 (fw_p lw q.1.2.2 (rv 0) (rv 3) z.1 z.2.1 rw 10) (tx_part q.2.2.1 q.2.2.2 (m : Int) f) = ru_ev lw q (m : Int) f z := fun f => mc_ev_congr (fun i h1 h2 => (fw_p_at _ _ _ _ _ _ _ 10 (Nat.le_refl _) i h1 (by omega)).trans (by rw [h0, h3]))
          have hfok : WOK (fw_p lw q.1.2.2 (rv 0) (rv 3) z.1 z.2.1 rw 10) := fw_p_ok i1 (by omega) (by omega) (by omega) k6 10
          have hevb : ∀ f, -1000001000 ≤ (ru_ev lw q (m : Int) f z).1 ∧ (ru_ev lw q (m : Int) f z).1 ≤ 1000001000 := fun f => by rw [← hev f]; exact mc_ev_b hcc hfok hcl _
          have v2 := hev 2
          have v3 := hev 3
          have v4 := hev 4
          have hb2 := hevb 2
          have hb3 := hevb 3
          clear hev hevb
          generalize hE4 : ru_ev lw q (m : Int) 4 z = E4 at v4
          generalize hE2 : ru_ev lw q (m : Int) 2 z = E2 at v2 hb2
          generalize hE3 : ru_ev lw q (m : Int) 3 z = E3 at v3 hb3
          generalize hKD : tx_part q.2.2.1 q.2.2.2 (m : Int) 0 = KD at hkd ih ⊢
          have hab := (pl_act_b lw i1 KD E2.1 E3.1).1
          generalize hA : pl_act lw KD E2.1 E3.1 1 z.1 z.2.1 = A at hab
          refine im_g 2 (y := (52, _, _, _)) rfl trivial ?_
          refine im_bF rfl rfl ⟨(by omega), (by omega), trivial⟩ (by omega) ?_
          refine im_g 3 (y := (58, _, _, _)) rfl trivial ?_
          refine im_call [0,1,2,3,4,5,6,7,8,9,10,11,12,13,14,15,16,17,18,19,20,21,22] rfl rfl (c_fill (by omega) hT i1 (by omega) (LWR_5 hl i3) (rv := rv) hk hq) rfl rfl rfl (by decide) rfl (by decide) hT (fun v1 w1 hq => ?_)
          obtain ⟨rfl, cv1, cb1, cs1, cwd1, kc1, kc2, kc3, rfl⟩ := hq
          refine ⟨_, _, RC 0 rv b s cv1 cb1 cs1 cwd1 (fw_p lw q.1.2.2 (rv 0) (rv 3) z.1 z.2.1 rw 10) ++ XC 8 q.1 q.2.1.1 q.2.1.2 q.2.2.1 q.2.2.2 ++ LC 11 z.1 z.2.1 g, rfl, rfl, rfl, ?_⟩
          refine im_g 3 (y := (65, _, _, _)) rfl trivial ?_
          refine im_call [0,1,2,3,4,5,6,7,8,9,10] rfl rfl (c_wanted (rv := rv) (cv := cv1) (cb := cb1) (cs := cs1) (cwd := cwd1) (by omega) hT k1 k2 hfok hq (c := (m : Int)) (by omega)) rfl rfl rfl (by decide) rfl (by decide) hT (fun v1 w1 hq => ?_)
          obtain ⟨rfl, b4, s4, kb4, ks4, rfl⟩ := hq
          refine ⟨_, _, RC 0 rv b4 s4 cv1 cb1 cs1 cwd1 (fw_p lw q.1.2.2 (rv 0) (rv 3) z.1 z.2.1 rw 10) ++ XC 8 q.1 q.2.1.1 q.2.1.2 q.2.2.1 q.2.2.2 ++ LC 11 z.1 z.2.1 g, rfl, rfl, rfl, ?_⟩
          rw [v4]
          refine im_b rfl rfl ⟨(by omega), trivial⟩ (fun j1 => ?_) (fun j1 => ?_)
          · have c4 : (E4.2 = 0 ∧ ¬ E4.1 = 0) := by
              by_cases hh : (E4.2 = 0 ∧ ¬ E4.1 = 0)
              · exact hh
              · rw [if_neg hh] at j1; exact absurd rfl j1
            clear j1
            refine im_g 3 (y := (78, _, _, _)) rfl trivial ?_
            refine im_call [0,1,2,3,4,5,6,7,8,9,10] rfl rfl (c_sums (rv := rv) (cv := cv1) (cb := cb1) (cs := cs1) (cwd := cwd1) (by omega) hT kb4 ks4 hfok hq (c := (m : Int)) (by omega)) rfl rfl rfl (by decide) rfl (by decide) hT (fun v1 w1 hq => ?_)
            obtain ⟨rfl, rv1, b5, s5, kb5, ks5, ⟨r0, r3⟩, hx, rfl⟩ := hq
            refine ⟨_, _, RC 0 rv1 b5 s5 cv1 cb1 cs1 cwd1 (fw_p lw q.1.2.2 (rv 0) (rv 3) z.1 z.2.1 rw 10) ++ XC 8 q.1 q.2.1.1 q.2.1.2 q.2.2.1 q.2.2.2 ++ LC 11 z.1 z.2.1 g, rfl, rfl, rfl, ?_⟩
            rw [v2, v3] at hx ⊢
            refine im_b rfl rfl ⟨(by omega), trivial⟩ (fun j2 => ?_) (fun j2 => ?_)
            · have c2 : (E2.2 = 0 ∧ E3.2 = 0) := by
                by_cases hh : (E2.2 = 0 ∧ E3.2 = 0)
                · exact hh
                · rw [if_neg hh] at j2; exact absurd rfl j2
              clear j2
              replace hx := hx c2
              refine im_g 1 (y := (88, _, _, _)) rfl trivial ?_
              refine im_bT rfl rfl trivial trivial ?_
              refine im_g 9 (y := (114, _, _, _)) rfl trivial ?_
              refine im_eqs (y := (114, [some (mr 0), some (mr 8), some (mr 11), some (mn), some (.inl (m : Int)), some (.inl KD), some (.inl (min 20 (tx_part q.2.2.1 q.2.2.2 (m : Int) 1))), some (.inl (t : Int)), x8], [mr 3, .inl 1, .inl E3.1, .inl E2.1, .inl KD, mr 11], RC 0 rv1 b5 s5 cv1 cb1 cs1 cwd1 (fw_p lw q.1.2.2 (rv 0) (rv 3) z.1 z.2.1 rw 10) ++ XC 8 q.1 q.2.1.1 q.2.1.2 q.2.2.1 q.2.2.2 ++ LC 11 z.1 z.2.1 g)) (by rw [← hx.1, ← hx.2]; rfl) ?_
              refine im_call [11,12,13,14,15,16,17,18,19,20,21,22,3,4,5,6] rfl rfl (c_act (by omega) hT i1 (by omega) (LWR_5 hl i3) (cv := cv1) kc1 kc2 kc3 (kind := KD) (a := E2.1) (b2 := E3.1) (n := 1) hkd (by omega) (by omega) (by decide)) rfl rfl rfl (by decide) rfl (by decide) hT (fun v1 w1 hq => ?_)
              obtain ⟨rfl, cv2, cb2, cs2, cwd2, kd1, kd2, kd3, rfl⟩ := hq
              rw [hA]
              refine ⟨_, _, RC 0 rv1 b5 s5 cv2 cb2 cs2 cwd2 (fw_p lw q.1.2.2 (rv 0) (rv 3) z.1 z.2.1 rw 10) ++ XC 8 q.1 q.2.1.1 q.2.1.2 q.2.2.1 q.2.2.2 ++ LC 11 A.2.1 A.2.2 g, rfl, rfl, rfl, ?_⟩
              refine im_g 2 (y := (121, _, _, _)) rfl trivial ?_
              refine im_b rfl rfl ⟨(by omega), trivial⟩ (fun j3 => ?_) (fun j3 => ?_)
              · refine im_g 1 (y := (128, _, _, _)) rfl trivial ?_
                refine im_bT rfl rfl trivial trivial ?_
                refine im_g 2 (y := (138, _, _, _)) rfl trivial ?_
                refine im_b rfl rfl ⟨(by omega), trivial⟩ (fun j4 => ?_) (fun j4 => ?_)
                · refine im_g 11 (y := (48, _, _, _)) rfl trivial ?_
                  have e1 : ru_1 lw q (m : Int) z = (false, A.2.1, A.2.2, (z.2.2.1.1, z.2.2.1.2 + 1), pt_keep z.2.2.2.1.1 z.2.2.2.1.2, (pt_note (pt_at z.2.2.2.1.1 z.2.2.2.1.2) KD z.1 z.2.1 z.2.2.2.2)) := by
                    unfold ru_1
                    rw [hE4, hE2, hE3, hKD, hA]
                    rw [if_neg (fun z => z c4), if_neg (fun z => z c2), if_neg (by omega), if_neg (by omega)]
                  have hr := RSI_1 (lw := lw) (q := q) (c := (m : Int)) hi
                  rw [ru_tc_go (by rw [e1])]
                  rw [e1] at hr ⊢
                  exact ih (t + 1) (by unfold ru_n; omega) _ (pl_U (pl_U rv1 0 (rv1 0)) 3 (rv1 3 + 1)) b5 s5 cv2 cb2 cs2 cwd2 _ _ (RSI_w hr (by omega)) (r0.trans h0) (show rv1 3 + 1 = z.2.2.1.2 + 1 by omega) ⟨kb5, ks5, kd1, kd2, kd3, hfok⟩
                · refine im_g 11 (y := (48, _, _, _)) rfl trivial ?_
                  have e1 : ru_1 lw q (m : Int) z = (false, A.2.1, A.2.2, (A.1, z.2.2.1.2 + 1), pt_keep z.2.2.2.1.1 z.2.2.2.1.2, (pt_note (pt_at z.2.2.2.1.1 z.2.2.2.1.2) KD z.1 z.2.1 z.2.2.2.2)) := by
                    unfold ru_1
                    rw [hE4, hE2, hE3, hKD, hA]
                    rw [if_neg (fun z => z c4), if_neg (fun z => z c2), if_neg (by omega), if_pos (by omega)]
                  have hr := RSI_1 (lw := lw) (q := q) (c := (m : Int)) hi
                  rw [ru_tc_go (by rw [e1])]
                  rw [e1] at hr ⊢
                  exact ih (t + 1) (by unfold ru_n; omega) _ (pl_U (pl_U rv1 0 (A.1)) 3 (rv1 3 + 1)) b5 s5 cv2 cb2 cs2 cwd2 _ _ (RSI_w hr (by omega)) rfl (show rv1 3 + 1 = z.2.2.1.2 + 1 by omega) ⟨kb5, ks5, kd1, kd2, kd3, hfok⟩
              · refine im_g 1 (y := (126, _, _, _)) rfl trivial ?_
                refine im_r rfl rfl trivial rfl ?_
                have e1 : ru_1 lw q (m : Int) z = (true, A.2.1, A.2.2, z.2.2.1, z.2.2.2.1, (pt_note (pt_at z.2.2.2.1.1 z.2.2.2.1.2) KD z.1 z.2.1 z.2.2.2.2)) := by
                  unfold ru_1
                  rw [hE4, hE2, hE3, hKD, hA]
                  rw [if_neg (fun z => z c4), if_neg (fun z => z c2), if_pos (by omega)]
                have hr := RSI_1 (lw := lw) (q := q) (c := (m : Int)) hi
                rw [ru_tc_stop (by rw [e1])]
                rw [e1] at hr ⊢
                exact ⟨rfl, rv1, b5, s5, cv2, cb2, cs2, cwd2, _, ⟨kb5, ks5, kd1, kd2, kd3, hfok⟩, r3.trans h3, RSI_w hr (by omega), rfl⟩
            · have c2 : ¬ (E2.2 = 0 ∧ E3.2 = 0) := by
                intro hh
                rw [if_pos hh] at j2
                exact j2 (by decide)
              clear j2
              clear hx
              refine im_g 1 (y := (86, _, _, _)) rfl trivial ?_
              refine im_r rfl rfl trivial rfl ?_
              have e1 : ru_1 lw q (m : Int) z = (true, z) := by
                unfold ru_1
                rw [hE4, hE2, hE3]
                rw [if_neg (fun z => z c4), if_pos c2]
              rw [ru_tc_stop (by rw [e1]), e1]
              exact ⟨rfl, rv1, b5, s5, cv1, cb1, cs1, cwd1, _, ⟨kb5, ks5, kc1, kc2, kc3, hfok⟩, r3.trans h3, RSI_w hi (by omega), rfl⟩
          · have c4 : ¬ (E4.2 = 0 ∧ ¬ E4.1 = 0) := by
              intro hh
              rw [if_pos hh] at j1
              exact j1 (by decide)
            clear j1
            refine im_g 3 (y := (48, _, _, _)) rfl trivial ?_
            have e1 : ru_1 lw q (m : Int) z = (false, z) := if_pos (by rw [hE4]; exact c4)
            rw [ru_tc_go (by rw [e1]), e1]
            exact ih (t + 1) (by unfold ru_n; omega) z rv b4 s4 cv1 cb1 cs1 cwd1 _ _ (RSI_w hi (by omega)) h0 h3 ⟨kb4, ks4, kc1, kc2, kc3, hfok⟩
      refine im_g 3 (y := (19, _, _, _)) rfl trivial ?_
      refine im_bF rfl rfl ⟨(by omega), (by omega), trivial⟩ (by omega) ?_
      refine im_g 3 (y := (26, _, _, _)) rfl trivial ?_
      refine im_call [8,9,10] rfl rfl (c_part (u := q.1) (cl := q.2.1.1) (kl := q.2.2.1) (c := q.2.1.2) (k := q.2.2.2) (a := (m : Int)) (f := 0) (by omega) hT (by omega) (by decide) (by omega)) rfl rfl rfl (by decide) rfl (by decide) hT (fun v1 w1 hq => ?_)
      obtain ⟨rfl, rfl⟩ := hq
      refine ⟨_, _, RC 0 rv b s cv cb cs cwd rw ++ XC 8 q.1 q.2.1.1 q.2.1.2 q.2.2.1 q.2.2.2 ++ LC 11 z.1 z.2.1 g, rfl, rfl, rfl, ?_⟩
      refine im_g 5 (y := (37, _, _, _)) rfl trivial ?_
      refine im_call [8,9,10] rfl rfl (c_part (u := q.1) (cl := q.2.1.1) (kl := q.2.2.1) (c := q.2.1.2) (k := q.2.2.2) (a := (m : Int)) (f := 1) (by omega) hT (by omega) (by decide) (by omega)) rfl rfl rfl (by decide) rfl (by decide) hT (fun v1 w1 hq => ?_)
      obtain ⟨rfl, rfl⟩ := hq
      refine ⟨_, _, RC 0 rv b s cv cb cs cwd rw ++ XC 8 q.1 q.2.1.1 q.2.1.2 q.2.2.1 q.2.2.2 ++ LC 11 z.1 z.2.1 g, rfl, rfl, rfl, ?_⟩
      refine im_g 4 (y := (48, _, _, _)) rfl ⟨(by omega), (by omega), trivial⟩ ?_
      rw [ru_c_s]
      exact inner (ru_n q (m : Int)) 0 (by omega) z rv b s cv cb cs cwd rw _ (RSI_w hi (by omega)) h0 h3 hk
  refine im_ct_of (own := 6) (ret := (some .int)) (code := ab_k_X6_runAll) (nL := 9) (L0 := [some (mr 0), some (mr 8), some (mr 11), some (mn), none, none, none, none, none]) (n := 23) rfl rfl rfl rfl rfl rfl rfl rfl rfl ?_
  refine im_g 8 (y := (13, _, _, _)) rfl trivial ?_
  exact key q.1.2.1.toNat 0 (by omega) z0 (pl_U (pl_U rv 3 0) 0 (-1)) b s cv cb cs cwd rw none none none none (RSI_w hz (by decide)) (show (-1 : Int) = z0.2.2.1.1 by rw [hz1]) (show (0 : Int) = z0.2.2.1.2 by rw [hz1]) hk
set_option maxHeartbeats 2500000 in
theorem c_runP (hd : 7 ≤ d) (hT : T.length < 1000) {v0 : Nat → Int} {g : Int → Option Nat} {lw : Option im_T} (hl : LWR v0 g T lw) {q : im_T} (hq : TXOK q) (hq2 : ∀ c, 0 ≤ c → c < q.1.2.1 → 0 ≤ tx_part q.2.2.1 q.2.2.2 c 0 ∧ tx_part q.2.2.1 q.2.2.2 c 0 ≤ 3) {z0 : ru_S} (hz : RSI v0 0 z0) (hz1 : z0.2.2.1 = (-1, 0)) {rv : Nat → Int} {b : Int} {s : Int → Int} {cv : Nat → Int} {cb : Int} {cs cwd rw : Int → Int} (hk : RKO b s cb cs cwd rw) : im_ct ro T d 69 [mr 0, mr 8, mr 11, mr 23] (RC 0 rv b s cv cb cs cwd rw ++ XC 8 q.1 q.2.1.1 q.2.1.2 q.2.2.1 q.2.2.2 ++ LC 11 z0.1 z0.2.1 g ++ QC 23 z0.2.2.2.1.1 z0.2.2.2.1.2 z0.2.2.2.2) (fun r w => r = some (.inl (match (ru_c lw q q.1.2.1.toNat 0 z0).1 with | none => -1 | some x => x)) ∧ ∃ rv1 b1 s1 cv1 cb1 cs1 cwd1 rw1, RKO b1 s1 cb1 cs1 cwd1 rw1 ∧ rv1 3 = (ru_c lw q q.1.2.1.toNat 0 z0).2.2.2.1.2 ∧ RSI v0 1000 (ru_c lw q q.1.2.1.toNat 0 z0).2 ∧ w = RC 0 rv1 b1 s1 cv1 cb1 cs1 cwd1 rw1 ++ XC 8 q.1 q.2.1.1 q.2.1.2 q.2.2.1 q.2.2.2 ++ LC 11 (ru_c lw q q.1.2.1.toNat 0 z0).2.1 (ru_c lw q q.1.2.1.toNat 0 z0).2.2.1 g ++ QC 23 (ru_c lw q q.1.2.1.toNat 0 z0).2.2.2.2.1.1 (ru_c lw q q.1.2.1.toNat 0 z0).2.2.2.2.1.2 (ru_c lw q q.1.2.1.toNat 0 z0).2.2.2.2.2) := by
  obtain ⟨d, rfl⟩ : ∃ e, d = e + 1 := ⟨d - 1, by omega⟩
  have hq0 := hq
  obtain ⟨hcl, hkl, hcc, hkk, hsz, hu1, hu2⟩ := hq0
  have key : ∀ (n2 m : Nat), (m : Int) + n2 = q.1.2.1 → ∀ (z : ru_S) (rv : Nat → Int) (b : Int) (s : Int → Int) (cv : Nat → Int) (cb : Int) (cs cwd rw : Int → Int) (x5 x6 x7 x8 : Option im_V), RSI v0 (20 * (m : Int)) z → rv 0 = z.2.2.1.1 → rv 3 = z.2.2.1.2 → RKO b s cb cs cwd rw → im_wp ro (ab_Ev ro ab_codes d) 6 (some .int) ab_k_X6_runAll 25 T (fun r w => r = some (.inl (match (ru_c lw q n2 (m : Int) z).1 with | none => -1 | some x => x)) ∧ ∃ rv1 b1 s1 cv1 cb1 cs1 cwd1 rw1, RKO b1 s1 cb1 cs1 cwd1 rw1 ∧ rv1 3 = (ru_c lw q n2 (m : Int) z).2.2.2.1.2 ∧ RSI v0 1000 (ru_c lw q n2 (m : Int) z).2 ∧ w = RC 0 rv1 b1 s1 cv1 cb1 cs1 cwd1 rw1 ++ XC 8 q.1 q.2.1.1 q.2.1.2 q.2.2.1 q.2.2.2 ++ LC 11 (ru_c lw q n2 (m : Int) z).2.1 (ru_c lw q n2 (m : Int) z).2.2.1 g ++ QC 23 (ru_c lw q n2 (m : Int) z).2.2.2.2.1.1 (ru_c lw q n2 (m : Int) z).2.2.2.2.1.2 (ru_c lw q n2 (m : Int) z).2.2.2.2.2) (13, [some (mr 0), some (mr 8), some (mr 11), some (mr 23), some (.inl (m : Int)), x5, x6, x7, x8], [], RC 0 rv b s cv cb cs cwd rw ++ XC 8 q.1 q.2.1.1 q.2.1.2 q.2.2.1 q.2.2.2 ++ LC 11 z.1 z.2.1 g ++ QC 23 z.2.2.2.1.1 z.2.2.2.1.2 z.2.2.2.2) := by
    intro n2
    induction n2 with
    | zero =>
      intro m hm z rv b s cv cb cs cwd rw x5 x6 x7 x8 hi h0 h3 hk
      refine im_g 3 (y := (19, _, _, _)) rfl trivial ?_
      refine im_bT rfl rfl ⟨(by omega), (by omega), trivial⟩ (by omega) ?_
      refine im_g 1 (y := (176, _, _, _)) rfl trivial ?_
      refine im_r rfl rfl trivial rfl ?_
      exact ⟨rfl, rv, b, s, cv, cb, cs, cwd, rw, hk, h3, RSI_w hi (by omega), rfl⟩
    | succ n2 ihc =>
      intro m hm z rv b s cv cb cs cwd rw x5 x6 x7 x8 hi h0 h3 hk
      have hkd := hq2 m (by omega) (by omega)
      have hp1 := tx_part_b (kl := q.2.2.1) hkk (m : Int) 1
      have inner : ∀ (n t : Nat), t + n = ru_n q (m : Int) → ∀ (z : ru_S) (rv : Nat → Int) (b : Int) (s : Int → Int) (cv : Nat → Int) (cb : Int) (cs cwd rw : Int → Int) (x8 : Option im_V), RSI v0 (20 * (m : Int) + t) z → rv 0 = z.2.2.1.1 → rv 3 = z.2.2.1.2 → RKO b s cb cs cwd rw → im_wp ro (ab_Ev ro ab_codes d) 6 (some .int) ab_k_X6_runAll 25 T (fun r w => r = some (.inl (match (ru_tc lw q n2 (m : Int) n z).1 with | none => -1 | some x => x)) ∧ ∃ rv1 b1 s1 cv1 cb1 cs1 cwd1 rw1, RKO b1 s1 cb1 cs1 cwd1 rw1 ∧ rv1 3 = (ru_tc lw q n2 (m : Int) n z).2.2.2.1.2 ∧ RSI v0 1000 (ru_tc lw q n2 (m : Int) n z).2 ∧ w = RC 0 rv1 b1 s1 cv1 cb1 cs1 cwd1 rw1 ++ XC 8 q.1 q.2.1.1 q.2.1.2 q.2.2.1 q.2.2.2 ++ LC 11 (ru_tc lw q n2 (m : Int) n z).2.1 (ru_tc lw q n2 (m : Int) n z).2.2.1 g ++ QC 23 (ru_tc lw q n2 (m : Int) n z).2.2.2.2.1.1 (ru_tc lw q n2 (m : Int) n z).2.2.2.2.1.2 (ru_tc lw q n2 (m : Int) n z).2.2.2.2.2) (48, [some (mr 0), some (mr 8), some (mr 11), some (mr 23), some (.inl (m : Int)), some (.inl (tx_part q.2.2.1 q.2.2.2 (m : Int) 0)), some (.inl (min 20 (tx_part q.2.2.1 q.2.2.2 (m : Int) 1))), some (.inl (t : Int)), x8], [], RC 0 rv b s cv cb cs cwd rw ++ XC 8 q.1 q.2.1.1 q.2.1.2 q.2.2.1 q.2.2.2 ++ LC 11 z.1 z.2.1 g ++ QC 23 z.2.2.2.1.1 z.2.2.2.1.2 z.2.2.2.2) := by
        intro n
        induction n with
        | zero =>
          intro t ht z rv b s cv cb cs cwd rw x8 hi h0 h3 hk
          unfold ru_n at ht
          refine im_g 2 (y := (52, _, _, _)) rfl trivial ?_
          refine im_bT rfl rfl ⟨(by omega), (by omega), trivial⟩ (by omega) ?_
          refine im_g 2 (y := (13, _, _, _)) rfl trivial ?_
          rw [ru_tc_0]
          exact ihc (m + 1) (by omega) z rv b s cv cb cs cwd rw _ _ _ _ (RSI_w hi (by omega)) h0 h3 hk
        | succ n ih =>
          intro t ht z rv b s cv cb cs cwd rw x8 hi h0 h3 hk
          unfold ru_n at ht
          have hi0 := hi
          obtain ⟨i1, i2, i3, i4, i5, i6, i7⟩ := hi0
          have hk0 := hk
          obtain ⟨k1, k2, k3, k4, k5, k6⟩ := hk0
          have hev : ∀ f, mc_ev q.2.1.2 q.2.1.1 25 (fw_p lw q.1.2.2 (rv 0) (rv 3) z.1 z.2.1 rw 10) (tx_part q.2.2.1 q.2.2.2 (m : Int) f) = ru_ev lw q (m : Int) f z := fun f => mc_ev_congr (fun i h1 h2 => (fw_p_at _ _ _ _ _ _ _ 10 (Nat.le_refl _) i h1 (by omega)).trans (by rw [h0, h3]))
          have hfok : WOK (fw_p lw q.1.2.2 (rv 0) (rv 3) z.1 z.2.1 rw 10) := fw_p_ok i1 (by omega) (by omega) (by omega) k6 10
          have hevb : ∀ f, -1000001000 ≤ (ru_ev lw q (m : Int) f z).1 ∧ (ru_ev lw q (m : Int) f z).1 ≤ 1000001000 := fun f => by rw [← hev f]; exact mc_ev_b hcc hfok hcl _
          have v2 := hev 2
          have v3 := hev 3
          have v4 := hev 4
          have hb2 := hevb 2
          have hb3 := hevb 3
          clear hev hevb
          generalize hE4 : ru_ev lw q (m : Int) 4 z = E4 at v4
          generalize hE2 : ru_ev lw q (m : Int) 2 z = E2 at v2 hb2
          generalize hE3 : ru_ev lw q (m : Int) 3 z = E3 at v3 hb3
          generalize hKD : tx_part q.2.2.1 q.2.2.2 (m : Int) 0 = KD at hkd ih ⊢
          have hab := (pl_act_b lw i1 KD E2.1 E3.1).1
          generalize hA : pl_act lw KD E2.1 E3.1 1 z.1 z.2.1 = A at hab
          refine im_g 2 (y := (52, _, _, _)) rfl trivial ?_
          refine im_bF rfl rfl ⟨(by omega), (by omega), trivial⟩ (by omega) ?_
          refine im_g 3 (y := (58, _, _, _)) rfl trivial ?_
          refine im_call [0,1,2,3,4,5,6,7,8,9,10,11,12,13,14,15,16,17,18,19,20,21,22] rfl rfl (c_fill (by omega) hT i1 (by omega) (LWR_5 hl i3) (rv := rv) hk hq) rfl rfl rfl (by decide) rfl (by decide) hT (fun v1 w1 hq => ?_)
          obtain ⟨rfl, cv1, cb1, cs1, cwd1, kc1, kc2, kc3, rfl⟩ := hq
          refine ⟨_, _, RC 0 rv b s cv1 cb1 cs1 cwd1 (fw_p lw q.1.2.2 (rv 0) (rv 3) z.1 z.2.1 rw 10) ++ XC 8 q.1 q.2.1.1 q.2.1.2 q.2.2.1 q.2.2.2 ++ LC 11 z.1 z.2.1 g ++ QC 23 z.2.2.2.1.1 z.2.2.2.1.2 z.2.2.2.2, rfl, rfl, rfl, ?_⟩
          refine im_g 3 (y := (65, _, _, _)) rfl trivial ?_
          refine im_call [0,1,2,3,4,5,6,7,8,9,10] rfl rfl (c_wanted (rv := rv) (cv := cv1) (cb := cb1) (cs := cs1) (cwd := cwd1) (by omega) hT k1 k2 hfok hq (c := (m : Int)) (by omega)) rfl rfl rfl (by decide) rfl (by decide) hT (fun v1 w1 hq => ?_)
          obtain ⟨rfl, b4, s4, kb4, ks4, rfl⟩ := hq
          refine ⟨_, _, RC 0 rv b4 s4 cv1 cb1 cs1 cwd1 (fw_p lw q.1.2.2 (rv 0) (rv 3) z.1 z.2.1 rw 10) ++ XC 8 q.1 q.2.1.1 q.2.1.2 q.2.2.1 q.2.2.2 ++ LC 11 z.1 z.2.1 g ++ QC 23 z.2.2.2.1.1 z.2.2.2.1.2 z.2.2.2.2, rfl, rfl, rfl, ?_⟩
          rw [v4]
          refine im_b rfl rfl ⟨(by omega), trivial⟩ (fun j1 => ?_) (fun j1 => ?_)
          · have c4 : (E4.2 = 0 ∧ ¬ E4.1 = 0) := by
              by_cases hh : (E4.2 = 0 ∧ ¬ E4.1 = 0)
              · exact hh
              · rw [if_neg hh] at j1; exact absurd rfl j1
            clear j1
            refine im_g 3 (y := (78, _, _, _)) rfl trivial ?_
            refine im_call [0,1,2,3,4,5,6,7,8,9,10] rfl rfl (c_sums (rv := rv) (cv := cv1) (cb := cb1) (cs := cs1) (cwd := cwd1) (by omega) hT kb4 ks4 hfok hq (c := (m : Int)) (by omega)) rfl rfl rfl (by decide) rfl (by decide) hT (fun v1 w1 hq => ?_)
            obtain ⟨rfl, rv1, b5, s5, kb5, ks5, ⟨r0, r3⟩, hx, rfl⟩ := hq
            refine ⟨_, _, RC 0 rv1 b5 s5 cv1 cb1 cs1 cwd1 (fw_p lw q.1.2.2 (rv 0) (rv 3) z.1 z.2.1 rw 10) ++ XC 8 q.1 q.2.1.1 q.2.1.2 q.2.2.1 q.2.2.2 ++ LC 11 z.1 z.2.1 g ++ QC 23 z.2.2.2.1.1 z.2.2.2.1.2 z.2.2.2.2, rfl, rfl, rfl, ?_⟩
            rw [v2, v3] at hx ⊢
            refine im_b rfl rfl ⟨(by omega), trivial⟩ (fun j2 => ?_) (fun j2 => ?_)
            · have c2 : (E2.2 = 0 ∧ E3.2 = 0) := by
                by_cases hh : (E2.2 = 0 ∧ E3.2 = 0)
                · exact hh
                · rw [if_neg hh] at j2; exact absurd rfl j2
              clear j2
              replace hx := hx c2
              refine im_g 1 (y := (88, _, _, _)) rfl trivial ?_
              refine im_bF rfl rfl trivial id ?_
              refine im_g 3 (y := (95, _, _, _)) rfl trivial ?_
              refine im_call [23,24,11,12,13,14,15,16,17,18,19,20,21,22] rfl rfl (c_note (by omega) hT i6 i7 (kind := KD) (rw := z.2.2.2.2) (v := z.1) (R := z.2.1) (g := g)) rfl rfl rfl (by decide) rfl (by decide) hT (fun v1 w1 hq => ?_)
              obtain ⟨rfl, rfl⟩ := hq
              refine ⟨_, _, RC 0 rv1 b5 s5 cv1 cb1 cs1 cwd1 (fw_p lw q.1.2.2 (rv 0) (rv 3) z.1 z.2.1 rw 10) ++ XC 8 q.1 q.2.1.1 q.2.1.2 q.2.2.1 q.2.2.2 ++ LC 11 z.1 z.2.1 g ++ QC 23 z.2.2.2.1.1 z.2.2.2.1.2 (pt_note (pt_at z.2.2.2.1.1 z.2.2.2.1.2) KD z.1 z.2.1 z.2.2.2.2), rfl, rfl, rfl, ?_⟩
              refine im_g 9 (y := (114, _, _, _)) rfl trivial ?_
              refine im_eqs (y := (114, [some (mr 0), some (mr 8), some (mr 11), some (mr 23), some (.inl (m : Int)), some (.inl KD), some (.inl (min 20 (tx_part q.2.2.1 q.2.2.2 (m : Int) 1))), some (.inl (t : Int)), x8], [mr 3, .inl 1, .inl E3.1, .inl E2.1, .inl KD, mr 11], RC 0 rv1 b5 s5 cv1 cb1 cs1 cwd1 (fw_p lw q.1.2.2 (rv 0) (rv 3) z.1 z.2.1 rw 10) ++ XC 8 q.1 q.2.1.1 q.2.1.2 q.2.2.1 q.2.2.2 ++ LC 11 z.1 z.2.1 g ++ QC 23 z.2.2.2.1.1 z.2.2.2.1.2 (pt_note (pt_at z.2.2.2.1.1 z.2.2.2.1.2) KD z.1 z.2.1 z.2.2.2.2))) (by rw [← hx.1, ← hx.2]; rfl) ?_
              refine im_call [11,12,13,14,15,16,17,18,19,20,21,22,3,4,5,6] rfl rfl (c_act (by omega) hT i1 (by omega) (LWR_5 hl i3) (cv := cv1) kc1 kc2 kc3 (kind := KD) (a := E2.1) (b2 := E3.1) (n := 1) hkd (by omega) (by omega) (by decide)) rfl rfl rfl (by decide) rfl (by decide) hT (fun v1 w1 hq => ?_)
              obtain ⟨rfl, cv2, cb2, cs2, cwd2, kd1, kd2, kd3, rfl⟩ := hq
              rw [hA]
              refine ⟨_, _, RC 0 rv1 b5 s5 cv2 cb2 cs2 cwd2 (fw_p lw q.1.2.2 (rv 0) (rv 3) z.1 z.2.1 rw 10) ++ XC 8 q.1 q.2.1.1 q.2.1.2 q.2.2.1 q.2.2.2 ++ LC 11 A.2.1 A.2.2 g ++ QC 23 z.2.2.2.1.1 z.2.2.2.1.2 (pt_note (pt_at z.2.2.2.1.1 z.2.2.2.1.2) KD z.1 z.2.1 z.2.2.2.2), rfl, rfl, rfl, ?_⟩
              refine im_g 2 (y := (121, _, _, _)) rfl trivial ?_
              refine im_b rfl rfl ⟨(by omega), trivial⟩ (fun j3 => ?_) (fun j3 => ?_)
              · refine im_g 1 (y := (128, _, _, _)) rfl trivial ?_
                refine im_bF rfl rfl trivial id ?_
                refine im_g 1 (y := (132, _, _, _)) rfl trivial ?_
                refine im_call [23,24] rfl rfl (c_keep (by omega) hT i6 i7 (rw := (pt_note (pt_at z.2.2.2.1.1 z.2.2.2.1.2) KD z.1 z.2.1 z.2.2.2.2))) rfl rfl rfl (by decide) rfl (by decide) hT (fun v1 w1 hq => ?_)
                obtain ⟨rfl, rfl⟩ := hq
                refine ⟨_, _, RC 0 rv1 b5 s5 cv2 cb2 cs2 cwd2 (fw_p lw q.1.2.2 (rv 0) (rv 3) z.1 z.2.1 rw 10) ++ XC 8 q.1 q.2.1.1 q.2.1.2 q.2.2.1 q.2.2.2 ++ LC 11 A.2.1 A.2.2 g ++ QC 23 (pt_keep z.2.2.2.1.1 z.2.2.2.1.2).1 (pt_keep z.2.2.2.1.1 z.2.2.2.1.2).2 (pt_note (pt_at z.2.2.2.1.1 z.2.2.2.1.2) KD z.1 z.2.1 z.2.2.2.2), rfl, rfl, rfl, ?_⟩
                refine im_g 2 (y := (138, _, _, _)) rfl trivial ?_
                refine im_b rfl rfl ⟨(by omega), trivial⟩ (fun j4 => ?_) (fun j4 => ?_)
                · refine im_g 11 (y := (48, _, _, _)) rfl trivial ?_
                  have e1 : ru_1 lw q (m : Int) z = (false, A.2.1, A.2.2, (z.2.2.1.1, z.2.2.1.2 + 1), pt_keep z.2.2.2.1.1 z.2.2.2.1.2, (pt_note (pt_at z.2.2.2.1.1 z.2.2.2.1.2) KD z.1 z.2.1 z.2.2.2.2)) := by
                    unfold ru_1
                    rw [hE4, hE2, hE3, hKD, hA]
                    rw [if_neg (fun z => z c4), if_neg (fun z => z c2), if_neg (by omega), if_neg (by omega)]
                  have hr := RSI_1 (lw := lw) (q := q) (c := (m : Int)) hi
                  rw [ru_tc_go (by rw [e1])]
                  rw [e1] at hr ⊢
                  exact ih (t + 1) (by unfold ru_n; omega) _ (pl_U (pl_U rv1 0 (rv1 0)) 3 (rv1 3 + 1)) b5 s5 cv2 cb2 cs2 cwd2 _ _ (RSI_w hr (by omega)) (r0.trans h0) (show rv1 3 + 1 = z.2.2.1.2 + 1 by omega) ⟨kb5, ks5, kd1, kd2, kd3, hfok⟩
                · refine im_g 11 (y := (48, _, _, _)) rfl trivial ?_
                  have e1 : ru_1 lw q (m : Int) z = (false, A.2.1, A.2.2, (A.1, z.2.2.1.2 + 1), pt_keep z.2.2.2.1.1 z.2.2.2.1.2, (pt_note (pt_at z.2.2.2.1.1 z.2.2.2.1.2) KD z.1 z.2.1 z.2.2.2.2)) := by
                    unfold ru_1
                    rw [hE4, hE2, hE3, hKD, hA]
                    rw [if_neg (fun z => z c4), if_neg (fun z => z c2), if_neg (by omega), if_pos (by omega)]
                  have hr := RSI_1 (lw := lw) (q := q) (c := (m : Int)) hi
                  rw [ru_tc_go (by rw [e1])]
                  rw [e1] at hr ⊢
                  exact ih (t + 1) (by unfold ru_n; omega) _ (pl_U (pl_U rv1 0 (A.1)) 3 (rv1 3 + 1)) b5 s5 cv2 cb2 cs2 cwd2 _ _ (RSI_w hr (by omega)) rfl (show rv1 3 + 1 = z.2.2.1.2 + 1 by omega) ⟨kb5, ks5, kd1, kd2, kd3, hfok⟩
              · refine im_g 1 (y := (126, _, _, _)) rfl trivial ?_
                refine im_r rfl rfl trivial rfl ?_
                have e1 : ru_1 lw q (m : Int) z = (true, A.2.1, A.2.2, z.2.2.1, z.2.2.2.1, (pt_note (pt_at z.2.2.2.1.1 z.2.2.2.1.2) KD z.1 z.2.1 z.2.2.2.2)) := by
                  unfold ru_1
                  rw [hE4, hE2, hE3, hKD, hA]
                  rw [if_neg (fun z => z c4), if_neg (fun z => z c2), if_pos (by omega)]
                have hr := RSI_1 (lw := lw) (q := q) (c := (m : Int)) hi
                rw [ru_tc_stop (by rw [e1])]
                rw [e1] at hr ⊢
                exact ⟨rfl, rv1, b5, s5, cv2, cb2, cs2, cwd2, _, ⟨kb5, ks5, kd1, kd2, kd3, hfok⟩, r3.trans h3, RSI_w hr (by omega), rfl⟩
            · have c2 : ¬ (E2.2 = 0 ∧ E3.2 = 0) := by
                intro hh
                rw [if_pos hh] at j2
                exact j2 (by decide)
              clear j2
              clear hx
              refine im_g 1 (y := (86, _, _, _)) rfl trivial ?_
              refine im_r rfl rfl trivial rfl ?_
              have e1 : ru_1 lw q (m : Int) z = (true, z) := by
                unfold ru_1
                rw [hE4, hE2, hE3]
                rw [if_neg (fun z => z c4), if_pos c2]
              rw [ru_tc_stop (by rw [e1]), e1]
              exact ⟨rfl, rv1, b5, s5, cv1, cb1, cs1, cwd1, _, ⟨kb5, ks5, kc1, kc2, kc3, hfok⟩, r3.trans h3, RSI_w hi (by omega), rfl⟩
          · have c4 : ¬ (E4.2 = 0 ∧ ¬ E4.1 = 0) := by
              intro hh
              rw [if_pos hh] at j1
              exact j1 (by decide)
            clear j1
            refine im_g 3 (y := (48, _, _, _)) rfl trivial ?_
            have e1 : ru_1 lw q (m : Int) z = (false, z) := if_pos (by rw [hE4]; exact c4)
            rw [ru_tc_go (by rw [e1]), e1]
            exact ih (t + 1) (by unfold ru_n; omega) z rv b4 s4 cv1 cb1 cs1 cwd1 _ _ (RSI_w hi (by omega)) h0 h3 ⟨kb4, ks4, kc1, kc2, kc3, hfok⟩
      refine im_g 3 (y := (19, _, _, _)) rfl trivial ?_
      refine im_bF rfl rfl ⟨(by omega), (by omega), trivial⟩ (by omega) ?_
      refine im_g 3 (y := (26, _, _, _)) rfl trivial ?_
      refine im_call [8,9,10] rfl rfl (c_part (u := q.1) (cl := q.2.1.1) (kl := q.2.2.1) (c := q.2.1.2) (k := q.2.2.2) (a := (m : Int)) (f := 0) (by omega) hT (by omega) (by decide) (by omega)) rfl rfl rfl (by decide) rfl (by decide) hT (fun v1 w1 hq => ?_)
      obtain ⟨rfl, rfl⟩ := hq
      refine ⟨_, _, RC 0 rv b s cv cb cs cwd rw ++ XC 8 q.1 q.2.1.1 q.2.1.2 q.2.2.1 q.2.2.2 ++ LC 11 z.1 z.2.1 g ++ QC 23 z.2.2.2.1.1 z.2.2.2.1.2 z.2.2.2.2, rfl, rfl, rfl, ?_⟩
      refine im_g 5 (y := (37, _, _, _)) rfl trivial ?_
      refine im_call [8,9,10] rfl rfl (c_part (u := q.1) (cl := q.2.1.1) (kl := q.2.2.1) (c := q.2.1.2) (k := q.2.2.2) (a := (m : Int)) (f := 1) (by omega) hT (by omega) (by decide) (by omega)) rfl rfl rfl (by decide) rfl (by decide) hT (fun v1 w1 hq => ?_)
      obtain ⟨rfl, rfl⟩ := hq
      refine ⟨_, _, RC 0 rv b s cv cb cs cwd rw ++ XC 8 q.1 q.2.1.1 q.2.1.2 q.2.2.1 q.2.2.2 ++ LC 11 z.1 z.2.1 g ++ QC 23 z.2.2.2.1.1 z.2.2.2.1.2 z.2.2.2.2, rfl, rfl, rfl, ?_⟩
      refine im_g 4 (y := (48, _, _, _)) rfl ⟨(by omega), (by omega), trivial⟩ ?_
      rw [ru_c_s]
      exact inner (ru_n q (m : Int)) 0 (by omega) z rv b s cv cb cs cwd rw _ (RSI_w hi (by omega)) h0 h3 hk
  refine im_ct_of (own := 6) (ret := (some .int)) (code := ab_k_X6_runAll) (nL := 9) (L0 := [some (mr 0), some (mr 8), some (mr 11), some (mr 23), none, none, none, none, none]) (n := 25) rfl rfl rfl rfl rfl rfl rfl rfl rfl ?_
  refine im_g 8 (y := (13, _, _, _)) rfl trivial ?_
  exact key q.1.2.1.toNat 0 (by omega) z0 (pl_U (pl_U rv 3 0) 0 (-1)) b s cv cb cs cwd rw none none none none (RSI_w hz (by decide)) (show (-1 : Int) = z0.2.2.1.1 by rw [hz1]) (show (0 : Int) = z0.2.2.1.2 by rw [hz1]) hk
end Ra
