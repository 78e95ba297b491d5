/-! paper: the way to the sea, what is heard, lent, drawn -/
def st_sum (lw : Option im_T) (v : Nat → Int) (R : Nat → Int → Int) : Nat → Int → Int
  | 0, _ => 0
  | n + 1, p => if 0 ≤ p ∧ p < v 0 ∧ p < 10 then as_steps lw p 0 R + st_sum lw v R n (R 0 p) else 0
theorem st_sum_b (lw : Option im_T) (v : Nat → Int) (R : Nat → Int → Int) : ∀ n p, 0 ≤ st_sum lw v R n p ∧ st_sum lw v R n p ≤ 9 * n
  | 0, _ => ⟨Int.le_refl _, Int.le_refl _⟩
  | n + 1, p => by
    have h := as_steps_b lw p 0 R
    have ih := st_sum_b lw v R n (R 0 p)
    unfold st_sum
    split <;> omega
/-- what is heard is so -/
def hd_all (ov : Int → Int) (v : Nat → Int) (R : Nat → Int → Int) : Nat → Bool
  | 0 => true
  | k + 1 => hd_all ov v R k && decide (ov (R 8 k) = R 9 k)
/-- the least lending: (what each has with those above, how many from each down, together) -/
abbrev lt_Q : Type := (Int → Int) × (Int → Int) × Int
def lt_dn (by_ rest : Int) : Int := if rest ≤ by_ - rest then rest else rest - by_
def lt_1 (by_ p : Int) (v : Nat → Int) (R : Nat → Int → Int) (q : lt_Q) : lt_Q := ((if 0 ≤ R 0 p ∧ R 0 p < v 0 ∧ R 0 p < 10 then im_up q.1 (R 0 p) (q.1 (R 0 p) + q.1 p) else q.1), im_up q.2.1 p (lt_dn by_ (q.1 p % by_)), q.2.2 + max (lt_dn by_ (q.1 p % by_)) (-lt_dn by_ (q.1 p % by_)))
def lt_bad (by_ p : Int) (v : Nat → Int) (R : Nat → Int → Int) (q : lt_Q) : Prop := ¬ (0 ≤ R 0 p ∧ R 0 p < v 0 ∧ R 0 p < 10) ∧ ¬ q.1 p % by_ = 0
def dr_next (s : Int) : Int := (s * 1103 + 12345) % 1000003
section Pp
variable {ro : ab_R} {T : List im_T} {d : Nat}
set_option maxHeartbeats 8000000 in
theorem c_drawn (hd : 1 ≤ d) (hT : T.length < 1000) {s : Int} (hs : 0 ≤ s ∧ s ≤ 1000003) : im_ct ro T d 35 [.inl s] ([]) (fun r w => r = some (.inl (dr_next s)) ∧ w = []) := by
  obtain ⟨d, rfl⟩ : ∃ e, d = e + 1 := ⟨d - 1, by omega⟩
  refine im_ct_of (own := 3) (ret := (some .int)) (code := ab_k_X3_drawnNext) (nL := 1) (L0 := [some (.inl s)]) (n := 0) rfl rfl rfl rfl rfl rfl rfl rfl rfl ?_
  refine im_g 9 (y := (15, _, _, _)) rfl ⟨(by omega), (by omega), (by omega), (by omega), trivial⟩ ?_
  refine im_r rfl rfl trivial rfl ?_
  have e : (s * 1103 + 12345).tmod 1000003 = (s * 1103 + 12345) % 1000003 := Int.tmod_eq_emod_of_nonneg (by omega)
  unfold dr_next
  rw [e]
  exact ⟨rfl, rfl⟩
set_option maxHeartbeats 4000000 in
theorem c_toSea (hd : 5 ≤ d) (hT : T.length < 1000) {v : Nat → Int} {R : Nat → Int → Int} {g : Int → Option Nat} (h : LOK v R) (hday : R 7 0 ≤ 100000) (hg : GV g T) {lw : Option im_T} (hl : LWR v g T lw) {pv cv : Nat → Int} {b : Int} {s wd : Int → Int} {sv : Nat → Int} {sR : Nat → Int → Int} {sg : Int → Option Nat} {PR : Nat → Int → Int} (hb : b = 0 ∨ b = 1) (hs : SOK s) (hwd : WOK wd) {p0 : Int} (hp0 : -1 ≤ p0 ∧ p0 ≤ 9) : im_ct ro T d 21 [mr 0, mr 24, .inl p0] (PC 0 pv cv b s wd sv sR sg PR ++ LC 24 v R g) (fun r w => r = some (.inl (st_sum lw v R 10 p0)) ∧ ∃ cv1 b1 s1 wd1, (b1 = 0 ∨ b1 = 1) ∧ SOK s1 ∧ WOK wd1 ∧ w = PC 0 pv cv1 b1 s1 wd1 sv sR sg PR ++ LC 24 v R g) := by
  obtain ⟨d, rfl⟩ : ∃ e, d = e + 1 := ⟨d - 1, by omega⟩
  have hpar := lk_par h
  have key : ∀ (n i : Nat), i + n = 10 → ∀ (a p : Int) (cv : Nat → Int) (b : Int) (s wd : Int → Int), 0 ≤ a → a ≤ 9 * i → -1 ≤ p → p ≤ 9 → (b = 0 ∨ b = 1) → SOK s → WOK wd → im_wp ro (ab_Ev ro ab_codes d) 3 (some .int) ab_k_X3_stepsToSea 36 T (fun r w => r = some (.inl (a + st_sum lw v R n p)) ∧ ∃ cv1 b1 s1 wd1, (b1 = 0 ∨ b1 = 1) ∧ SOK s1 ∧ WOK wd1 ∧ w = PC 0 pv cv1 b1 s1 wd1 sv sR sg PR ++ LC 24 v R g) (8, [some (mr 0), some (mr 24), some (.inl p0), some (.inl a), some (.inl p), some (.inl (i : Int))], [], PC 0 pv cv b s wd sv sR sg PR ++ LC 24 v R g) := by
    intro n
    induction n with
    | zero =>
      intro i hi a p cv b s wd h1 h2 h3 h4 hb hs hwd
      refine im_g 2 (y := (12, _, _, _)) rfl trivial ?_
      refine im_bT rfl rfl ⟨(by omega), (by omega), trivial⟩ (by omega) ?_
      refine im_g 1 (y := (61, _, _, _)) rfl trivial ?_
      refine im_r rfl rfl trivial rfl ?_
      refine ⟨congrArg (fun z => some (Sum.inl z)) ?_, cv, b, s, wd, hb, hs, hwd, rfl⟩
      show a = a + 0
      omega
    | succ n ih =>
      intro i hi a p cv b s wd h1 h2 h3 h4 hb hs hwd
      have hsp := as_steps_b lw p 0 R
      have hbl := lk_bel h p
      refine im_g 2 (y := (12, _, _, _)) rfl trivial ?_
      refine im_bF rfl rfl ⟨(by omega), (by omega), trivial⟩ (by omega) ?_
      refine im_g 2 (y := (18, _, _, _)) rfl trivial ?_
      refine im_call [24,25,26,27,28,29,30,31,32,33,34,35] rfl rfl (c_has (v := v) (R := R) (g := g) (p := p) (by omega) hT (by omega) hpar) rfl rfl rfl (by decide) rfl (by decide) hT (fun v1 w1 hq => ?_)
      obtain ⟨rfl, rfl⟩ := hq
      refine ⟨_, _, PC 0 pv cv b s wd sv sR sg PR ++ LC 24 v R g, rfl, rfl, rfl, ?_⟩
      refine im_b rfl rfl ⟨(by omega), trivial⟩ (fun j1 => ?_) (fun j1 => ?_)
      · have hp9 : ¬ (0 ≤ p ∧ p < v 0 ∧ p < 10) := by
          intro hh
          rw [if_pos hh] at j1; exact absurd j1 (by decide)
        clear j1
        refine im_g 1 (y := (61, _, _, _)) rfl trivial ?_
        refine im_r rfl rfl trivial rfl ?_
        refine ⟨congrArg (fun z => some (Sum.inl z)) ?_, cv, b, s, wd, hb, hs, hwd, rfl⟩
        rw [show st_sum lw v R (n + 1) p = 0 from if_neg hp9]
        omega
      · have hp9 : (0 ≤ p ∧ p < v 0 ∧ p < 10) := by
          by_cases hh : (0 ≤ p ∧ p < v 0 ∧ p < 10)
          · exact hh
          · rw [if_neg hh] at j1; exact absurd rfl j1
        clear j1
        refine im_g 5 (y := (32, _, _, _)) rfl trivial ?_
        refine im_call [1,2,3,4,24,25,26,27,28,29,30,31,32,33,34,35] rfl rfl (c_ask (v := cv) (by omega) hT hb hs hwd (lv := v) (R := R) (g := g) h hday hl (p := p) (ten := 0) (by omega) (by decide)) rfl rfl rfl (by decide) rfl (by decide) hT (fun v1 w1 hq => ?_)
        obtain ⟨rfl, b1, s1, wd1, hb1, hs1, hwd1, rfl⟩ := hq
        refine ⟨_, _, PC 0 pv (as_v lw p 0 R) b1 s1 wd1 sv sR sg PR ++ LC 24 v R g, rfl, rfl, rfl, ?_⟩
        refine im_g 13 (y := (8, _, _, _)) rfl ⟨(by omega), trivial⟩ ?_
        rw [show st_sum lw v R (n + 1) p = as_steps lw p 0 R + st_sum lw v R n (R 0 p) from if_pos hp9, ← Int.add_assoc]
        exact ih (i + 1) (by omega) (a + as_steps lw p 0 R) (R 0 p) (as_v lw p 0 R) b1 s1 wd1 (by omega) (by omega) (by omega) (by omega) hb1 hs1 hwd1
  refine im_ct_of (own := 3) (ret := (some .int)) (code := ab_k_X3_stepsToSea) (nL := 6) (L0 := [some (mr 0), some (mr 24), some (.inl p0), none, none, none]) (n := 36) rfl rfl rfl rfl rfl rfl rfl rfl rfl ?_
  refine im_g 6 (y := (8, _, _, _)) rfl trivial ?_
  rw [show st_sum lw v R 10 p0 = 0 + st_sum lw v R 10 p0 by omega]
  exact key 10 0 rfl 0 p0 cv b s wd (by omega) (by omega) (by omega) (by omega) hb hs hwd
end Pp
