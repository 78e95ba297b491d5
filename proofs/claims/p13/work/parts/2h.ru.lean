/-! orders: what runs them -/
/-- a runner: latest, firstSum, secondSum, done; its machine, its court, its words -/
def RC (o : Nat) (rv : Nat → Int) (b : Int) (s : Int → Int) (cv : Nat → Int) (cb : Int) (cs cwd rw : Int → Int) : im_W := [.inl (6, [mr (o + 1), mr (o + 3), mr (o + 7), .inl (rv 0), .inl (rv 1), .inl (rv 2), .inl (rv 3)])] ++ MC (o + 1) b s ++ CC (o + 3) cv cb cs cwd ++ [.inr (0, 25, .inl rw)]
def RKO (b : Int) (s : Int → Int) (cb : Int) (cs cwd rw : Int → Int) : Prop := (b = 0 ∨ b = 1) ∧ SOK s ∧ (cb = 0 ∨ cb = 1) ∧ SOK cs ∧ WOK cwd ∧ WOK rw
/-- the words of orders -/
def fw_cnt (v : Nat → Int) (R : Nat → Int → Int) (p : Int) : Int := if 0 ≤ p ∧ p < v 0 ∧ p < 10 then R 2 p else -1
def fw_ovr (lw : Option im_T) (u : Int) (v : Nat → Int) (R : Nat → Int → Int) (p : Int) : Int := if (0 ≤ p ∧ p < v 0 ∧ p < 10) ∧ ¬ im_and (im_shr u p) 1 = 0 then as_over lw p 0 R else -1
def fw (lw : Option im_T) (u latest done : Int) (v : Nat → Int) (R : Nat → Int → Int) : Int → Int := fun i => if i = 0 then R 7 0 else if i = 1 then done else if i = 2 then latest else if i = 3 then v 2 else if i = 4 then pl_sum (R 5) (v 1).toNat else if i < 15 then fw_cnt v R (i - 5) else fw_ovr lw u v R (i - 15)
/-- the words that stand after p parishes -/
def fw_p (lw : Option im_T) (u latest done : Int) (v : Nat → Int) (R : Nat → Int → Int) (rw : Int → Int) : Nat → Int → Int
  | 0 => im_up (im_up (im_up (im_up (im_up rw 0 (R 7 0)) 1 done) 2 latest) 3 (v 2)) 4 (pl_sum (R 5) (v 1).toNat)
  | k + 1 => im_up (im_up (fw_p lw u latest done v R rw k) (5 + (k : Int)) (fw_cnt v R k)) (15 + (k : Int)) (fw_ovr lw u v R k)
theorem fw_p_at (lw : Option im_T) (u latest done : Int) (v : Nat → Int) (R : Nat → Int → Int) (rw : Int → Int) : ∀ (k : Nat), k ≤ 10 → ∀ i, 0 ≤ i → (i < 5 + (k : Int) ∨ (15 ≤ i ∧ i < 15 + (k : Int))) → fw_p lw u latest done v R rw k i = fw lw u latest done v R i
  | 0, _, i, h1, h2 => by
    have : i = 0 ∨ i = 1 ∨ i = 2 ∨ i = 3 ∨ i = 4 := by omega
    rcases this with rfl | rfl | rfl | rfl | rfl <;> rfl
  | k + 1, hk, i, h1, h2 => by
    show im_up (im_up (fw_p lw u latest done v R rw k) (5 + (k : Int)) (fw_cnt v R k)) (15 + (k : Int)) (fw_ovr lw u v R k) i = _
    by_cases e1 : i = 15 + (k : Int)
    · rw [e1, im_up_self]
      unfold fw
      rw [if_neg (by omega), if_neg (by omega), if_neg (by omega), if_neg (by omega), if_neg (by omega), if_neg (by omega), show 15 + (k : Int) - 15 = k by omega]
    · rw [im_up_ne _ _ e1]
      by_cases e2 : i = 5 + (k : Int)
      · rw [e2, im_up_self]
        unfold fw
        rw [if_neg (by omega), if_neg (by omega), if_neg (by omega), if_neg (by omega), if_neg (by omega), if_pos (by omega), show 5 + (k : Int) - 5 = k by omega]
      · rw [im_up_ne _ _ e2]
        exact fw_p_at lw u latest done v R rw k (by omega) i h1 (by omega)
theorem fw_cnt_b {v : Nat → Int} {R : Nat → Int → Int} (h : LOK v R) (p : Int) : -1 ≤ fw_cnt v R p ∧ fw_cnt v R p ≤ 999 := by
  have := lk_cnt h p
  unfold fw_cnt
  split <;> omega
theorem fw_ovr_b (lw : Option im_T) (u : Int) (v : Nat → Int) (R : Nat → Int → Int) (p : Int) : -1 ≤ fw_ovr lw u v R p ∧ fw_ovr lw u v R p ≤ 98 := by
  have := as_over_b lw p 0 R
  unfold fw_ovr
  split <;> omega
theorem fw_p_ok {lw : Option im_T} {u latest done : Int} {v : Nat → Int} {R : Nat → Int → Int} {rw : Int → Int} (h : LOK v R) (hday : R 7 0 ≤ 100000) (hla : -1 ≤ latest ∧ latest ≤ 98) (hdn : 0 ≤ done ∧ done ≤ 1000) (hr : WOK rw) : ∀ k, WOK (fw_p lw u latest done v R rw k)
  | 0 => by
    have h1 := lk_trm h
    have h2 := lk_sea h
    have h3 := pl_sum_b (lk_siz h) (v 1).toNat
    have h4 := lk_grp h
    exact WOK_up (WOK_up (WOK_up (WOK_up (WOK_up hr (by omega)) (by omega)) (by omega)) (by omega)) (by omega)
  | k + 1 => by
    have h1 := fw_cnt_b h (k : Int)
    have h2 := fw_ovr_b lw u v R (k : Int)
    exact WOK_up (WOK_up (fw_p_ok h hday hla hdn hr k) (by omega)) (by omega)
theorem im_shr_ir (x y : Int) : im_ir (im_shr x y) := by
  unfold im_shr
  have h1 := Int32.le_toInt (Int32.ofInt x >>> (Int32.ofInt y &&& 31))
  have h2 := Int32.toInt_lt (Int32.ofInt x >>> (Int32.ofInt y &&& 31))
  exact ⟨by omega, by omega⟩
theorem im_up_up {α : Type} (f : Int → α) (k : Int) (x y : α) : im_up (im_up f k x) k y = im_up f k y := by
  funext i
  unfold im_up
  split <;> rfl
section Ru
variable {ro : ab_R} {T : List im_T} {d : Nat}
set_option maxHeartbeats 8000000 in
theorem c_fill (hd : 5 ≤ d) (hT : T.length < 1000) {v : Nat → Int} {R : Nat → Int → Int} {g : Int → Option Nat} (h : LOK v R) (hday : R 7 0 ≤ 100000) {lw : Option im_T} (hl : LWR v g T lw) {rv cv : Nat → Int} {b cb : Int} {s cs cwd rw : Int → Int} (hk : RKO b s cb cs cwd rw) {q : im_T} (hq : TXOK q) : im_ct ro T d 72 [mr 0, mr 8, mr 11] (RC 0 rv b s cv cb cs cwd rw ++ XC 8 q.1 q.2.1.1 q.2.1.2 q.2.2.1 q.2.2.2 ++ LC 11 v R g) (fun r w => r = none ∧ ∃ cv1 cb1 cs1 cwd1, (cb1 = 0 ∨ cb1 = 1) ∧ SOK cs1 ∧ WOK cwd1 ∧ w = RC 0 rv b s cv1 cb1 cs1 cwd1 (fw_p lw q.1.2.2 (rv 0) (rv 3) v R rw 10) ++ XC 8 q.1 q.2.1.1 q.2.1.2 q.2.2.1 q.2.2.2 ++ LC 11 v R g) := by
  obtain ⟨d, rfl⟩ : ∃ e, d = e + 1 := ⟨d - 1, by omega⟩
  have hp0 := lk_par h
  obtain ⟨hb, hs, hcb, hcs, hcwd, hrw⟩ := hk
  obtain ⟨-, -, -, -, -, -, hu⟩ := hq
  have key : ∀ (j m : Nat), m + j = 10 → ∀ (cv : Nat → Int) (cb : Int) (cs cwd : Int → Int), (cb = 0 ∨ cb = 1) → SOK cs → WOK cwd → im_wp ro (ab_Ev ro ab_codes d) 6 none ab_k_X6_fillWords 23 T (fun r w => r = none ∧ ∃ cv1 cb1 cs1 cwd1, (cb1 = 0 ∨ cb1 = 1) ∧ SOK cs1 ∧ WOK cwd1 ∧ w = RC 0 rv b s cv1 cb1 cs1 cwd1 (fw_p lw q.1.2.2 (rv 0) (rv 3) v R rw 10) ++ XC 8 q.1 q.2.1.1 q.2.1.2 q.2.2.1 q.2.2.2 ++ LC 11 v R g) (54, [some (mr 0), some (mr 8), some (mr 11), some (.inl (m : Int))], [], RC 0 rv b s cv cb cs cwd (fw_p lw q.1.2.2 (rv 0) (rv 3) v R rw m) ++ XC 8 q.1 q.2.1.1 q.2.1.2 q.2.2.1 q.2.2.2 ++ LC 11 v R g) := by
    intro j
    induction j with
    | zero =>
      intro m hm cv cb cs cwd hcb hcs hcwd
      refine im_g 2 (y := (57, _, _, _)) rfl trivial ?_
      refine im_bT rfl rfl ⟨(by omega), (by omega), trivial⟩ (by omega) ?_
      refine im_r rfl rfl trivial rfl ?_
      obtain rfl : m = 10 := by omega
      exact ⟨rfl, cv, cb, cs, cwd, hcb, hcs, hcwd, rfl⟩
    | succ j ih =>
      intro m hm cv cb cs cwd hcb hcs hcwd
      have hcn := lk_cnt h m
      refine im_g 2 (y := (57, _, _, _)) rfl trivial ?_
      refine im_bF rfl rfl ⟨(by omega), (by omega), trivial⟩ (by omega) ?_
      refine im_g 7 (y := (69, _, _, _)) rfl trivial ?_
      refine im_call [11,12,13,14,15,16,17,18,19,20,21,22] rfl rfl (c_has (v := v) (R := R) (g := g) (p := (m : Int)) (by omega) hT (by omega) hp0) rfl rfl rfl (by decide) rfl (by decide) hT (fun v1 w1 hq => ?_)
      obtain ⟨rfl, rfl⟩ := hq
      refine ⟨_, _, RC 0 rv b s cv cb cs cwd (fw_p lw q.1.2.2 (rv 0) (rv 3) v R rw m) ++ XC 8 q.1 q.2.1.1 q.2.1.2 q.2.2.1 q.2.2.2 ++ LC 11 v R g, rfl, rfl, rfl, ?_⟩
      refine im_b rfl rfl ⟨(by omega), trivial⟩ (fun j1 => ?_) (fun j1 => ?_)
      · refine im_g 2 (y := (86, _, _, _)) rfl ⟨(by omega), trivial⟩ ?_
        have e1 : fw_cnt v R (m : Int) = -1 := if_neg (by omega)
        refine im_eqs (y := (86, [some (mr 0), some (mr 8), some (mr 11), some (.inl (m : Int))], [], RC 0 rv b s cv cb cs cwd (im_up (fw_p lw q.1.2.2 (rv 0) (rv 3) v R rw m) (5 + (m : Int)) (fw_cnt v R m)) ++ XC 8 q.1 q.2.1.1 q.2.1.2 q.2.2.1 q.2.2.2 ++ LC 11 v R g)) (by rw [e1]; rfl) ?_
        refine im_g 9 (y := (98, _, _, _)) rfl ⟨(by omega), trivial⟩ ?_
        refine im_call [11,12,13,14,15,16,17,18,19,20,21,22] rfl rfl (c_has (v := v) (R := R) (g := g) (p := (m : Int)) (by omega) hT (by omega) hp0) rfl rfl rfl (by decide) rfl (by decide) hT (fun v1 w1 hq => ?_)
        obtain ⟨rfl, rfl⟩ := hq
        refine ⟨_, _, RC 0 rv b s cv cb cs cwd (im_up (im_up (fw_p lw q.1.2.2 (rv 0) (rv 3) v R rw m) (5 + (m : Int)) (fw_cnt v R m)) (15 + (m : Int)) (-1)) ++ XC 8 q.1 q.2.1.1 q.2.1.2 q.2.2.1 q.2.2.2 ++ LC 11 v R g, rfl, rfl, rfl, ?_⟩
        refine im_b rfl rfl ⟨(by omega), trivial⟩ (fun j2 => ?_) (fun j2 => ?_)
        · refine im_g 2 (y := (54, _, _, _)) rfl trivial ?_
          have e2 : fw_ovr lw q.1.2.2 v R (m : Int) = -1 := if_neg (fun z => by have := z.1; omega)
          have z := ih (m + 1) (by omega) cv cb cs cwd hcb hcs hcwd
          refine im_eqs (y := (54, [some (mr 0), some (mr 8), some (mr 11), some (.inl ((m : Int) + 1))], [], RC 0 rv b s cv cb cs cwd (im_up (im_up (fw_p lw q.1.2.2 (rv 0) (rv 3) v R rw m) (5 + (m : Int)) (fw_cnt v R m)) (15 + (m : Int)) (fw_ovr lw q.1.2.2 v R (m : Int))) ++ XC 8 q.1 q.2.1.1 q.2.1.2 q.2.2.1 q.2.2.2 ++ LC 11 v R g)) (by rw [e2]; rfl) ?_
          exact z
        · refine im_g 6 (y := (112, _, _, _)) rfl trivial ?_
          refine im_b rfl rfl ⟨(by exact im_and_ir _ _), trivial⟩ (fun j3 => ?_) (fun j3 => ?_)
          · refine im_g 2 (y := (54, _, _, _)) rfl trivial ?_
            have e2 : fw_ovr lw q.1.2.2 v R (m : Int) = -1 := if_neg (fun z => by exact z.2 (by assumption))
            have z := ih (m + 1) (by omega) cv cb cs cwd hcb hcs hcwd
            refine im_eqs (y := (54, [some (mr 0), some (mr 8), some (mr 11), some (.inl ((m : Int) + 1))], [], RC 0 rv b s cv cb cs cwd (im_up (im_up (fw_p lw q.1.2.2 (rv 0) (rv 3) v R rw m) (5 + (m : Int)) (fw_cnt v R m)) (15 + (m : Int)) (fw_ovr lw q.1.2.2 v R (m : Int))) ++ XC 8 q.1 q.2.1.1 q.2.1.2 q.2.2.1 q.2.2.2 ++ LC 11 v R g)) (by rw [e2]; rfl) ?_
            exact z
          · refine im_g 5 (y := (122, _, _, _)) rfl trivial ?_
            refine im_call [3,4,5,6,11,12,13,14,15,16,17,18,19,20,21,22] rfl rfl (c_ask (v := cv) (by omega) hT hcb hcs hcwd (lv := v) (R := R) (g := g) h hday hl (p := (m : Int)) (ten := 0) (by omega) (by decide)) rfl rfl rfl (by decide) rfl (by decide) hT (fun v1 w1 hq => ?_)
            obtain ⟨rfl, b1, s1, wd1, hb1, hs1, hwd1, rfl⟩ := hq
            refine ⟨_, _, RC 0 rv b s (as_v lw m 0 R) b1 s1 wd1 (im_up (im_up (fw_p lw q.1.2.2 (rv 0) (rv 3) v R rw m) (5 + (m : Int)) (fw_cnt v R m)) (15 + (m : Int)) (-1)) ++ XC 8 q.1 q.2.1.1 q.2.1.2 q.2.2.1 q.2.2.2 ++ LC 11 v R g, rfl, rfl, rfl, ?_⟩
            refine im_g 11 (y := (54, _, _, _)) rfl ⟨(by omega), trivial⟩ ?_
            have e2 : fw_ovr lw q.1.2.2 v R (m : Int) = as_over lw (m : Int) 0 R := if_pos ⟨by omega, by assumption⟩
            have z := ih (m + 1) (by omega) (as_v lw m 0 R) b1 s1 wd1 hb1 hs1 hwd1
            have e3 : im_up (im_up (im_up (fw_p lw q.1.2.2 (rv 0) (rv 3) v R rw m) (5 + (m : Int)) (fw_cnt v R m)) (15 + (m : Int)) (-1)) (15 + (m : Int)) (as_over lw (m : Int) 0 R) = im_up (im_up (fw_p lw q.1.2.2 (rv 0) (rv 3) v R rw m) (5 + (m : Int)) (fw_cnt v R m)) (15 + (m : Int)) (as_over lw (m : Int) 0 R) := im_up_up _ _ _ _
            refine im_eqs (y := (54, [some (mr 0), some (mr 8), some (mr 11), some (.inl ((m : Int) + 1))], [], RC 0 rv b s (as_v lw m 0 R) b1 s1 wd1 (im_up (im_up (im_up (fw_p lw q.1.2.2 (rv 0) (rv 3) v R rw m) (5 + (m : Int)) (fw_cnt v R m)) (15 + (m : Int)) (-1)) (15 + (m : Int)) (as_over lw (m : Int) 0 R)) ++ XC 8 q.1 q.2.1.1 q.2.1.2 q.2.2.1 q.2.2.2 ++ LC 11 v R g)) rfl ?_
            rw [e3, ← e2]
            exact z
      · refine im_g 6 (y := (86, _, _, _)) rfl ⟨(by omega), (by omega), trivial⟩ ?_
        have e1 : fw_cnt v R (m : Int) = R 2 (m : Int) := if_pos (by omega)
        refine im_eqs (y := (86, [some (mr 0), some (mr 8), some (mr 11), some (.inl (m : Int))], [], RC 0 rv b s cv cb cs cwd (im_up (fw_p lw q.1.2.2 (rv 0) (rv 3) v R rw m) (5 + (m : Int)) (fw_cnt v R m)) ++ XC 8 q.1 q.2.1.1 q.2.1.2 q.2.2.1 q.2.2.2 ++ LC 11 v R g)) (by rw [e1]; rfl) ?_
        refine im_g 9 (y := (98, _, _, _)) rfl ⟨(by omega), trivial⟩ ?_
        refine im_call [11,12,13,14,15,16,17,18,19,20,21,22] rfl rfl (c_has (v := v) (R := R) (g := g) (p := (m : Int)) (by omega) hT (by omega) hp0) rfl rfl rfl (by decide) rfl (by decide) hT (fun v1 w1 hq => ?_)
        obtain ⟨rfl, rfl⟩ := hq
        refine ⟨_, _, RC 0 rv b s cv cb cs cwd (im_up (im_up (fw_p lw q.1.2.2 (rv 0) (rv 3) v R rw m) (5 + (m : Int)) (fw_cnt v R m)) (15 + (m : Int)) (-1)) ++ XC 8 q.1 q.2.1.1 q.2.1.2 q.2.2.1 q.2.2.2 ++ LC 11 v R g, rfl, rfl, rfl, ?_⟩
        refine im_b rfl rfl ⟨(by omega), trivial⟩ (fun j4 => ?_) (fun j4 => ?_)
        · refine im_g 2 (y := (54, _, _, _)) rfl trivial ?_
          have e2 : fw_ovr lw q.1.2.2 v R (m : Int) = -1 := if_neg (fun z => by have := z.1; omega)
          have z := ih (m + 1) (by omega) cv cb cs cwd hcb hcs hcwd
          refine im_eqs (y := (54, [some (mr 0), some (mr 8), some (mr 11), some (.inl ((m : Int) + 1))], [], RC 0 rv b s cv cb cs cwd (im_up (im_up (fw_p lw q.1.2.2 (rv 0) (rv 3) v R rw m) (5 + (m : Int)) (fw_cnt v R m)) (15 + (m : Int)) (fw_ovr lw q.1.2.2 v R (m : Int))) ++ XC 8 q.1 q.2.1.1 q.2.1.2 q.2.2.1 q.2.2.2 ++ LC 11 v R g)) (by rw [e2]; rfl) ?_
          exact z
        · refine im_g 6 (y := (112, _, _, _)) rfl trivial ?_
          refine im_b rfl rfl ⟨(by exact im_and_ir _ _), trivial⟩ (fun j5 => ?_) (fun j5 => ?_)
          · refine im_g 2 (y := (54, _, _, _)) rfl trivial ?_
            have e2 : fw_ovr lw q.1.2.2 v R (m : Int) = -1 := if_neg (fun z => by exact z.2 (by assumption))
            have z := ih (m + 1) (by omega) cv cb cs cwd hcb hcs hcwd
            refine im_eqs (y := (54, [some (mr 0), some (mr 8), some (mr 11), some (.inl ((m : Int) + 1))], [], RC 0 rv b s cv cb cs cwd (im_up (im_up (fw_p lw q.1.2.2 (rv 0) (rv 3) v R rw m) (5 + (m : Int)) (fw_cnt v R m)) (15 + (m : Int)) (fw_ovr lw q.1.2.2 v R (m : Int))) ++ XC 8 q.1 q.2.1.1 q.2.1.2 q.2.2.1 q.2.2.2 ++ LC 11 v R g)) (by rw [e2]; rfl) ?_
            exact z
          · refine im_g 5 (y := (122, _, _, _)) rfl trivial ?_
            refine im_call [3,4,5,6,11,12,13,14,15,16,17,18,19,20,21,22] rfl rfl (c_ask (v := cv) (by omega) hT hcb hcs hcwd (lv := v) (R := R) (g := g) h hday hl (p := (m : Int)) (ten := 0) (by omega) (by decide)) rfl rfl rfl (by decide) rfl (by decide) hT (fun v1 w1 hq => ?_)
            obtain ⟨rfl, b1, s1, wd1, hb1, hs1, hwd1, rfl⟩ := hq
            refine ⟨_, _, RC 0 rv b s (as_v lw m 0 R) b1 s1 wd1 (im_up (im_up (fw_p lw q.1.2.2 (rv 0) (rv 3) v R rw m) (5 + (m : Int)) (fw_cnt v R m)) (15 + (m : Int)) (-1)) ++ XC 8 q.1 q.2.1.1 q.2.1.2 q.2.2.1 q.2.2.2 ++ LC 11 v R g, rfl, rfl, rfl, ?_⟩
            refine im_g 11 (y := (54, _, _, _)) rfl ⟨(by omega), trivial⟩ ?_
            have e2 : fw_ovr lw q.1.2.2 v R (m : Int) = as_over lw (m : Int) 0 R := if_pos ⟨by omega, by assumption⟩
            have z := ih (m + 1) (by omega) (as_v lw m 0 R) b1 s1 wd1 hb1 hs1 hwd1
            have e3 : im_up (im_up (im_up (fw_p lw q.1.2.2 (rv 0) (rv 3) v R rw m) (5 + (m : Int)) (fw_cnt v R m)) (15 + (m : Int)) (-1)) (15 + (m : Int)) (as_over lw (m : Int) 0 R) = im_up (im_up (fw_p lw q.1.2.2 (rv 0) (rv 3) v R rw m) (5 + (m : Int)) (fw_cnt v R m)) (15 + (m : Int)) (as_over lw (m : Int) 0 R) := im_up_up _ _ _ _
            refine im_eqs (y := (54, [some (mr 0), some (mr 8), some (mr 11), some (.inl ((m : Int) + 1))], [], RC 0 rv b s (as_v lw m 0 R) b1 s1 wd1 (im_up (im_up (im_up (fw_p lw q.1.2.2 (rv 0) (rv 3) v R rw m) (5 + (m : Int)) (fw_cnt v R m)) (15 + (m : Int)) (-1)) (15 + (m : Int)) (as_over lw (m : Int) 0 R)) ++ XC 8 q.1 q.2.1.1 q.2.1.2 q.2.2.1 q.2.2.2 ++ LC 11 v R g)) rfl ?_
            rw [e3, ← e2]
            exact z
  refine im_ct_of (own := 6) (ret := none) (code := ab_k_X6_fillWords) (nL := 4) (L0 := [some (mr 0), some (mr 8), some (mr 11), none]) (n := 23) rfl rfl rfl rfl rfl rfl rfl rfl rfl ?_
  refine im_g 30 (y := (48, _, _, _)) rfl ⟨(by omega), (by omega), (by omega), (by omega), (by omega), trivial⟩ ?_
  refine im_call [11,12,13,14,15,16,17,18,19,20,21,22] rfl rfl (c_walking (by omega) hT (g := g) h) rfl rfl rfl (by decide) rfl (by decide) hT (fun v1 w1 hq => ?_)
  obtain ⟨rfl, rfl⟩ := hq
  refine ⟨_, _, RC 0 rv b s cv cb cs cwd (im_up (im_up (im_up (im_up rw 0 (R 7 0)) 1 (rv 3)) 2 (rv 0)) 3 (v 2)) ++ XC 8 q.1 q.2.1.1 q.2.1.2 q.2.2.1 q.2.2.2 ++ LC 11 v R g, rfl, rfl, rfl, ?_⟩
  refine im_g 3 (y := (54, _, _, _)) rfl ⟨(by omega), trivial⟩ ?_
  exact key 10 0 rfl cv cb cs cwd hcb hcs hcwd
set_option maxHeartbeats 8000000 in
theorem c_wanted (hd : 3 ≤ d) (hT : T.length < 1000) {rv cv : Nat → Int} {b cb : Int} (hb : b = 0 ∨ b = 1) {s cs cwd rw : Int → Int} (hs : SOK s) (hrw : WOK rw) {q : im_T} (hq : TXOK q) {c : Int} (hc : 0 ≤ c ∧ c ≤ 100) : im_ct ro T d 70 [mr 0, mr 8, .inl c] (RC 0 rv b s cv cb cs cwd rw ++ XC 8 q.1 q.2.1.1 q.2.1.2 q.2.2.1 q.2.2.2) (fun r w => r = some (.inl (if (mc_ev q.2.1.2 q.2.1.1 25 rw (tx_part q.2.2.1 q.2.2.2 c 4)).2 = 0 ∧ ¬ (mc_ev q.2.1.2 q.2.1.1 25 rw (tx_part q.2.2.1 q.2.2.2 c 4)).1 = 0 then 1 else 0)) ∧ ∃ b1 s1, (b1 = 0 ∨ b1 = 1) ∧ SOK s1 ∧ w = RC 0 rv b1 s1 cv cb cs cwd rw ++ XC 8 q.1 q.2.1.1 q.2.1.2 q.2.2.1 q.2.2.2) := by
  obtain ⟨d, rfl⟩ : ∃ e, d = e + 1 := ⟨d - 1, by omega⟩
  obtain ⟨hcl, hkl, hcc, hkk, -⟩ := hq
  have hp := tx_part_b (kl := q.2.2.1) hkk c
  refine im_ct_of (own := 6) (ret := (some .boolean)) (code := ab_k_X6_isWanted) (nL := 4) (L0 := [some (mr 0), some (mr 8), some (.inl c), none]) (n := 11) rfl rfl rfl rfl rfl rfl rfl rfl rfl ?_
  refine im_g 6 (y := (8, _, _, _)) rfl trivial ?_
  refine im_call [8,9,10] rfl rfl (c_part (u := q.1) (cl := q.2.1.1) (kl := q.2.2.1) (c := q.2.1.2) (k := q.2.2.2) (a := c) (f := 4) (by omega) hT (by omega) (by decide) (by omega)) rfl rfl rfl (by decide) rfl (by decide) hT (fun v1 w1 hq => ?_)
  obtain ⟨rfl, rfl⟩ := hq
  refine ⟨_, _, RC 0 rv b s cv cb cs cwd rw ++ XC 8 q.1 q.2.1.1 q.2.1.2 q.2.2.1 q.2.2.2, rfl, rfl, rfl, ?_⟩
  refine im_g 2 (y := (15, _, _, _)) rfl trivial ?_
  refine im_call [1,2,8,9,10,7] rfl rfl (c_val (u := q.1) (cl := q.2.1.1) (kl := q.2.2.1) (wl := 25) (c := q.2.1.2) (k := q.2.2.2) (wd := rw) (st := tx_part q.2.2.1 q.2.2.2 c 4) (by omega) hT (hp 4) (by omega) (by decide) hcc hrw (b := b) hb (s := s) hs) rfl rfl rfl (by decide) rfl (by decide) hT (fun v1 w1 hq => ?_)
  obtain ⟨s4, hs4, rfl, rfl, hv4⟩ := hq
  refine ⟨_, _, RC 0 rv (mc_ev q.2.1.2 q.2.1.1 25 rw (tx_part q.2.2.1 q.2.2.2 c 4)).2 s4 cv cb cs cwd rw ++ XC 8 q.1 q.2.1.1 q.2.1.2 q.2.2.1 q.2.2.2, rfl, rfl, rfl, ?_⟩
  have hb4 := mc_ev_bit q.2.1.2 q.2.1.1 25 rw (tx_part q.2.2.1 q.2.2.2 c 4)
  refine im_g 4 (y := (26, _, _, _)) rfl trivial ?_
  refine im_b rfl rfl ⟨(by omega), trivial⟩ (fun j1 => ?_) (fun j1 => ?_)
  · refine im_g 1 (y := (38, _, _, _)) rfl trivial ?_
    refine im_r rfl rfl ⟨(by omega), trivial⟩ rfl ?_
    rw [if_neg (by omega)]
    exact ⟨rfl, _, s4, hb4, hs4, rfl⟩
  · refine im_g 1 (y := (30, _, _, _)) rfl trivial ?_
    refine im_b rfl rfl ⟨(by omega), trivial⟩ (fun j2 => ?_) (fun j2 => ?_)
    · refine im_g 1 (y := (38, _, _, _)) rfl trivial ?_
      refine im_r rfl rfl ⟨(by omega), trivial⟩ rfl ?_
      rw [if_neg (by omega)]
      exact ⟨rfl, _, s4, hb4, hs4, rfl⟩
    · refine im_g 2 (y := (38, _, _, _)) rfl trivial ?_
      refine im_r rfl rfl ⟨(by omega), trivial⟩ rfl ?_
      rw [if_pos (by omega)]
      exact ⟨rfl, _, s4, hb4, hs4, rfl⟩
set_option maxHeartbeats 8000000 in
theorem c_sums (hd : 3 ≤ d) (hT : T.length < 1000) {rv cv : Nat → Int} {b cb : Int} (hb : b = 0 ∨ b = 1) {s cs cwd rw : Int → Int} (hs : SOK s) (hrw : WOK rw) {q : im_T} (hq : TXOK q) {c : Int} (hc : 0 ≤ c ∧ c ≤ 100) : im_ct ro T d 71 [mr 0, mr 8, .inl c] (RC 0 rv b s cv cb cs cwd rw ++ XC 8 q.1 q.2.1.1 q.2.1.2 q.2.2.1 q.2.2.2) (fun r w => r = some (.inl (if (mc_ev q.2.1.2 q.2.1.1 25 rw (tx_part q.2.2.1 q.2.2.2 c 2)).2 = 0 ∧ (mc_ev q.2.1.2 q.2.1.1 25 rw (tx_part q.2.2.1 q.2.2.2 c 3)).2 = 0 then 1 else 0)) ∧ ∃ rv1 b1 s1, (b1 = 0 ∨ b1 = 1) ∧ SOK s1 ∧ (rv1 0 = rv 0 ∧ rv1 3 = rv 3) ∧ ((mc_ev q.2.1.2 q.2.1.1 25 rw (tx_part q.2.2.1 q.2.2.2 c 2)).2 = 0 ∧ (mc_ev q.2.1.2 q.2.1.1 25 rw (tx_part q.2.2.1 q.2.2.2 c 3)).2 = 0 → rv1 1 = (mc_ev q.2.1.2 q.2.1.1 25 rw (tx_part q.2.2.1 q.2.2.2 c 2)).1 ∧ rv1 2 = (mc_ev q.2.1.2 q.2.1.1 25 rw (tx_part q.2.2.1 q.2.2.2 c 3)).1) ∧ w = RC 0 rv1 b1 s1 cv cb cs cwd rw ++ XC 8 q.1 q.2.1.1 q.2.1.2 q.2.2.1 q.2.2.2) := by
  obtain ⟨d, rfl⟩ : ∃ e, d = e + 1 := ⟨d - 1, by omega⟩
  obtain ⟨hcl, hkl, hcc, hkk, -⟩ := hq
  have hp := tx_part_b (kl := q.2.2.1) hkk c
  refine im_ct_of (own := 6) (ret := (some .boolean)) (code := ab_k_X6_sumsAreWhole) (nL := 3) (L0 := [some (mr 0), some (mr 8), some (.inl c)]) (n := 11) rfl rfl rfl rfl rfl rfl rfl rfl rfl ?_
  refine im_g 7 (y := (9, _, _, _)) rfl trivial ?_
  refine im_call [8,9,10] rfl rfl (c_part (u := q.1) (cl := q.2.1.1) (kl := q.2.2.1) (c := q.2.1.2) (k := q.2.2.2) (a := c) (f := 2) (by omega) hT (by omega) (by decide) (by omega)) rfl rfl rfl (by decide) rfl (by decide) hT (fun v1 w1 hq => ?_)
  obtain ⟨rfl, rfl⟩ := hq
  refine ⟨_, _, RC 0 rv b s cv cb cs cwd rw ++ XC 8 q.1 q.2.1.1 q.2.1.2 q.2.2.1 q.2.2.2, rfl, rfl, rfl, ?_⟩
  refine im_g 2 (y := (16, _, _, _)) rfl trivial ?_
  refine im_call [1,2,8,9,10,7] rfl rfl (c_val (u := q.1) (cl := q.2.1.1) (kl := q.2.2.1) (wl := 25) (c := q.2.1.2) (k := q.2.2.2) (wd := rw) (st := tx_part q.2.2.1 q.2.2.2 c 2) (by omega) hT (hp 2) (by omega) (by decide) hcc hrw (b := b) hb (s := s) hs) rfl rfl rfl (by decide) rfl (by decide) hT (fun v1 w1 hq => ?_)
  obtain ⟨s2, hs2, rfl, rfl, hv2⟩ := hq
  refine ⟨_, _, RC 0 rv (mc_ev q.2.1.2 q.2.1.1 25 rw (tx_part q.2.2.1 q.2.2.2 c 2)).2 s2 cv cb cs cwd rw ++ XC 8 q.1 q.2.1.1 q.2.1.2 q.2.2.1 q.2.2.2, rfl, rfl, rfl, ?_⟩
  have hb2 := mc_ev_bit q.2.1.2 q.2.1.1 25 rw (tx_part q.2.2.1 q.2.2.2 c 2)
  refine im_g 4 (y := (29, _, _, _)) rfl trivial ?_
  refine im_b rfl rfl ⟨(by omega), trivial⟩ (fun j1 => ?_) (fun j1 => ?_)
  · refine im_g 7 (y := (43, _, _, _)) rfl trivial ?_
    refine im_call [8,9,10] rfl rfl (c_part (u := q.1) (cl := q.2.1.1) (kl := q.2.2.1) (c := q.2.1.2) (k := q.2.2.2) (a := c) (f := 3) (by omega) hT (by omega) (by decide) (by omega)) rfl rfl rfl (by decide) rfl (by decide) hT (fun v1 w1 hq => ?_)
    obtain ⟨rfl, rfl⟩ := hq
    refine ⟨_, _, RC 0 (pl_U rv 1 (mc_ev q.2.1.2 q.2.1.1 25 rw (tx_part q.2.2.1 q.2.2.2 c 2)).1) (mc_ev q.2.1.2 q.2.1.1 25 rw (tx_part q.2.2.1 q.2.2.2 c 2)).2 s2 cv cb cs cwd rw ++ XC 8 q.1 q.2.1.1 q.2.1.2 q.2.2.1 q.2.2.2, rfl, rfl, rfl, ?_⟩
    refine im_g 2 (y := (50, _, _, _)) rfl trivial ?_
    refine im_call [1,2,8,9,10,7] rfl rfl (c_val (u := q.1) (cl := q.2.1.1) (kl := q.2.2.1) (wl := 25) (c := q.2.1.2) (k := q.2.2.2) (wd := rw) (st := tx_part q.2.2.1 q.2.2.2 c 3) (by omega) hT (hp 3) (by omega) (by decide) hcc hrw (b := (mc_ev q.2.1.2 q.2.1.1 25 rw (tx_part q.2.2.1 q.2.2.2 c 2)).2) hb2 (s := s2) hs2) rfl rfl rfl (by decide) rfl (by decide) hT (fun v1 w1 hq => ?_)
    obtain ⟨s3, hs3, rfl, rfl, hv3⟩ := hq
    refine ⟨_, _, RC 0 (pl_U rv 1 (mc_ev q.2.1.2 q.2.1.1 25 rw (tx_part q.2.2.1 q.2.2.2 c 2)).1) (mc_ev q.2.1.2 q.2.1.1 25 rw (tx_part q.2.2.1 q.2.2.2 c 3)).2 s3 cv cb cs cwd rw ++ XC 8 q.1 q.2.1.1 q.2.1.2 q.2.2.1 q.2.2.2, rfl, rfl, rfl, ?_⟩
    have hb3 := mc_ev_bit q.2.1.2 q.2.1.1 25 rw (tx_part q.2.2.1 q.2.2.2 c 3)
    refine im_g 4 (y := (63, _, _, _)) rfl trivial ?_
    refine im_b rfl rfl ⟨(by omega), trivial⟩ (fun j2 => ?_) (fun j2 => ?_)
    · refine im_g 1 (y := (71, _, _, _)) rfl trivial ?_
      refine im_r rfl rfl ⟨(by omega), trivial⟩ rfl ?_
      rw [if_neg (by omega)]
      exact ⟨rfl, (pl_U (pl_U rv 1 (mc_ev q.2.1.2 q.2.1.1 25 rw (tx_part q.2.2.1 q.2.2.2 c 2)).1) 2 (mc_ev q.2.1.2 q.2.1.1 25 rw (tx_part q.2.2.1 q.2.2.2 c 3)).1), _, s3, hb3, hs3, ⟨rfl, rfl⟩, fun z => ⟨rfl, rfl⟩, rfl⟩
    · refine im_g 2 (y := (71, _, _, _)) rfl trivial ?_
      refine im_r rfl rfl ⟨(by omega), trivial⟩ rfl ?_
      rw [if_pos (by omega)]
      exact ⟨rfl, (pl_U (pl_U rv 1 (mc_ev q.2.1.2 q.2.1.1 25 rw (tx_part q.2.2.1 q.2.2.2 c 2)).1) 2 (mc_ev q.2.1.2 q.2.1.1 25 rw (tx_part q.2.2.1 q.2.2.2 c 3)).1), _, s3, hb3, hs3, ⟨rfl, rfl⟩, fun z => ⟨rfl, rfl⟩, rfl⟩
  · refine im_g 1 (y := (33, _, _, _)) rfl trivial ?_
    refine im_r rfl rfl ⟨(by omega), trivial⟩ rfl ?_
    rw [if_neg (by omega)]
    exact ⟨rfl, (pl_U rv 1 (mc_ev q.2.1.2 q.2.1.1 25 rw (tx_part q.2.2.1 q.2.2.2 c 2)).1), _, s2, hb2, hs2, ⟨rfl, rfl⟩, fun z => absurd z.1 (by omega), rfl⟩
end Ru
