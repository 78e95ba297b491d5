/-! paper: parts by days -/
theorem po_b {h b r : Int} (hh : 0 ≤ h ∧ h ≤ 1000000000000) (hb : 0 ≤ b ∧ b ≤ 1000000000000) (hr : 0 ≤ r ∧ r ≤ 10) : 0 ≤ h * (10 - r) + b * r ∧ h * (10 - r) + b * r ≤ 10000000000000 := by
  have e : r = 0 ∨ r = 1 ∨ r = 2 ∨ r = 3 ∨ r = 4 ∨ r = 5 ∨ r = 6 ∨ r = 7 ∨ r = 8 ∨ r = 9 ∨ r = 10 := by omega
  rcases e with rfl | rfl | rfl | rfl | rfl | rfl | rfl | rfl | rfl | rfl | rfl <;> omega
theorem po_d {h b r : Int} (hh : 0 ≤ h ∧ h ≤ 1000000000000) (hb : 0 ≤ b ∧ b ≤ 1000000000000) (hr : 0 ≤ r ∧ r ≤ 10) : 0 ≤ (h * (10 - r) + b * r).tdiv 10 ∧ (h * (10 - r) + b * r).tdiv 10 ≤ 1000000000000 := by
  have t := po_b hh hb hr
  rw [Int.tdiv_eq_ediv_of_nonneg t.1]
  omega
def CB9 (f : Int → Int) (n : Int) : Prop := ∀ i, 0 ≤ i → i < n → 0 ≤ f i ∧ f i ≤ 1000000000000
theorem CB9_up {f : Int → Int} {n k x : Int} (h : CB9 f n) (hx : 0 ≤ x ∧ x ≤ 1000000000000) : CB9 (im_up f k x) n := by
  intro i q1 q2
  unfold im_up
  split
  · exact hx
  · exact h i q1 q2
theorem CB9_s {f : Int → Int} {n x : Int} (h : CB9 f n) (hx : 0 ≤ x ∧ x ≤ 1000000000000) : CB9 (im_up f n x) (n + 1) := by
  intro i q1 q2
  unfold im_up
  split
  · exact hx
  · exact h i q1 (by omega)
theorem PKO_4 {b b1 : Int} {s s1 wd wd1 : Int → Int} {sv : Nat → Int} {sR PR : Nat → Int → Int} (h : PKO b s wd sv sR PR) (hb : b1 = 0 ∨ b1 = 1) (hs : SOK s1) (hw : WOK wd1) {f : Int → Int} (hf : ∀ i, -1000000 ≤ f i ∧ f i ≤ 1000000000000) : PKO b1 s1 wd1 sv sR (pl_U PR 4 f) := by
  obtain ⟨h1, h2, h3, h4, h5, h6⟩ := h
  refine ⟨hb, hs, hw, h4, h5, fun r i => ?_⟩
  unfold pl_U
  split
  · exact hf i
  · exact h6 r i
theorem PKO_x {b b1 : Int} {s s1 wd wd1 : Int → Int} {sv : Nat → Int} {sR PR PRx : Nat → Int → Int} (h : PKO b s wd sv sR PR) (hb : b1 = 0 ∨ b1 = 1) (hs : SOK s1) (hw : WOK wd1) (hP : ∀ j, j ≠ 4 → PRx j = PR j) (hf : ∀ i, -1000000 ≤ PRx 4 i ∧ PRx 4 i ≤ 1000000000000) : PKO b1 s1 wd1 sv sR PRx := by
  obtain ⟨h1, h2, h3, h4, h5, h6⟩ := h
  refine ⟨hb, hs, hw, h4, h5, fun r i => ?_⟩
  by_cases e : r = 4
  · subst e; exact hf i
  · rw [hP r e]; exact h6 r i
section Po
variable {ro : ab_R} {T : List im_T} {d : Nat}
set_option maxHeartbeats 8000000 in
theorem c_parts (hd : 6 ≤ d) (hT : T.length < 1000) {v : Nat → Int} {R : Nat → Int → Int} {g : Int → Option Nat} (h : LOK v R) (hday : R 7 0 ≤ 100000) (hg : GV g T) {lw : Option im_T} (hl : LWR v g T lw) {pv cv : Nat → Int} {b : Int} {s wd : Int → Int} {sv : Nat → Int} {sR : Nat → Int → Int} {sg : Int → Option Nat} {PR : Nat → Int → Int} (hk : PKO b s wd sv sR PR) {p n ov : Int} (hp : 0 ≤ p ∧ p < v 0) (hn : 0 ≤ n ∧ n ≤ 60) (hov : 0 ≤ ov ∧ ov ≤ 98) : im_ct ro T d 26 [mr 0, mr 24, .inl p, .inl n, .inl ov] (PC 0 pv cv b s wd sv sR sg PR ++ LC 24 v R g) (fun r w => ∃ z PR1 cv1 b1 s1 wd1, r = some (.inr (.inl z)) ∧ PKO b1 s1 wd1 sv sR PR1 ∧ (∀ j, j ≠ 4 → PR1 j = PR j) ∧ w = PC 0 pv cv1 b1 s1 wd1 sv sR sg PR1 ++ LC 24 v R g) := by
  obtain ⟨d, rfl⟩ : ∃ e, d = e + 1 := ⟨d - 1, by omega⟩
  obtain ⟨hb, hs, hwd, hsh, hs6, hpr⟩ := id hk
  have hrt := lk_trm h
  have htb := as_tens_b lw p 0 R
  have hob := as_over_b lw p 0 R
  refine im_ct_of (own := 3) (ret := (some .long)) (code := ab_k_X3_partsOver) (nL := 13) (L0 := [some (mr 0), some (mr 24), some (.inl p), some (.inl n), some (.inl ov), none, none, none, none, none, none, none, none]) (n := 36) rfl rfl rfl rfl rfl rfl rfl rfl rfl ?_
  refine im_g 5 (y := (7, _, _, _)) rfl trivial ?_
  refine im_call [1,2,3,4,24,25,26,27,28,29,30,31,32,33,34,35] rfl rfl (c_ask (v := cv) (by omega) hT hb hs hwd (lv := v) (R := R) (g := g) h hday hl (p := p) (ten := 0) hp (by decide)) rfl rfl rfl (by decide) rfl (by decide) hT (fun v1 w1 hq => ?_)
  obtain ⟨rfl, b1, s1, wd1, hb1, hs1, hwd1, rfl⟩ := hq
  refine ⟨_, _, PC 0 pv (as_v lw p 0 R) b1 s1 wd1 sv sR sg PR ++ LC 24 v R g, rfl, rfl, rfl, ?_⟩
  refine im_g 10 (y := (30, _, _, _)) rfl ⟨(by first | omega | (show im_ir (as_tens lw p 0 R); constructor <;> omega)), (by first | omega | (show im_ir (as_tens lw p 0 R); constructor <;> omega)), trivial⟩ ?_
  refine im_eqs (y := (30, [some (mr 0), some (mr 24), some (.inl p), some (.inl n), some (.inl ov), some (.inl (as_tens lw p 0 R)), some (.inl 0), none, none, none, none, none, none], [], PC 0 pv (as_v lw p 0 R) b1 s1 wd1 sv sR sg PR ++ LC 24 v R g)) (congrArg (fun z => ((30, [some (mr 0), some (mr 24), some (.inl p), some (.inl n), some (.inl ov), some (.inl z), some (.inl 0), none, none, none, none, none, none], [], PC 0 pv (as_v lw p 0 R) b1 s1 wd1 sv sR sg PR ++ LC 24 v R g) : im_S)) (show min (as_tens lw p 0 R) ((99 : Nat) : Int) = as_tens lw p 0 R by omega)) ?_
  have kd : ∀ (j m : Nat), (m : Int) + j = n → ∀ (PRx : Nat → Int → Int) (x8 x10 x11 : Option im_V), CB9 (PRx 4) 99 → (∀ j, j ≠ 4 → PRx j = PR j) → (∀ i, -1000000 ≤ PRx 4 i ∧ PRx 4 i ≤ 1000000000000) → im_wp ro (ab_Ev ro ab_codes d) 3 (some .long) ab_k_X3_partsOver 36 T (fun r w => ∃ z PR1 cv1 b1 s1 wd1, r = some (.inr (.inl z)) ∧ PKO b1 s1 wd1 sv sR PR1 ∧ (∀ j, j ≠ 4 → PR1 j = PR j) ∧ w = PC 0 pv cv1 b1 s1 wd1 sv sR sg PR1 ++ LC 24 v R g) (83, [some (mr 0), some (mr 24), some (.inl p), some (.inl n), some (.inl ov), some (.inl (as_tens lw p 0 R)), some (.inl (R 7 2)), some (.inl (m : Int)), x8, none, x10, x11, none], [], PC 0 pv (as_v lw p 0 R) b1 s1 wd1 sv sR sg PRx ++ LC 24 v R g) := by
    intro j
    induction j with
    | zero =>
      intro m hm PRx x8 x10 x11 hC hP hB
      refine im_g 2 (y := (86, _, _, _)) rfl trivial ?_
      refine im_bT rfl rfl ⟨(by omega), (by omega), trivial⟩ (by omega) ?_
      refine im_g 4 (y := (169, _, _, _)) rfl trivial ?_
      refine im_bF rfl rfl ⟨(by omega), (by omega), trivial⟩ (by omega) ?_
      refine im_g 5 (y := (183, _, _, _)) rfl ⟨(by omega), trivial⟩ ?_
      refine im_r rfl rfl trivial rfl ?_
      exact ⟨_, PRx, _, b1, s1, wd1, rfl, PKO_x hk hb1 hs1 hwd1 hP hB, hP, rfl⟩
    | succ j ih =>
      intro m hm PRx x8 x10 x11 hC hP hB
      have ki : ∀ (q k : Nat), (k : Int) + q = as_tens lw p 0 R → ∀ (PRx : Nat → Int → Int) (bf : Int) (x11 : Option im_V), CB9 (PRx 4) 99 → (∀ j, j ≠ 4 → PRx j = PR j) → (∀ i, -1000000 ≤ PRx 4 i ∧ PRx 4 i ≤ 1000000000000) → (0 ≤ bf ∧ bf ≤ 1000000000000) → im_wp ro (ab_Ev ro ab_codes d) 3 (some .long) ab_k_X3_partsOver 36 T (fun r w => ∃ z PR1 cv1 b1 s1 wd1, r = some (.inr (.inl z)) ∧ PKO b1 s1 wd1 sv sR PR1 ∧ (∀ j, j ≠ 4 → PR1 j = PR j) ∧ w = PC 0 pv cv1 b1 s1 wd1 sv sR sg PR1 ++ LC 24 v R g) (103, [some (mr 0), some (mr 24), some (.inl p), some (.inl n), some (.inl ov), some (.inl (as_tens lw p 0 R)), some (.inl (R 7 2)), some (.inl (m : Int)), some (.inr (.inl bf)), none, some (.inl (k : Int)), x11, none], [], PC 0 pv (as_v lw p 0 R) b1 s1 wd1 sv sR sg PRx ++ LC 24 v R g) := by
        intro q
        induction q with
        | zero =>
          intro k hk9 PRx bf x11 hC hP hB hbf
          refine im_g 2 (y := (107, _, _, _)) rfl trivial ?_
          refine im_bT rfl rfl ⟨(by omega), (by omega), trivial⟩ (by omega) ?_
          refine im_g 2 (y := (83, _, _, _)) rfl trivial ?_
          exact ih (m + 1) (by omega) PRx _ _ _ hC hP hB
        | succ q ihq =>
          intro k hk9 PRx bf x11 hC hP hB hbf
          have hh := hC (k : Int) (by omega) (by omega)
          have hpb := po_b (h := PRx 4 (k : Int)) (b := bf) (r := R 7 2) hh hbf (by omega)
          have hpd := po_d (h := PRx 4 (k : Int)) (b := bf) (r := R 7 2) hh hbf (by omega)
          refine im_g 2 (y := (107, _, _, _)) rfl trivial ?_
          refine im_bF rfl rfl ⟨(by omega), (by omega), trivial⟩ (by omega) ?_
          refine im_g 26 (y := (103, _, _, _)) rfl ⟨(by omega), (by omega), (by omega), (by omega), (by omega), (by omega), (by omega), trivial⟩ ?_
          exact ihq (k + 1) (by omega) (pl_U PRx 4 (im_up (PRx 4) (k : Int) ((PRx 4 (k : Int) * (10 - R 7 2) + bf * R 7 2).tdiv 10))) (PRx 4 (k : Int)) _ (CB9_up hC hpd) (fun j hj => (if_neg hj).trans (hP j hj)) (im_up_b hB (by omega)) hh
      have hbf := hC (as_tens lw p 0 R - 1) (by omega) (by omega)
      refine im_g 2 (y := (86, _, _, _)) rfl trivial ?_
      refine im_bF rfl rfl ⟨(by omega), (by omega), trivial⟩ (by omega) ?_
      refine im_g 9 (y := (103, _, _, _)) rfl ⟨(by omega), trivial⟩ ?_
      exact ki (as_tens lw p 0 R).toNat 0 (by omega) PRx _ x11 hC hP hB hbf
  have ka : ∀ (j k : Nat), k + j = 99 → ∀ (PRx : Nat → Int → Int), CB9 (PRx 4) (k : Int) → (∀ j, j ≠ 4 → PRx j = PR j) → (∀ i, -1000000 ≤ PRx 4 i ∧ PRx 4 i ≤ 1000000000000) → im_wp ro (ab_Ev ro ab_codes d) 3 (some .long) ab_k_X3_partsOver 36 T (fun r w => ∃ z PR1 cv1 b1 s1 wd1, r = some (.inr (.inl z)) ∧ PKO b1 s1 wd1 sv sR PR1 ∧ (∀ j, j ≠ 4 → PR1 j = PR j) ∧ w = PC 0 pv cv1 b1 s1 wd1 sv sR sg PR1 ++ LC 24 v R g) (30, [some (mr 0), some (mr 24), some (.inl p), some (.inl n), some (.inl ov), some (.inl (as_tens lw p 0 R)), some (.inl (k : Int)), none, none, none, none, none, none], [], PC 0 pv (as_v lw p 0 R) b1 s1 wd1 sv sR sg PRx ++ LC 24 v R g) := by
    intro j
    induction j with
    | zero =>
      intro k hk9 PRx hC hP hB
      obtain rfl : k = 99 := by omega
      refine im_g 4 (y := (37, _, _, _)) rfl trivial ?_
      refine im_bT rfl rfl ⟨(by omega), (by omega), trivial⟩ (by omega) ?_
      refine im_g 7 (y := (83, _, _, _)) rfl ⟨(by omega), trivial⟩ ?_
      exact kd n.toNat 0 (by omega) PRx none none none hC hP hB
    | succ j ih =>
      intro k hk9 PRx hC hP hB
      refine im_g 4 (y := (37, _, _, _)) rfl trivial ?_
      refine im_bF rfl rfl ⟨(by omega), (by omega), trivial⟩ (by omega) ?_
      refine im_g 7 (y := (55, _, _, _)) rfl trivial ?_
      refine im_b rfl rfl ⟨(by first | omega | (show im_ir (as_over lw p 0 R); constructor <;> omega)), (by first | omega | (show im_ir (as_over lw p 0 R); constructor <;> omega)), trivial⟩ (fun j1 => ?_) (fun j1 => ?_)
      · refine im_g 4 (y := (30, _, _, _)) rfl ⟨(by omega), trivial⟩ ?_
        exact ih (k + 1) (by omega) (pl_U PRx 4 (im_up (PRx 4) (k : Int) 0)) (CB9_s hC (by decide)) (fun j hj => (if_neg hj).trans (hP j hj)) (im_up_b hB (by decide))
      · refine im_g 5 (y := (30, _, _, _)) rfl ⟨(by omega), trivial⟩ ?_
        exact ih (k + 1) (by omega) (pl_U PRx 4 (im_up (PRx 4) (k : Int) 1000000000000)) (CB9_s hC (by decide)) (fun j hj => (if_neg hj).trans (hP j hj)) (im_up_b hB (by decide))
  exact ka 99 0 rfl PR (fun i q1 q2 => absurd q1 (by omega)) (fun _ _ => rfl) (hpr 4)
end Po
