/-! images: rules for the row of lands; answers of settle, refuses, good, settled -/
section Im
variable {ro : ab_R} {C : Nat → List Value → ab_W → ab_O → Prop} {own : Nat} {ret : Option FieldType} {code : ab_C} {Q : ab_O → Prop} {pc l t : Nat} {L : ab_L} {r : List Value} {w : ab_W} {G : Nat → Nat}
theorem hx_refs {o : Nat} (hw : ty_w sp_ G w) (hG : G o = 17) : ∃ f : Nat → Option Nat, w[o]? = some (.inl (4, 2, .inr (.inr (.inr (.inr f))))) ∧ ∀ i, i < 2 → ∃ k, f i = some k ∧ G k = 54 := by
  obtain ⟨c, g, hc2⟩ := ty_w_at hw (k := o) (by rw [hG]; decide)
  rw [hG] at hc2
  obtain ⟨f, rfl, q1, q2⟩ := ty_qrow hc2 rfl
  refine ⟨f, g, fun i hi => ?_⟩
  cases e : f i with
  | none => exact absurd e (q2 (1, 0, 0, 0, 54, 0) (.head _) rfl i hi)
  | some k =>
    have h : ((G k : Nat) : Int) = 54 := (q1 i k e).2 (1, 0, 0, 0, 54, 0) (.head _)
    exact ⟨k, rfl, by omega⟩
theorem hx_aa {o : Nat} {i : Int32} {f : Nat → Option Nat} (hc : code pc = some (.aaload, t)) (hl : l = pc + 1) (g : w[o]? = some (.inl (4, 2, .inr (.inr (.inr (.inr f)))))) (hf : ∀ i, i < 2 → ∃ k, f i = some k ∧ G k = 54) (h1 : 0 ≤ i.toInt) (h2 : i.toInt < (2 : Nat)) (kk : ∀ k : Nat, G k = 54 → ab_wp ro C own false ret code Q (l, L, .ref k :: r, w, 0, 0)) : ab_wp ro C own false ret code Q (pc, L, .int i :: .ref o :: r, w, 0, 0) := by
  subst hl
  obtain ⟨k, e, hk⟩ := hf i.toNatClampNeg (by show i.toInt.toNat < 2; omega)
  refine ax_sw (ps := [vp_in i 2]) (x := (L, .ref k :: r, w, 0, 0)) (pc + 1) hc ?_ rfl ⟨hx_in h1 h2, trivial⟩ (kk k hk)
  simp only [ab_nx, g, e, va_rf]
theorem hx_neg {x : Int32} (hc : code pc = some (.ineg, t)) (hl : l = pc + 1) (k : ∀ z : Int32, (-2147483648 < x.toInt → z.toInt = -x.toInt) → ab_wp ro C own false ret code Q (l, L, .int z :: r, w, 0, 0)) : ab_wp ro C own false ret code Q (pc, L, .int x :: r, w, 0, 0) := by
  subst hl
  exact ax_sw (x := (L, .int (-x) :: r, w, 0, 0)) (pc + 1) hc rfl rfl trivial (k _ (fun h1 => by have := x.toInt_lt; rw [Int32.toInt_neg, hx_fz (by omega) (by omega)]))
theorem hx_nar1 {v : Int32} (h : v.toInt = 1) : (vp_nar (if (3 : Nat) = 1 then .byte else .boolean) v).toInt = 1 := by
  have e : v = 1 := Int32.toInt_inj.mp (h.trans (by decide))
  subst e
  decide
end Im
def fb_ht_X8_settle : List (Nat × Nat) := [(8, 3), (8, 5), (19, 999), (32, 999), (33, 999), (34, 999), (35, 999), (44, 999), (45, 999), (1, 0), (18, 999), (2, 11), (2, 14), (1, 15), (54, 11), (4, 2), (7, 9), (30, 13), (30, 34), (30, 2), (30, 22), (30, 23), (30, 24), (30, 25), (46, 999), (47, 999), (30, 35), (30, 36), (7, 0), (24, 999), (37, 999), (30, 4), (30, 5), (30, 6), (30, 8), (30, 9), (30, 10), (30, 11), (30, 14), (30, 15), (30, 16), (30, 17), (30, 18), (30, 19), (30, 20), (30, 21), (39, 999), (40, 999), (41, 999), (30, 30), (30, 42), (30, 43), (30, 44), (1, 1), (1, 3), (1, 10), (1, 13), (8, 0), (30, 49), (2, 15), (8, 1)]
set_option maxHeartbeats 8000000 in
theorem ht_X8_settle {ro : ab_R} {G : Nat → Nat} {fz : List (Nat × Nat)} {F : ab_W → Prop} (hF : ∀ w w', ty_same G pr_ w w' → F w → F w') (hfz : ∀ q ∈ fz, q ∈ fb_ht_X8_settle) (d : Nat) : hx_ct ro sp_ G F fz (ab_Ev ro ab_codes (d + 1)) 115 [(2, 1, 0), (0, (-2147483648), 2147483647)] (some (0, (-2147483648), 2147483647)) (fun _ _ => True) (fun as w v w1 => ∀ (o : Nat) (a z : Int32), as = [.ref o, .int a] → v = some (.int z) → z.toInt = a.toInt) := by
  refine hx_hand (d := d + 0) (by decide) (fun as w hw hf has hP => ?_)
  match as, has with
  | [v0, v1], ⟨h0, h1, _⟩ =>
    obtain ⟨o, rfl, _, hG0⟩ := ty_refn h0 rfl rfl
    replace hG0 : G o = 1 := hG0
    obtain ⟨an, rfl, hl1, hh1⟩ := ty_int h1 rfl
    replace hl1 : ((-2147483648) : Int) ≤ an.toInt := hl1
    replace hh1 : an.toInt ≤ 2147483647 := hh1
    refine ⟨rfl, ?_⟩
    have ct117 : ∀ (w1 : ab_W) , ty_w sp_ G w1 → F w1 → ty_same G fz w w1 → ab_wp ro (ab_Ev ro ab_codes d) 8 false (some .int) ab_k_X8_settle (fun o_1 => ∃ v w1, o_1 = (v, w1, 0, 0) ∧ ty_w sp_ G w1 ∧ F w1 ∧ ty_same G fz w w1 ∧ ck_res G (some (0, (-2147483648), 2147483647)) v ∧ (fun as w v w1 => ∀ (o : Nat) (a z : Int32), as = [.ref o, .int a] → v = some (.int z) → z.toInt = a.toInt) ([.ref o, .int an] : List Value) w v w1) (117, [some (.ref o), some (.int an)], [], w1, 0, 0) := by
      intro w1  hw2 hf3 hs4
      refine ax_go 1 (y := (118, [some (.ref o), some (.int an)], [.int an], w1, 0, 0)) rfl trivial ?_
      exact ax_ret rfl rfl trivial ⟨some (.int an), _, rfl, hw2, hf3, hs4, (ck_top_ok (G := G) an), (fun o1 a1 z1 h1 h2 => by cases h1; cases h2; omega)⟩
    change ab_wp ro (ab_Ev ro ab_codes d) 8 false (some .int) ab_k_X8_settle (fun o_1 => ∃ v w1, o_1 = (v, w1, 0, 0) ∧ ty_w sp_ G w1 ∧ F w1 ∧ ty_same G fz w w1 ∧ ck_res G (some (0, (-2147483648), 2147483647)) v ∧ (fun as w v w1 => ∀ (o : Nat) (a z : Int32), as = [.ref o, .int a] → v = some (.int z) → z.toInt = a.toInt) ([.ref o, .int an] : List Value) w v w1) (0, [some (.ref o), some (.int an)], [], w, 0, 0)
    refine ax_go 2 (y := (2, [some (.ref o), some (.int an)], [.int an, .ref o], w, 0, 0)) rfl trivial ?_
    refine hx_if_ge (l := 5) rfl rfl (fun h5 => ?_) (fun h5 => ?_)
    · -- 9
      refine hx_k (l := 10) (m := 0) rfl rfl (by decide) (fun z6 h7 => ?_)
      obtain ⟨fs8, g9, -, q10⟩ := hx_obj hw hG0 (s := 1) rfl (by decide)
      refine hx_pf (q := (0, 0, 0, 0, (-2147483648), 2147483647)) (s := 1) (l := 13) (v := .int z6) rfl rfl rfl (by decide) rfl rfl rfl hw hG0 g9 trivial (ck_top_ok (G := G) z6) (fun w11 fs12 g13 e14 o15 n16 hw17 n18 => ?_)
      have hs19 := ty_same_tr (ty_same_rf w) (n18 fz (hx_ok hfz (by decide)))
      have hf20 := hF _ _ (n18 pr_ (by decide)) hf
      refine ax_go 1 (y := (14, [some (.ref o), some (.int an)], [.int an], w11, 0, 0)) rfl trivial ?_
      by_cases h21 : an.toInt = (-6)
      · -- case
        refine hx_tsq (l := 104) 0 rfl rfl (by decide) (by decide) rfl (by omega) (by omega) ?_
        refine ax_go 1 (y := (105, [some (.ref o), some (.int an)], [.ref o], w11, 0, 0)) rfl trivial ?_
        have q22 := hx_oq hw17 g13 hG0 (s := 1) rfl
        obtain ⟨p23, e24, hG25⟩ := hx_fr (k := 11) (s := 29) q22 rfl
        refine hx_gf (l := 108) rfl rfl rfl g13 e24 ?_
        refine hx_k (l := 109) (m := 4) rfl rfl (by decide) (fun z26 h27 => ?_)
        refine ax_go 1 (y := (110, [some (.ref o), some (.int an)], [.int z26, .ref p23, .int z26, .ref p23], w11, 0, 0)) rfl trivial ?_
        obtain ⟨f28, g29, r30⟩ := hx_row hw17 hG25 (s := 29) (kd := 0) (n := 5) rfl (by decide)
        refine hx_il (l := 111) rfl rfl g29 (by omega) (by omega) (fun z31 h32 => ?_)
        refine hx_k (l := 112) (m := 1) rfl rfl (by decide) (fun z33 h34 => ?_)
        refine hx_add (l := 113) rfl rfl (fun z35 h36 => ?_)
        refine hx_is (s := 29) (l := 114) rfl rfl rfl hw17 hG25 g29 (by omega) (by omega) hx_sg0 (fun w37 f38 g39 e40 o41 n42 hw43 n44 => ?_)
        have hs45 := ty_same_tr hs19 (n44 fz (hx_ok hfz (by decide)))
        have hf46 := hF _ _ (n44 pr_ (by decide)) hf20
        refine ax_go 1 (y := (117, [some (.ref o), some (.int an)], [], w37, 0, 0)) rfl trivial ?_
        exact ct117 w37  hw43 hf46 hs45 
      by_cases h47 : an.toInt = (-5)
      · -- case
        refine hx_tsq (l := 91) 1 rfl rfl (by decide) (by decide) rfl (by omega) (by omega) ?_
        refine ax_go 1 (y := (92, [some (.ref o), some (.int an)], [.ref o], w11, 0, 0)) rfl trivial ?_
        have q48 := hx_oq hw17 g13 hG0 (s := 1) rfl
        obtain ⟨p49, e50, hG51⟩ := hx_fr (k := 11) (s := 29) q48 rfl
        refine hx_gf (l := 95) rfl rfl rfl g13 e50 ?_
        refine hx_k (l := 96) (m := 3) rfl rfl (by decide) (fun z52 h53 => ?_)
        refine ax_go 1 (y := (97, [some (.ref o), some (.int an)], [.int z52, .ref p49, .int z52, .ref p49], w11, 0, 0)) rfl trivial ?_
        obtain ⟨f54, g55, r56⟩ := hx_row hw17 hG51 (s := 29) (kd := 0) (n := 5) rfl (by decide)
        refine hx_il (l := 98) rfl rfl g55 (by omega) (by omega) (fun z57 h58 => ?_)
        refine hx_k (l := 99) (m := 1) rfl rfl (by decide) (fun z59 h60 => ?_)
        refine hx_add (l := 100) rfl rfl (fun z61 h62 => ?_)
        refine hx_is (s := 29) (l := 101) rfl rfl rfl hw17 hG51 g55 (by omega) (by omega) hx_sg0 (fun w63 f64 g65 e66 o67 n68 hw69 n70 => ?_)
        have hs71 := ty_same_tr hs19 (n70 fz (hx_ok hfz (by decide)))
        have hf72 := hF _ _ (n70 pr_ (by decide)) hf20
        refine ax_go 1 (y := (117, [some (.ref o), some (.int an)], [], w63, 0, 0)) rfl trivial ?_
        exact ct117 w63  hw69 hf72 hs71 
      by_cases h73 : an.toInt = (-4)
      · -- case
        refine hx_tsq (l := 117) 2 rfl rfl (by decide) (by decide) rfl (by omega) (by omega) ?_
        exact ct117 w11  hw17 hf20 hs19 
      by_cases h74 : an.toInt = (-3)
      · -- case
        refine hx_tsq (l := 78) 3 rfl rfl (by decide) (by decide) rfl (by omega) (by omega) ?_
        refine ax_go 1 (y := (79, [some (.ref o), some (.int an)], [.ref o], w11, 0, 0)) rfl trivial ?_
        have q75 := hx_oq hw17 g13 hG0 (s := 1) rfl
        obtain ⟨p76, e77, hG78⟩ := hx_fr (k := 11) (s := 29) q75 rfl
        refine hx_gf (l := 82) rfl rfl rfl g13 e77 ?_
        refine hx_k (l := 83) (m := 2) rfl rfl (by decide) (fun z79 h80 => ?_)
        refine ax_go 1 (y := (84, [some (.ref o), some (.int an)], [.int z79, .ref p76, .int z79, .ref p76], w11, 0, 0)) rfl trivial ?_
        obtain ⟨f81, g82, r83⟩ := hx_row hw17 hG78 (s := 29) (kd := 0) (n := 5) rfl (by decide)
        refine hx_il (l := 85) rfl rfl g82 (by omega) (by omega) (fun z84 h85 => ?_)
        refine hx_k (l := 86) (m := 1) rfl rfl (by decide) (fun z86 h87 => ?_)
        refine hx_add (l := 87) rfl rfl (fun z88 h89 => ?_)
        refine hx_is (s := 29) (l := 88) rfl rfl rfl hw17 hG78 g82 (by omega) (by omega) hx_sg0 (fun w90 f91 g92 e93 o94 n95 hw96 n97 => ?_)
        have hs98 := ty_same_tr hs19 (n97 fz (hx_ok hfz (by decide)))
        have hf99 := hF _ _ (n97 pr_ (by decide)) hf20
        refine ax_go 1 (y := (117, [some (.ref o), some (.int an)], [], w90, 0, 0)) rfl trivial ?_
        exact ct117 w90  hw96 hf99 hs98 
      by_cases h100 : an.toInt = (-2)
      · -- case
        refine hx_tsq (l := 65) 4 rfl rfl (by decide) (by decide) rfl (by omega) (by omega) ?_
        refine ax_go 1 (y := (66, [some (.ref o), some (.int an)], [.ref o], w11, 0, 0)) rfl trivial ?_
        have q101 := hx_oq hw17 g13 hG0 (s := 1) rfl
        obtain ⟨p102, e103, hG104⟩ := hx_fr (k := 11) (s := 29) q101 rfl
        refine hx_gf (l := 69) rfl rfl rfl g13 e103 ?_
        refine hx_k (l := 70) (m := 1) rfl rfl (by decide) (fun z105 h106 => ?_)
        refine ax_go 1 (y := (71, [some (.ref o), some (.int an)], [.int z105, .ref p102, .int z105, .ref p102], w11, 0, 0)) rfl trivial ?_
        obtain ⟨f107, g108, r109⟩ := hx_row hw17 hG104 (s := 29) (kd := 0) (n := 5) rfl (by decide)
        refine hx_il (l := 72) rfl rfl g108 (by omega) (by omega) (fun z110 h111 => ?_)
        refine hx_k (l := 73) (m := 1) rfl rfl (by decide) (fun z112 h113 => ?_)
        refine hx_add (l := 74) rfl rfl (fun z114 h115 => ?_)
        refine hx_is (s := 29) (l := 75) rfl rfl rfl hw17 hG104 g108 (by omega) (by omega) hx_sg0 (fun w116 f117 g118 e119 o120 n121 hw122 n123 => ?_)
        have hs124 := ty_same_tr hs19 (n123 fz (hx_ok hfz (by decide)))
        have hf125 := hF _ _ (n123 pr_ (by decide)) hf20
        refine ax_go 1 (y := (117, [some (.ref o), some (.int an)], [], w116, 0, 0)) rfl trivial ?_
        exact ct117 w116  hw122 hf125 hs124 
      by_cases h126 : an.toInt = (-1)
      · -- case
        refine hx_tsq (l := 52) 5 rfl rfl (by decide) (by decide) rfl (by omega) (by omega) ?_
        refine ax_go 1 (y := (53, [some (.ref o), some (.int an)], [.ref o], w11, 0, 0)) rfl trivial ?_
        have q127 := hx_oq hw17 g13 hG0 (s := 1) rfl
        obtain ⟨p128, e129, hG130⟩ := hx_fr (k := 11) (s := 29) q127 rfl
        refine hx_gf (l := 56) rfl rfl rfl g13 e129 ?_
        refine hx_k (l := 57) (m := 0) rfl rfl (by decide) (fun z131 h132 => ?_)
        refine ax_go 1 (y := (58, [some (.ref o), some (.int an)], [.int z131, .ref p128, .int z131, .ref p128], w11, 0, 0)) rfl trivial ?_
        obtain ⟨f133, g134, r135⟩ := hx_row hw17 hG130 (s := 29) (kd := 0) (n := 5) rfl (by decide)
        refine hx_il (l := 59) rfl rfl g134 (by omega) (by omega) (fun z136 h137 => ?_)
        refine hx_k (l := 60) (m := 1) rfl rfl (by decide) (fun z138 h139 => ?_)
        refine hx_add (l := 61) rfl rfl (fun z140 h141 => ?_)
        refine hx_is (s := 29) (l := 62) rfl rfl rfl hw17 hG130 g134 (by omega) (by omega) hx_sg0 (fun w142 f143 g144 e145 o146 n147 hw148 n149 => ?_)
        have hs150 := ty_same_tr hs19 (n149 fz (hx_ok hfz (by decide)))
        have hf151 := hF _ _ (n149 pr_ (by decide)) hf20
        refine ax_go 1 (y := (117, [some (.ref o), some (.int an)], [], w142, 0, 0)) rfl trivial ?_
        exact ct117 w142  hw148 hf151 hs150 
      refine hx_tsd (l := 117) rfl (by decide) rfl (by omega) ?_
      exact ct117 w11  hw17 hf20 hs19 
    · -- 5
      refine ax_go 2 (y := (10, [some (.ref o), some (.int an)], [.int an, .ref o], w, 0, 0)) rfl trivial ?_
      obtain ⟨fs152, g153, -, q154⟩ := hx_obj hw hG0 (s := 1) rfl (by decide)
      refine hx_pf (q := (0, 0, 0, 0, (-2147483648), 2147483647)) (s := 1) (l := 13) (v := .int an) rfl rfl rfl (by decide) rfl rfl rfl hw hG0 g153 trivial (ck_top_ok (G := G) an) (fun w155 fs156 g157 e158 o159 n160 hw161 n162 => ?_)
      have hs163 := ty_same_tr (ty_same_rf w) (n162 fz (hx_ok hfz (by decide)))
      have hf164 := hF _ _ (n162 pr_ (by decide)) hf
      refine ax_go 1 (y := (14, [some (.ref o), some (.int an)], [.int an], w155, 0, 0)) rfl trivial ?_
      by_cases h165 : an.toInt = (-6)
      · -- case
        refine hx_tsq (l := 104) 0 rfl rfl (by decide) (by decide) rfl (by omega) (by omega) ?_
        refine ax_go 1 (y := (105, [some (.ref o), some (.int an)], [.ref o], w155, 0, 0)) rfl trivial ?_
        have q166 := hx_oq hw161 g157 hG0 (s := 1) rfl
        obtain ⟨p167, e168, hG169⟩ := hx_fr (k := 11) (s := 29) q166 rfl
        refine hx_gf (l := 108) rfl rfl rfl g157 e168 ?_
        refine hx_k (l := 109) (m := 4) rfl rfl (by decide) (fun z170 h171 => ?_)
        refine ax_go 1 (y := (110, [some (.ref o), some (.int an)], [.int z170, .ref p167, .int z170, .ref p167], w155, 0, 0)) rfl trivial ?_
        obtain ⟨f172, g173, r174⟩ := hx_row hw161 hG169 (s := 29) (kd := 0) (n := 5) rfl (by decide)
        refine hx_il (l := 111) rfl rfl g173 (by omega) (by omega) (fun z175 h176 => ?_)
        refine hx_k (l := 112) (m := 1) rfl rfl (by decide) (fun z177 h178 => ?_)
        refine hx_add (l := 113) rfl rfl (fun z179 h180 => ?_)
        refine hx_is (s := 29) (l := 114) rfl rfl rfl hw161 hG169 g173 (by omega) (by omega) hx_sg0 (fun w181 f182 g183 e184 o185 n186 hw187 n188 => ?_)
        have hs189 := ty_same_tr hs163 (n188 fz (hx_ok hfz (by decide)))
        have hf190 := hF _ _ (n188 pr_ (by decide)) hf164
        refine ax_go 1 (y := (117, [some (.ref o), some (.int an)], [], w181, 0, 0)) rfl trivial ?_
        exact ct117 w181  hw187 hf190 hs189 
      by_cases h191 : an.toInt = (-5)
      · -- case
        refine hx_tsq (l := 91) 1 rfl rfl (by decide) (by decide) rfl (by omega) (by omega) ?_
        refine ax_go 1 (y := (92, [some (.ref o), some (.int an)], [.ref o], w155, 0, 0)) rfl trivial ?_
        have q192 := hx_oq hw161 g157 hG0 (s := 1) rfl
        obtain ⟨p193, e194, hG195⟩ := hx_fr (k := 11) (s := 29) q192 rfl
        refine hx_gf (l := 95) rfl rfl rfl g157 e194 ?_
        refine hx_k (l := 96) (m := 3) rfl rfl (by decide) (fun z196 h197 => ?_)
        refine ax_go 1 (y := (97, [some (.ref o), some (.int an)], [.int z196, .ref p193, .int z196, .ref p193], w155, 0, 0)) rfl trivial ?_
        obtain ⟨f198, g199, r200⟩ := hx_row hw161 hG195 (s := 29) (kd := 0) (n := 5) rfl (by decide)
        refine hx_il (l := 98) rfl rfl g199 (by omega) (by omega) (fun z201 h202 => ?_)
        refine hx_k (l := 99) (m := 1) rfl rfl (by decide) (fun z203 h204 => ?_)
        refine hx_add (l := 100) rfl rfl (fun z205 h206 => ?_)
        refine hx_is (s := 29) (l := 101) rfl rfl rfl hw161 hG195 g199 (by omega) (by omega) hx_sg0 (fun w207 f208 g209 e210 o211 n212 hw213 n214 => ?_)
        have hs215 := ty_same_tr hs163 (n214 fz (hx_ok hfz (by decide)))
        have hf216 := hF _ _ (n214 pr_ (by decide)) hf164
        refine ax_go 1 (y := (117, [some (.ref o), some (.int an)], [], w207, 0, 0)) rfl trivial ?_
        exact ct117 w207  hw213 hf216 hs215 
      by_cases h217 : an.toInt = (-4)
      · -- case
        refine hx_tsq (l := 117) 2 rfl rfl (by decide) (by decide) rfl (by omega) (by omega) ?_
        exact ct117 w155  hw161 hf164 hs163 
      by_cases h218 : an.toInt = (-3)
      · -- case
        refine hx_tsq (l := 78) 3 rfl rfl (by decide) (by decide) rfl (by omega) (by omega) ?_
        refine ax_go 1 (y := (79, [some (.ref o), some (.int an)], [.ref o], w155, 0, 0)) rfl trivial ?_
        have q219 := hx_oq hw161 g157 hG0 (s := 1) rfl
        obtain ⟨p220, e221, hG222⟩ := hx_fr (k := 11) (s := 29) q219 rfl
        refine hx_gf (l := 82) rfl rfl rfl g157 e221 ?_
        refine hx_k (l := 83) (m := 2) rfl rfl (by decide) (fun z223 h224 => ?_)
        refine ax_go 1 (y := (84, [some (.ref o), some (.int an)], [.int z223, .ref p220, .int z223, .ref p220], w155, 0, 0)) rfl trivial ?_
        obtain ⟨f225, g226, r227⟩ := hx_row hw161 hG222 (s := 29) (kd := 0) (n := 5) rfl (by decide)
        refine hx_il (l := 85) rfl rfl g226 (by omega) (by omega) (fun z228 h229 => ?_)
        refine hx_k (l := 86) (m := 1) rfl rfl (by decide) (fun z230 h231 => ?_)
        refine hx_add (l := 87) rfl rfl (fun z232 h233 => ?_)
        refine hx_is (s := 29) (l := 88) rfl rfl rfl hw161 hG222 g226 (by omega) (by omega) hx_sg0 (fun w234 f235 g236 e237 o238 n239 hw240 n241 => ?_)
        have hs242 := ty_same_tr hs163 (n241 fz (hx_ok hfz (by decide)))
        have hf243 := hF _ _ (n241 pr_ (by decide)) hf164
        refine ax_go 1 (y := (117, [some (.ref o), some (.int an)], [], w234, 0, 0)) rfl trivial ?_
        exact ct117 w234  hw240 hf243 hs242 
      by_cases h244 : an.toInt = (-2)
      · -- case
        refine hx_tsq (l := 65) 4 rfl rfl (by decide) (by decide) rfl (by omega) (by omega) ?_
        refine ax_go 1 (y := (66, [some (.ref o), some (.int an)], [.ref o], w155, 0, 0)) rfl trivial ?_
        have q245 := hx_oq hw161 g157 hG0 (s := 1) rfl
        obtain ⟨p246, e247, hG248⟩ := hx_fr (k := 11) (s := 29) q245 rfl
        refine hx_gf (l := 69) rfl rfl rfl g157 e247 ?_
        refine hx_k (l := 70) (m := 1) rfl rfl (by decide) (fun z249 h250 => ?_)
        refine ax_go 1 (y := (71, [some (.ref o), some (.int an)], [.int z249, .ref p246, .int z249, .ref p246], w155, 0, 0)) rfl trivial ?_
        obtain ⟨f251, g252, r253⟩ := hx_row hw161 hG248 (s := 29) (kd := 0) (n := 5) rfl (by decide)
        refine hx_il (l := 72) rfl rfl g252 (by omega) (by omega) (fun z254 h255 => ?_)
        refine hx_k (l := 73) (m := 1) rfl rfl (by decide) (fun z256 h257 => ?_)
        refine hx_add (l := 74) rfl rfl (fun z258 h259 => ?_)
        refine hx_is (s := 29) (l := 75) rfl rfl rfl hw161 hG248 g252 (by omega) (by omega) hx_sg0 (fun w260 f261 g262 e263 o264 n265 hw266 n267 => ?_)
        have hs268 := ty_same_tr hs163 (n267 fz (hx_ok hfz (by decide)))
        have hf269 := hF _ _ (n267 pr_ (by decide)) hf164
        refine ax_go 1 (y := (117, [some (.ref o), some (.int an)], [], w260, 0, 0)) rfl trivial ?_
        exact ct117 w260  hw266 hf269 hs268 
      by_cases h270 : an.toInt = (-1)
      · -- case
        refine hx_tsq (l := 52) 5 rfl rfl (by decide) (by decide) rfl (by omega) (by omega) ?_
        refine ax_go 1 (y := (53, [some (.ref o), some (.int an)], [.ref o], w155, 0, 0)) rfl trivial ?_
        have q271 := hx_oq hw161 g157 hG0 (s := 1) rfl
        obtain ⟨p272, e273, hG274⟩ := hx_fr (k := 11) (s := 29) q271 rfl
        refine hx_gf (l := 56) rfl rfl rfl g157 e273 ?_
        refine hx_k (l := 57) (m := 0) rfl rfl (by decide) (fun z275 h276 => ?_)
        refine ax_go 1 (y := (58, [some (.ref o), some (.int an)], [.int z275, .ref p272, .int z275, .ref p272], w155, 0, 0)) rfl trivial ?_
        obtain ⟨f277, g278, r279⟩ := hx_row hw161 hG274 (s := 29) (kd := 0) (n := 5) rfl (by decide)
        refine hx_il (l := 59) rfl rfl g278 (by omega) (by omega) (fun z280 h281 => ?_)
        refine hx_k (l := 60) (m := 1) rfl rfl (by decide) (fun z282 h283 => ?_)
        refine hx_add (l := 61) rfl rfl (fun z284 h285 => ?_)
        refine hx_is (s := 29) (l := 62) rfl rfl rfl hw161 hG274 g278 (by omega) (by omega) hx_sg0 (fun w286 f287 g288 e289 o290 n291 hw292 n293 => ?_)
        have hs294 := ty_same_tr hs163 (n293 fz (hx_ok hfz (by decide)))
        have hf295 := hF _ _ (n293 pr_ (by decide)) hf164
        refine ax_go 1 (y := (117, [some (.ref o), some (.int an)], [], w286, 0, 0)) rfl trivial ?_
        exact ct117 w286  hw292 hf295 hs294 
      refine hx_tsd (l := 117) rfl (by decide) rfl (by omega) ?_
      exact ct117 w155  hw161 hf164 hs163 
def fb_ht_X9_refuses : List (Nat × Nat) := [(8, 3), (8, 5), (19, 999), (32, 999), (33, 999), (34, 999), (35, 999), (44, 999), (45, 999), (1, 0), (18, 999), (2, 11), (2, 14), (1, 15), (54, 11), (4, 2), (7, 9), (30, 13), (30, 34), (30, 2), (30, 22), (30, 23), (30, 24), (30, 25), (46, 999), (47, 999), (30, 35), (30, 36), (7, 0), (24, 999), (37, 999), (30, 4), (30, 5), (30, 6), (30, 8), (30, 9), (30, 10), (30, 11), (30, 14), (30, 15), (30, 16), (30, 17), (30, 18), (30, 19), (30, 20), (30, 21), (39, 999), (40, 999), (41, 999), (30, 30), (30, 42), (30, 43), (30, 44), (1, 1), (1, 3), (1, 10), (1, 13), (8, 0), (30, 49), (2, 15), (8, 1)]
set_option maxHeartbeats 8000000 in
theorem ht_X9_refuses {ro : ab_R} {G : Nat → Nat} {fz : List (Nat × Nat)} {F : ab_W → Prop} (hF : ∀ w w', ty_same G pr_ w w' → F w → F w') (hfz : ∀ q ∈ fz, q ∈ fb_ht_X9_refuses) (d : Nat) : hx_ct ro sp_ G F fz (ab_Ev ro ab_codes (d + 1)) 124 [(2, 30, 0), (0, (-6), (-1))] (some (0, (-6), (-1))) (fun _ _ => True) (fun as w v w1 => ∀ (o : Nat) (a z : Int32), as = [.ref o, .int a] → v = some (.int z) → z.toInt = a.toInt) := by
  refine hx_hand (d := d + 0) (by decide) (fun as w hw hf has hP => ?_)
  match as, has with
  | [v0, v1], ⟨h0, h1, _⟩ =>
    obtain ⟨o, rfl, _, hG0⟩ := ty_refn h0 rfl rfl
    replace hG0 : G o = 30 := hG0
    obtain ⟨an, rfl, hl1, hh1⟩ := ty_int h1 rfl
    replace hl1 : ((-6) : Int) ≤ an.toInt := hl1
    replace hh1 : an.toInt ≤ (-1) := hh1
    refine ⟨rfl, ?_⟩
    change ab_wp ro (ab_Ev ro ab_codes d) 9 false (some .int) ab_k_X9_refuses (fun o_1 => ∃ v w1, o_1 = (v, w1, 0, 0) ∧ ty_w sp_ G w1 ∧ F w1 ∧ ty_same G fz w w1 ∧ ck_res G (some (0, (-6), (-1))) v ∧ (fun as w v w1 => ∀ (o : Nat) (a z : Int32), as = [.ref o, .int a] → v = some (.int z) → z.toInt = a.toInt) ([.ref o, .int an] : List Value) w v w1) (0, [some (.ref o), some (.int an)], [], w, 0, 0)
    refine ax_go 2 (y := (2, [some (.ref o), some (.int an)], [.int an, .ref o], w, 0, 0)) rfl trivial ?_
    obtain ⟨fs1, g2, -, q3⟩ := hx_obj hw hG0 (s := 30) rfl (by decide)
    refine hx_pf (q := (0, 0, 0, 0, (-2147483648), 2147483647)) (s := 30) (l := 5) (v := .int an) rfl rfl rfl (by decide) rfl rfl rfl hw hG0 g2 trivial (ck_top_ok (G := G) an) (fun w4 fs5 g6 e7 o8 n9 hw10 n11 => ?_)
    have hs12 := ty_same_tr (ty_same_rf w) (n11 fz (hx_ok hfz (by decide)))
    have hf13 := hF _ _ (n11 pr_ (by decide)) hf
    refine ax_go 1 (y := (6, [some (.ref o), some (.int an)], [.ref o], w4, 0, 0)) rfl trivial ?_
    have q14 := hx_oq hw10 g6 hG0 (s := 30) rfl
    obtain ⟨p15, e16, hG17⟩ := hx_fr (k := 1) (s := 31) q14 rfl
    refine hx_gf (l := 9) rfl rfl rfl g6 e16 ?_
    refine ax_go 1 (y := (10, [some (.ref o), some (.int an)], [.int an, .ref p15], w4, 0, 0)) rfl trivial ?_
    refine hx_neg (l := 11) rfl rfl (fun z18 h19 => ?_)
    replace h19 := h19 (by omega)
    refine ax_go 1 (y := (12, [some (.ref o), some (.int an)], [.int z18, .ref p15, .int z18, .ref p15], w4, 0, 0)) rfl trivial ?_
    obtain ⟨f20, g21, r22⟩ := hx_row hw10 hG17 (s := 31) (kd := 0) (n := 7) rfl (by decide)
    refine hx_il (l := 13) rfl rfl g21 (by omega) (by omega) (fun z23 h24 => ?_)
    refine hx_k (l := 14) (m := 1) rfl rfl (by decide) (fun z25 h26 => ?_)
    refine hx_add (l := 15) rfl rfl (fun z27 h28 => ?_)
    refine hx_is (s := 31) (l := 16) rfl rfl rfl hw10 hG17 g21 (by omega) (by omega) hx_sg0 (fun w29 f30 g31 e32 o33 n34 hw35 n36 => ?_)
    have hs37 := ty_same_tr hs12 (n36 fz (hx_ok hfz (by decide)))
    have hf38 := hF _ _ (n36 pr_ (by decide)) hf13
    refine ax_go 1 (y := (17, [some (.ref o), some (.int an)], [.int an], w29, 0, 0)) rfl trivial ?_
    exact ax_ret rfl rfl trivial ⟨some (.int an), _, rfl, hw35, hf38, hs37, (hx_ti (G := G) (lo := (-6)) (hi := (-1)) (by omega) (by omega)), (fun o1 a1 z1 h1 h2 => by cases h1; cases h2; omega)⟩
def fb_ht_X9_good : List (Nat × Nat) := [(8, 3), (8, 5), (19, 999), (32, 999), (33, 999), (34, 999), (35, 999), (44, 999), (45, 999), (1, 0), (18, 999), (2, 11), (2, 14), (1, 15), (54, 11), (4, 2), (7, 9), (30, 13), (30, 34), (30, 2), (30, 22), (30, 23), (30, 24), (30, 25), (46, 999), (47, 999), (30, 35), (30, 36), (7, 0), (24, 999), (37, 999), (30, 4), (30, 5), (30, 6), (30, 8), (30, 9), (30, 10), (30, 11), (30, 14), (30, 15), (30, 16), (30, 17), (30, 18), (30, 19), (30, 20), (30, 21), (39, 999), (40, 999), (41, 999), (30, 30), (30, 42), (30, 43), (30, 44), (1, 1), (1, 3), (1, 10), (1, 13), (8, 0), (30, 49), (2, 15), (8, 1)]
set_option maxHeartbeats 8000000 in
theorem ht_X9_good {ro : ab_R} {G : Nat → Nat} {fz : List (Nat × Nat)} {F : ab_W → Prop} (hF : ∀ w w', ty_same G pr_ w w' → F w → F w') (hfz : ∀ q ∈ fz, q ∈ fb_ht_X9_good) (d : Nat) : hx_ct ro sp_ G F fz (ab_Ev ro ab_codes (d + 1)) 125 [(2, 30, 0), (0, (-2147483648), 2147483647)] (some (0, (-2147483648), 2147483647)) (fun _ _ => True) (fun as w v w1 => ∀ (o : Nat) (a z : Int32), as = [.ref o, .int a] → v = some (.int z) → z.toInt = a.toInt) := by
  refine hx_hand (d := d + 0) (by decide) (fun as w hw hf has hP => ?_)
  match as, has with
  | [v0, v1], ⟨h0, h1, _⟩ =>
    obtain ⟨o, rfl, _, hG0⟩ := ty_refn h0 rfl rfl
    replace hG0 : G o = 30 := hG0
    obtain ⟨an, rfl, hl1, hh1⟩ := ty_int h1 rfl
    replace hl1 : ((-2147483648) : Int) ≤ an.toInt := hl1
    replace hh1 : an.toInt ≤ 2147483647 := hh1
    refine ⟨rfl, ?_⟩
    change ab_wp ro (ab_Ev ro ab_codes d) 9 false (some .int) ab_k_X9_good (fun o_1 => ∃ v w1, o_1 = (v, w1, 0, 0) ∧ ty_w sp_ G w1 ∧ F w1 ∧ ty_same G fz w w1 ∧ ck_res G (some (0, (-2147483648), 2147483647)) v ∧ (fun as w v w1 => ∀ (o : Nat) (a z : Int32), as = [.ref o, .int a] → v = some (.int z) → z.toInt = a.toInt) ([.ref o, .int an] : List Value) w v w1) (0, [some (.ref o), some (.int an)], [], w, 0, 0)
    refine ax_go 1 (y := (1, [some (.ref o), some (.int an)], [.ref o], w, 0, 0)) rfl trivial ?_
    refine hx_k (l := 2) (m := 0) rfl rfl (by decide) (fun z1 h2 => ?_)
    obtain ⟨fs3, g4, -, q5⟩ := hx_obj hw hG0 (s := 30) rfl (by decide)
    refine hx_pf (q := (0, 0, 0, 0, (-2147483648), 2147483647)) (s := 30) (l := 5) (v := .int z1) rfl rfl rfl (by decide) rfl rfl rfl hw hG0 g4 trivial (ck_top_ok (G := G) z1) (fun w6 fs7 g8 e9 o10 n11 hw12 n13 => ?_)
    have hs14 := ty_same_tr (ty_same_rf w) (n13 fz (hx_ok hfz (by decide)))
    have hf15 := hF _ _ (n13 pr_ (by decide)) hf
    refine ax_go 1 (y := (6, [some (.ref o), some (.int an)], [.int an], w6, 0, 0)) rfl trivial ?_
    exact ax_ret rfl rfl trivial ⟨some (.int an), _, rfl, hw12, hf15, hs14, (ck_top_ok (G := G) an), (fun o1 a1 z1 h1 h2 => by cases h1; cases h2; omega)⟩
def fb_ht_X8_image : List (Nat × Nat) := [(8, 3), (8, 5), (19, 999), (32, 999), (33, 999), (34, 999), (35, 999), (44, 999), (45, 999), (1, 0), (2, 11), (2, 14), (1, 15), (4, 2), (7, 9), (30, 13), (30, 34), (30, 2), (30, 22), (30, 23), (30, 24), (30, 25), (46, 999), (47, 999), (30, 35), (30, 36), (7, 0), (24, 999), (37, 999), (30, 4), (30, 5), (30, 6), (30, 8), (30, 9), (30, 10), (30, 11), (30, 14), (30, 15), (30, 16), (30, 17), (30, 18), (30, 19), (30, 20), (30, 21), (39, 999), (40, 999), (41, 999), (30, 30), (30, 42), (30, 43), (30, 44), (1, 1), (1, 3), (1, 10), (1, 13), (8, 0), (30, 49), (2, 15), (8, 1)]
set_option maxHeartbeats 8000000 in
theorem ht_X8_image {ro : ab_R} {G : Nat → Nat} {fz : List (Nat × Nat)} {F : ab_W → Prop} (hF : ∀ w w', ty_same G pr_ w w' → F w → F w') (hfz : ∀ q ∈ fz, q ∈ fb_ht_X8_image) (d : Nat) : hx_ct ro sp_ G F fz (ab_Ev ro ab_codes (d + 2)) 111 [(2, 1, 0), (0, (-2147483648), 2147483647)] (some (0, (-2147483648), 2147483647)) (fun _ _ => True) (fun as w v w1 => ∀ (o : Nat) (k z : Int32), as = [.ref o, .int k] → v = some (.int z) → ((0 ≤ k.toInt ∧ k.toInt ≤ 1) ∧ z.toInt = 0) ∨ (¬ (0 ≤ k.toInt ∧ k.toInt ≤ 1) ∧ z.toInt = -1)) := by
  refine hx_hand (d := d + 1) (by decide) (fun as w hw hf has hP => ?_)
  match as, has with
  | [v0, v1], ⟨h0, h1, _⟩ =>
    obtain ⟨o, rfl, _, hG0⟩ := ty_refn h0 rfl rfl
    replace hG0 : G o = 1 := hG0
    obtain ⟨k, rfl, hl1, hh1⟩ := ty_int h1 rfl
    replace hl1 : ((-2147483648) : Int) ≤ k.toInt := hl1
    replace hh1 : k.toInt ≤ 2147483647 := hh1
    refine ⟨rfl, ?_⟩
    change ab_wp ro (ab_Ev ro ab_codes (d + 1)) 8 false (some .int) ab_k_X8_image (fun o_1 => ∃ v w1, o_1 = (v, w1, 0, 0) ∧ ty_w sp_ G w1 ∧ F w1 ∧ ty_same G fz w w1 ∧ ck_res G (some (0, (-2147483648), 2147483647)) v ∧ (fun as w v w1 => ∀ (o : Nat) (k z : Int32), as = [.ref o, .int k] → v = some (.int z) → ((0 ≤ k.toInt ∧ k.toInt ≤ 1) ∧ z.toInt = 0) ∨ (¬ (0 ≤ k.toInt ∧ k.toInt ≤ 1) ∧ z.toInt = -1)) ([.ref o, .int k] : List Value) w v w1) (0, [some (.ref o), some (.int k)], [], w, 0, 0)
    refine ax_go 1 (y := (1, [some (.ref o), some (.int k)], [.int k], w, 0, 0)) rfl trivial ?_
    refine hx_if_lt (l := 4) rfl rfl (fun h1 => ?_) (fun h1 => ?_)
    · -- 13
      refine ax_go 1 (y := (14, [some (.ref o), some (.int k)], [.ref o], w, 0, 0)) rfl trivial ?_
      refine hx_k (l := 15) (m := (-1)) rfl rfl (by decide) (fun z2 h3 => ?_)
      obtain ⟨fs4, g5, -, q6⟩ := hx_obj hw hG0 (s := 1) rfl (by decide)
      refine hx_pi (l := 18) (as := [.ref o, .int z2]) rfl rfl (hx_iv (j := 115) (n := 1) (o := o) (r := []) rfl rfl g5 rfl) (ht_X8_settle (fz := fz) hF (fun q hq => (by decide +kernel : ∀ q ∈ fb_ht_X8_image, q ∈ fb_ht_X8_settle) q (hfz q hq)) (d + 0)) hw hf ⟨(hx_tr (G := G) (s := 1) (b := 0) hG0 (by decide)), (ck_top_ok (G := G) z2), trivial⟩ trivial (fun w7 z12 hw8 hf9 m10 a13 b14 u15 => ?_)
      have hs11 := ty_same_tr (ty_same_rf w) m10
      replace u15 := u15 _ _ _ rfl rfl
      exact ax_ret rfl rfl trivial ⟨some (.int z12), _, rfl, hw8, hf9, hs11, (ck_top_ok (G := G) z12), (fun o1 k1 z1 h1 h2 => by cases h1; cases h2; omega)⟩
    · -- 4
      refine ax_go 2 (y := (6, [some (.ref o), some (.int k)], [.ref o, .int k], w, 0, 0)) rfl trivial ?_
      obtain ⟨fs16, g17, -, q18⟩ := hx_obj hw hG0 (s := 1) rfl (by decide)
      obtain ⟨p19, e20, hG21⟩ := hx_fr (k := 2) (s := 17) q18 rfl
      refine hx_gf (l := 9) rfl rfl rfl g17 e20 ?_
      obtain ⟨f22, g23, rf24⟩ := hx_refs hw hG21
      refine hx_len (l := 10) rfl rfl g23 rfl (by omega) (fun z25 h26 => ?_)
      refine hx_ic_lt (l := 13) rfl rfl (fun h27 => ?_) (fun h27 => ?_)
      · -- 19
        refine ax_go 1 (y := (20, [some (.ref o), some (.int k)], [.ref o], w, 0, 0)) rfl trivial ?_
        refine hx_gf (l := 23) rfl rfl rfl g17 e20 ?_
        refine ax_go 1 (y := (24, [some (.ref o), some (.int k)], [.int k, .ref p19], w, 0, 0)) rfl trivial ?_
        refine hx_aa (l := 25) rfl rfl g23 rf24 (by omega) (by omega) (fun k28 hG29 => ?_)
        refine ax_go 1 (y := (26, [some (.ref o), some (.int k)], [.ref o, .ref k28], w, 0, 0)) rfl trivial ?_
        obtain ⟨p30, e31, hG32⟩ := hx_fr (k := 1) (s := 2) q18 rfl
        refine hx_gf (l := 29) rfl rfl rfl g17 e31 ?_
        obtain ⟨fs33, g34, -, q35⟩ := hx_obj hw hG29 (s := 54) rfl (by decide)
        refine hx_c0 (l := 32) (as := [.ref k28, .ref p30]) rfl rfl (hx_iv (j := 16) (n := 1) (o := k28) (r := []) rfl rfl g34 rfl) (cc_X1_takeFrom_0 (fz := fz) hF  (fun q hq => (by decide +kernel : ∀ q ∈ fb_ht_X8_image, q ∈ fr_X1_takeFrom_0) q (hfz q hq)) (d + 0)) hw hf ⟨(hx_tr (G := G) (s := 54) (b := 0) hG29 (by decide)), (hx_tr (G := G) (s := 2) (b := 0) hG32 (by decide)), trivial⟩ (fun w36 hw37 hf38 m39 => ?_)
        have hs40 := ty_same_tr (ty_same_rf w) m39
        refine ax_go 1 (y := (33, [some (.ref o), some (.int k)], [.ref o], w36, 0, 0)) rfl trivial ?_
        obtain ⟨fs45, g46, -, q47⟩ := hx_obj hw37 hG0 (s := 1) rfl (by decide)
        obtain ⟨p48, e49, hG50⟩ := hx_fr (k := 3) (s := 18) q47 rfl
        refine hx_gf (l := 36) rfl rfl rfl g46 e49 ?_
        refine ax_go 1 (y := (37, [some (.ref o), some (.int k)], [.int k, .ref p48], w36, 0, 0)) rfl trivial ?_
        refine hx_k (l := 38) (m := 1) rfl rfl (by decide) (fun z51 h52 => ?_)
        obtain ⟨f53, g54, r55⟩ := hx_row hw37 hG50 (s := 18) (kd := 3) (n := 2) rfl (by decide)
        refine hx_bs (s := 18) (l := 39) rfl rfl (by decide) rfl hw37 hG50 g54 (by omega) (by omega) (fun w56 f57 g58 e59 o60 n61 hw62 n63 => ?_)
        have hs64 := ty_same_tr hs40 (n63 fz (hx_ok hfz (by decide)))
        have hf65 := hF _ _ (n63 pr_ (by decide)) hf38
        refine ax_go 1 (y := (40, [some (.ref o), some (.int k)], [.ref o], w56, 0, 0)) rfl trivial ?_
        refine hx_k (l := 41) (m := 0) rfl rfl (by decide) (fun z66 h67 => ?_)
        refine hx_pi (l := 44) (as := [.ref o, .int z66]) rfl rfl (hx_iv (j := 115) (n := 1) (o := o) (r := []) rfl rfl ((n61 _ (hx_ne hG0 hG50 (by decide))).trans g46) rfl) (ht_X8_settle (fz := fz) hF (fun q hq => (by decide +kernel : ∀ q ∈ fb_ht_X8_image, q ∈ fb_ht_X8_settle) q (hfz q hq)) (d + 0)) hw62 hf65 ⟨(hx_tr (G := G) (s := 1) (b := 0) hG0 (by decide)), (ck_top_ok (G := G) z66), trivial⟩ trivial (fun w68 z73 hw69 hf70 m71 a74 b75 u76 => ?_)
        have hs72 := ty_same_tr hs64 m71
        replace u76 := u76 _ _ _ rfl rfl
        exact ax_ret rfl rfl trivial ⟨some (.int z73), _, rfl, hw69, hf70, hs72, (ck_top_ok (G := G) z73), (fun o1 k1 z1 h1 h2 => by cases h1; cases h2; omega)⟩
      · -- 13
        refine ax_go 1 (y := (14, [some (.ref o), some (.int k)], [.ref o], w, 0, 0)) rfl trivial ?_
        refine hx_k (l := 15) (m := (-1)) rfl rfl (by decide) (fun z77 h78 => ?_)
        refine hx_pi (l := 18) (as := [.ref o, .int z77]) rfl rfl (hx_iv (j := 115) (n := 1) (o := o) (r := []) rfl rfl g17 rfl) (ht_X8_settle (fz := fz) hF (fun q hq => (by decide +kernel : ∀ q ∈ fb_ht_X8_image, q ∈ fb_ht_X8_settle) q (hfz q hq)) (d + 0)) hw hf ⟨(hx_tr (G := G) (s := 1) (b := 0) hG0 (by decide)), (ck_top_ok (G := G) z77), trivial⟩ trivial (fun w79 z84 hw80 hf81 m82 a85 b86 u87 => ?_)
        have hs83 := ty_same_tr (ty_same_rf w) m82
        replace u87 := u87 _ _ _ rfl rfl
        exact ax_ret rfl rfl trivial ⟨some (.int z84), _, rfl, hw80, hf81, hs83, (ck_top_ok (G := G) z84), (fun o1 k1 z1 h1 h2 => by cases h1; cases h2; omega)⟩
def fb_ht_X9_image : List (Nat × Nat) := [(8, 3), (8, 5), (19, 999), (32, 999), (35, 999), (44, 999), (45, 999), (1, 0), (18, 999), (2, 11), (2, 14), (1, 15), (54, 11), (4, 2), (7, 9), (30, 13), (30, 34), (30, 2), (30, 22), (30, 23), (30, 24), (30, 25), (46, 999), (47, 999), (30, 35), (30, 36), (7, 0), (24, 999), (37, 999), (30, 4), (30, 5), (30, 6), (30, 8), (30, 9), (30, 10), (30, 11), (30, 14), (30, 15), (30, 16), (30, 17), (30, 18), (30, 19), (30, 20), (30, 21), (39, 999), (40, 999), (41, 999), (30, 30), (30, 42), (30, 43), (30, 44), (1, 1), (1, 3), (1, 10), (1, 13), (8, 0), (30, 49), (2, 15), (8, 1)]
set_option maxHeartbeats 8000000 in
theorem ht_X9_image {ro : ab_R} {G : Nat → Nat} {fz : List (Nat × Nat)} {F : ab_W → Prop} (hF : ∀ w w', smt G w w' → F w → F w') (hU3 : ∀ p p', G p = 33 → G p' = 33 → p = p') (hfz : ∀ q ∈ fz, q ∈ fb_ht_X9_image) (d : Nat) : hx_ct ro sp_ G (F9 G F) fz (ab_Ev ro ab_codes (d + 2)) 131 [(2, 30, 0), (0, (-2147483648), 2147483647)] (some (0, (-2147483648), 2147483647)) (fun _ _ => True) (fun as w v w1 => ∀ (o : Nat) (k z : Int32), as = [.ref o, .int k] → v = some (.int z) → ((0 ≤ k.toInt ∧ k.toInt ≤ 1) ∧ z.toInt = 0) ∨ (¬ (0 ≤ k.toInt ∧ k.toInt ≤ 1) ∧ z.toInt = -1)) := by
  have hFF := F9_same hF
  refine hx_hand (d := d + 1) (by decide) (fun as w hw hf has hP => ?_)
  match as, has with
  | [v0, v1], ⟨h0, h1, _⟩ =>
    obtain ⟨o, rfl, _, hG0⟩ := ty_refn h0 rfl rfl
    replace hG0 : G o = 30 := hG0
    obtain ⟨k, rfl, hl1, hh1⟩ := ty_int h1 rfl
    replace hl1 : ((-2147483648) : Int) ≤ k.toInt := hl1
    replace hh1 : k.toInt ≤ 2147483647 := hh1
    refine ⟨rfl, ?_⟩
    obtain ⟨fs1, g2, -, q3⟩ := hx_obj hw hG0 (s := 30) rfl (by decide)
    obtain ⟨pk, e_pk, hG_pk⟩ := hx_fr (k := 2) (s := 32) q3 rfl
    obtain ⟨pi, e_pi, hG_pi⟩ := hx_fr (k := 3) (s := 33) q3 rfl
    obtain ⟨f0, g_f0, r_f0⟩ := hx_row hw hG_pk (s := 32) (kd := 0) (n := 5721) rfl (by decide)
    have ct17 : ∀ (nq : Nat) (w4 : ab_W) (i : Int32) (fi : Nat → Int32), ty_w sp_ G w4 → (F9x G F k.toInt.toNat) w4 → ty_same G fz w w4 → (hx_has w4 o 9 2 (.ref pk)) → (hx_has w4 o 9 3 (.ref pi)) → (w4[pk]? = some (.inl (0, 5721, .inl f0))) → (w4[pi]? = some (.inl (0, 11442, .inl fi))) → (0 ≤ i.toInt) → (i.toInt ≤ 5721) → (0 ≤ k.toInt) → (k.toInt ≤ 1) → (∀ j : Nat, (j : Int) < i.toInt → fi (5721 * k.toInt.toNat + j) = f0 j) → (5722 - i.toInt).toNat < nq → ab_wp ro (ab_Ev ro ab_codes (d + 1)) 9 false (some .int) ab_k_X9_image (fun o_1 => ∃ v w1, o_1 = (v, w1, 0, 0) ∧ ty_w sp_ G w1 ∧ (F9 G F) w1 ∧ ty_same G fz w w1 ∧ ck_res G (some (0, (-2147483648), 2147483647)) v ∧ (fun as w v w1 => ∀ (o : Nat) (k z : Int32), as = [.ref o, .int k] → v = some (.int z) → ((0 ≤ k.toInt ∧ k.toInt ≤ 1) ∧ z.toInt = 0) ∨ (¬ (0 ≤ k.toInt ∧ k.toInt ≤ 1) ∧ z.toInt = -1)) ([.ref o, .int k] : List Value) w v w1) (17, [some (.ref o), some (.int k), some (.int i)], [], w4, 0, 0) := by
      intro nq
      induction nq with
      | zero => intro w4 i fi hw13 hf14 hs15 hh5 hh6 g7 g8 i9 i10 i11 i12 hcp hm; exact absurd hm (Nat.not_lt_zero _)
      | succ nq ih17 =>
        intro w4 i fi hw13 hf14 hs15 hh5 hh6 g7 g8 i9 i10 i11 i12 hcp hm17
        obtain ⟨fs16, g17, e18⟩ := hh5
        obtain ⟨fs19, g20, e21⟩ := hh6
        obtain rfl : fs16 = fs19 := hx_inj g17 g20
        refine ax_go 1 (y := (18, [some (.ref o), some (.int k), some (.int i)], [.int i], w4, 0, 0)) rfl trivial ?_
        refine hx_k (l := 21) (m := 5721) rfl rfl (by decide) (fun z22 h23 => ?_)
        refine hx_ic_ge (l := 24) rfl rfl (fun h24 => ?_) (fun h24 => ?_)
        · -- 48
          refine ax_go 1 (y := (49, [some (.ref o), some (.int k), some (.int i)], [.ref o], w4, 0, 0)) rfl trivial ?_
          have q25 := hx_oq hw13 g17 hG0 (s := 30) rfl
          obtain ⟨p26, e27, hG28⟩ := hx_fr (k := 4) (s := 34) q25 rfl
          refine hx_gf (l := 52) rfl rfl rfl g17 e27 ?_
          refine ax_go 1 (y := (53, [some (.ref o), some (.int k), some (.int i)], [.int k, .ref p26], w4, 0, 0)) rfl trivial ?_
          refine hx_k (l := 54) (m := 1) rfl rfl (by decide) (fun z29 h30 => ?_)
          obtain ⟨f31, g32, r33⟩ := hx_row hw13 hG28 (s := 34) (kd := 3) (n := 2) rfl (by decide)
          refine hx_bs (s := 34) (l := 55) rfl rfl (by decide) rfl hw13 hG28 g32 (by omega) (by omega) (fun w34 f35 g36 e37 o38 n39 hw40 n41 => ?_)
          have hs42 := ty_same_tr hs15 (n41 fz (hx_ok hfz (by decide)))
          have hKP : KP (fun i => fi (5721 * k.toInt.toNat + i)) := KP_ext (hf14.1.1 _ _ hG_pk g7) (fun j hj => hcp j (by omega))
          have hf43 : F9 G F w34 := F9x_done hf14 (by omega) hU3 hG28 hG_pi g8 g32 g36 n39 (fun j hj => o38 j (by omega)) hKP (hF _ _ (smt_of (n41 prN (by decide))) hf14.2)
          refine ax_go 1 (y := (56, [some (.ref o), some (.int k), some (.int i)], [.ref o], w34, 0, 0)) rfl trivial ?_
          refine hx_k (l := 57) (m := 0) rfl rfl (by decide) (fun z44 h45 => ?_)
          refine hx_pi (l := 60) (as := [.ref o, .int z44]) rfl rfl (hx_iv (j := 125) (n := 1) (o := o) (r := []) rfl rfl ((n39 _ (hx_ne hG0 hG28 (by decide))).trans g17) rfl) (ht_X9_good (fz := fz) hFF (fun q hq => (by decide +kernel : ∀ q ∈ fb_ht_X9_image, q ∈ fb_ht_X9_good) q (hfz q hq)) (d + 0)) hw40 hf43 ⟨(hx_tr (G := G) (s := 30) (b := 0) hG0 (by decide)), (ck_top_ok (G := G) z44), trivial⟩ trivial (fun w46 z51 hw47 hf48 m49 a52 b53 u54 => ?_)
          have hs50 := ty_same_tr hs42 m49
          replace u54 := u54 _ _ _ rfl rfl
          exact ax_ret rfl rfl trivial ⟨some (.int z51), _, rfl, hw47, hf48, hs50, (ck_top_ok (G := G) z51), (fun o1 k1 z1 h1 h2 => by cases h1; cases h2; omega)⟩
        · -- 24
          refine ax_go 1 (y := (25, [some (.ref o), some (.int k), some (.int i)], [.ref o], w4, 0, 0)) rfl trivial ?_
          refine hx_gf (l := 28) rfl rfl rfl g17 e21 ?_
          refine hx_k (l := 31) (m := 5721) rfl rfl (by decide) (fun z55 h56 => ?_)
          refine ax_go 1 (y := (32, [some (.ref o), some (.int k), some (.int i)], [.int k, .int z55, .ref pi], w4, 0, 0)) rfl trivial ?_
          refine hx_mul (l := 33) rfl rfl (fun z57 h58 => ?_)
          rw [h56] at h58
          replace h58 := h58 (by omega) (by omega)
          refine ax_go 1 (y := (34, [some (.ref o), some (.int k), some (.int i)], [.int i, .int z57, .ref pi], w4, 0, 0)) rfl trivial ?_
          refine hx_add (l := 35) rfl rfl (fun z59 h60 => ?_)
          replace h60 := h60 (by omega) (by omega)
          refine ax_go 1 (y := (36, [some (.ref o), some (.int k), some (.int i)], [.ref o, .int z59, .ref pi], w4, 0, 0)) rfl trivial ?_
          refine hx_gf (l := 39) rfl rfl rfl g17 e18 ?_
          refine ax_go 1 (y := (40, [some (.ref o), some (.int k), some (.int i)], [.int i, .ref pk, .int z59, .ref pi], w4, 0, 0)) rfl trivial ?_
          have r61 := hx_rq hw13 g7 hG_pk (s := 32) rfl
          refine hx_il (l := 41) rfl rfl g7 (by omega) (by omega) (fun z62 h63 => ?_)
          refine hx_is (s := 33) (l := 42) rfl rfl rfl hw13 hG_pi g8 (by omega) (by omega) hx_sg0 (fun w64 f65 g66 e67 o68 n69 hw70 n71 => ?_)
          have hs72 := ty_same_tr hs15 (n71 fz (hx_ok hfz (by decide)))
          have hf73 : F9x G F k.toInt.toNat w64 := F9x_put hf14 hG_pi g8 g66 n69 o68 (by omega) (hF _ _ (smt_of (n71 prN (by decide))) hf14.2)
          refine hx_iinc (x := i) (n := 1) (l := 45) rfl rfl rfl (Nat.le_of_ble_eq_true rfl) (by omega) (by omega) (by decide) (fun z74 h75 => ?_)
          change ab_wp ro (ab_Ev ro ab_codes (d + 1)) 9 false (some .int) ab_k_X9_image (fun o_1 => ∃ v w1, o_1 = (v, w1, 0, 0) ∧ ty_w sp_ G w1 ∧ (F9 G F) w1 ∧ ty_same G fz w w1 ∧ ck_res G (some (0, (-2147483648), 2147483647)) v ∧ (fun as w v w1 => ∀ (o : Nat) (k z : Int32), as = [.ref o, .int k] → v = some (.int z) → ((0 ≤ k.toInt ∧ k.toInt ≤ 1) ∧ z.toInt = 0) ∨ (¬ (0 ≤ k.toInt ∧ k.toInt ≤ 1) ∧ z.toInt = -1)) ([.ref o, .int k] : List Value) w v w1) (45, [some (.ref o), some (.int k), some (.int z74)], [], w64, 0, 0)
          refine ax_go 1 (y := (17, [some (.ref o), some (.int k), some (.int z74)], [], w64, 0, 0)) rfl trivial ?_
          exact ih17 w64 z74 f65 hw70 hf73 hs72 ⟨_, ((n69 _ (hx_ne hG0 hG_pi (by decide))).trans g17), e18⟩ ⟨_, ((n69 _ (hx_ne hG0 hG_pi (by decide))).trans g17), e21⟩ ((n69 _ (hx_ne hG_pk hG_pi (by decide))).trans g7) g66 (by omega) (by omega) (by omega) (by omega) (fun j hj => by
            by_cases zz : (j : Int) = i.toInt
            · rw [show 5721 * k.toInt.toNat + j = z59.toInt.toNat by omega, e67, h63, show i.toInt.toNat = j by omega]
            · rw [o68 _ (by omega)]; exact hcp j (by omega)) (by omega)
    change ab_wp ro (ab_Ev ro ab_codes (d + 1)) 9 false (some .int) ab_k_X9_image (fun o_1 => ∃ v w1, o_1 = (v, w1, 0, 0) ∧ ty_w sp_ G w1 ∧ (F9 G F) w1 ∧ ty_same G fz w w1 ∧ ck_res G (some (0, (-2147483648), 2147483647)) v ∧ (fun as w v w1 => ∀ (o : Nat) (k z : Int32), as = [.ref o, .int k] → v = some (.int z) → ((0 ≤ k.toInt ∧ k.toInt ≤ 1) ∧ z.toInt = 0) ∨ (¬ (0 ≤ k.toInt ∧ k.toInt ≤ 1) ∧ z.toInt = -1)) ([.ref o, .int k] : List Value) w v w1) (0, [some (.ref o), some (.int k), none], [], w, 0, 0)
    refine ax_go 1 (y := (1, [some (.ref o), some (.int k), none], [.int k], w, 0, 0)) rfl trivial ?_
    refine hx_k (l := 2) (m := 0) rfl rfl (by decide) (fun z76 h77 => ?_)
    refine hx_k (l := 3) (m := 1) rfl rfl (by decide) (fun z78 h79 => ?_)
    refine hx_pi (l := 6) (as := [.int k, .int z76, .int z78]) rfl rfl rfl (hp_X9_lies (fz := fz) hFF (fun q hq => (by decide +kernel : ∀ q ∈ fb_ht_X9_image, q ∈ fb_hp_X9_lies) q (hfz q hq)) (d + 0)) hw hf ⟨(ck_top_ok (G := G) k), (ck_top_ok (G := G) z76), (ck_top_ok (G := G) z78), trivial⟩ trivial (fun w80 z85 hw81 hf82 m83 a86 b87 u88 => ?_)
    rw [u88.1]
    have u89 := u88.2 _ _ _ _ rfl rfl
    clear u88
    refine hx_if_ne (l := 9) rfl rfl (fun h90 => ?_) (fun h90 => ?_)
    · -- 15
      replace u89 := u89.1 (by omega)
      refine hx_k (l := 16) (m := 0) rfl rfl (by decide) (fun z91 h92 => ?_)
      refine ax_go 1 (y := (17, [some (.ref o), some (.int k), some (.int z91)], [], w, 0, 0)) rfl trivial ?_
      obtain ⟨f93, g94, r95⟩ := hx_row hw hG_pi (s := 33) (kd := 0) (n := 11442) rfl (by decide)
      exact ct17 _ w z91 f93 hw (F9x_of hf) (ty_same_rf w) ⟨_, g2, e_pk⟩ ⟨_, g2, e_pi⟩ g_f0 g94 (by omega) (by omega) (by omega) (by omega) (fun j hj => absurd hj (by omega)) (Nat.lt_succ_self _)
    · -- 9
      replace u89 : ¬ (_ ∧ _) := fun hp => absurd (u89.2 hp) (by omega)
      refine ax_go 1 (y := (10, [some (.ref o), some (.int k), none], [.ref o], w, 0, 0)) rfl trivial ?_
      refine hx_k (l := 11) (m := (-1)) rfl rfl (by decide) (fun z96 h97 => ?_)
      refine hx_pi (l := 14) (as := [.ref o, .int z96]) rfl rfl (hx_iv (j := 124) (n := 1) (o := o) (r := []) rfl rfl g2 rfl) (ht_X9_refuses (fz := fz) hFF (fun q hq => (by decide +kernel : ∀ q ∈ fb_ht_X9_image, q ∈ fb_ht_X9_refuses) q (hfz q hq)) (d + 0)) hw hf ⟨(hx_tr (G := G) (s := 30) (b := 0) hG0 (by decide)), (hx_ti (G := G) (lo := (-6)) (hi := (-1)) (by omega) (by omega)), trivial⟩ trivial (fun w98 z103 hw99 hf100 m101 a104 b105 u106 => ?_)
      have hs102 := ty_same_tr (ty_same_rf w) m101
      replace u106 := u106 _ _ _ rfl rfl
      exact ax_ret rfl rfl trivial ⟨some (.int z103), _, rfl, hw99, hf100, hs102, (ck_top_ok (G := G) z103), (fun o1 k1 z1 h1 h2 => by cases h1; cases h2; omega)⟩
