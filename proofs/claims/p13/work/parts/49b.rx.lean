/-! the reader reads a text -/
section Rx
variable {ro : ab_R} {T : List im_T} {d : Nat} {q : Nat → Int} {A c k : Int → Int} {u : Int × Int × Int}
set_option maxHeartbeats 8000000 in
theorem c_read (hd : 80 ≤ d) (hT : T.length < 1000) (hA : tk_ok A) {N : Int} (hN : 0 ≤ N ∧ N ≤ 400) {od : Bool} {n : Nat} {rs : Int ⊕ List dC} (hall : d_all od (tk_C A N) (tk_X A N) n (tk_nt A N) = some rs) (hk : ∀ x, -1 ≤ k x ∧ k x ≤ 1000) (hc : ∀ x, 0 ≤ c x ∧ c x ≤ 100000) (h3 : im_ir (q 3)) : im_ct ro T d 43 [mr 0, .inl N, .inl (e_bi od)] (RW 0 q A u c k) (fun r w => ∃ q' u' c' k', w = RW 0 q' A u' c' k' ∧ RdF od A N rs r u' c' k') := by
  obtain ⟨d, rfl⟩ : ∃ e, d = e + 1 := ⟨d - 1, by omega⟩
  refine im_ct_of (own := 5) (ret := (some .int)) (code := ab_k_X5_read) (nL := 4) (L0 := [some (mr 0), some (.inl N), some (.inl (e_bi od)), none]) (n := 5) rfl rfl rfl rfl rfl rfl rfl rfl rfl ?_
  refine im_g 7 (y := (13, _, _, _)) rfl ⟨(by constructor <;> omega), (by constructor <;> omega), trivial⟩ ?_
  refine im_eqs (y := (13, [some (mr 0), some (.inl N), some (.inl (e_bi od)), none], [], RW 0 (pl_U q 0 N) A u c k)) (congrArg (fun z => ((13, [some (mr 0), some (.inl N), some (.inl (e_bi od)), none], [], RW 0 (pl_U q 0 z) A u c k) : im_S)) (show min N ((400 : Nat) : Int) = N by omega)) ?_
  refine im_g 5 (y := (22, _, _, _)) rfl ⟨(by exact e_bi_b od), trivial⟩ ?_
  refine im_call [2,3,4] rfl rfl (c_txclear (cl := 436) (kl := 60) (u := u) (c := c) (k := k) (by omega) hT) rfl rfl rfl (by decide) rfl (by decide) hT (fun v1 w1 hq => ?_)
  obtain ⟨rfl, rfl⟩ := hq
  refine ⟨_, _, RW 0 (pl_U (pl_U q 0 N) 6 (e_bi od)) A (0, 0, 0) c k, rfl, rfl, rfl, ?_⟩
  refine im_g 10 (y := (41, _, _, _)) rfl trivial ?_
  refine im_call [0,1,2,3,4] rfl rfl (c_step0 (q := (pl_U (pl_U (pl_U (pl_U (pl_U q 0 N) 6 (e_bi od)) 4 0) 5 (-1)) 2 0)) (A := A) (u := (0, 0, 0)) (c := c) (k := k) (by omega) hT hA ⟨hN, ⟨Int.le_refl _, hN.1⟩, rfl, h3⟩) rfl rfl rfl (by decide) rfl (by decide) hT (fun v1 w1 hq => ?_)
  obtain ⟨rfl, rfl⟩ := hq
  refine ⟨_, _, RW 0 (rd_next A (pl_U (pl_U (pl_U (pl_U (pl_U q 0 N) 6 (e_bi od)) 4 0) 5 (-1)) 2 0)) A (0, 0, 0) c k, rfl, rfl, rfl, ?_⟩
  have htn := (tk_nt_b (A := A) hN).1
  have hS0 : RdS od A N 0 0 (0, 0, 0) c (rd_next A (pl_U (pl_U (pl_U (pl_U (pl_U q 0 N) 6 (e_bi od)) 4 0) 5 (-1)) 2 0)) := ⟨⟨rfl, rfl, rfl, by decide⟩, ⟨hN, Int.le_refl _, rfl, rfl, rfl, rfl⟩, ⟨by decide, by decide, by decide, hc⟩⟩
  refine im_g 2 (y := (46, _, _, _)) rfl trivial ?_
  have key : ∀ (p m : Nat) (i l : Int) (u : Int × Int × Int) (c k : Int → Int) (q : Nat → Int) (Cs : List dC) (rs : Int ⊕ List dC), m + p = 12 → Cs.length = m → RdS od A N i l u c q → u.2.1 = (m : Int) → u.1 ≤ i + 3 * (m : Int) → i ≤ tk_nt A N → (∀ x, -1 ≤ k x ∧ k x ≤ 1000) → TXL od c u.1 u.2.2 k Cs → DCR od (tk_C A N) (tk_X A N) n (tk_nt A N) p i l rs → im_wp ro (ab_Ev ro ab_codes d) 5 (some .int) ab_k_X5_read 5 T (fun r w => ∃ q' u' c' k', w = RW 0 q' A u' c' k' ∧ RdF od A N (cats Cs rs) r u' c' k') (46, [some (mr 0), some (.inl N), some (.inl (e_bi od)), some (.inl (m : Int))], [], RW 0 q A u c k) := by
    intro p
    induction p with
    | zero =>
      intro m i l u c k q Cs rs hm hlen hS hz hu hi hkb hL hD
      have hy : rs = .inl i := hD
      have hF := RdS_fail (i0 := i) (u0 := u) (c0 := c) (need := 0) hS rfl
      refine im_g 2 (y := (49, _, _, _)) rfl trivial ?_
      refine im_bF rfl rfl ⟨(by omega), (by omega), trivial⟩ (by omega) ?_
      refine im_g 2 (y := (55, _, _, _)) rfl trivial ?_
      refine im_bF rfl rfl ⟨(by omega), (by omega), trivial⟩ (by omega) ?_
      refine im_g 1 (y := (59, _, _, _)) rfl trivial ?_
      refine im_call [0,1,2,3,4] rfl rfl (c_fail (q := q) (A := A) (u := u) (c := c) (k := k) (by omega) hT (by rw [hS.2.1.2.2.2.2.2]; decide)) rfl rfl rfl (by decide) rfl (by decide) hT (fun v1 w1 hq => ?_)
      obtain ⟨rfl, rfl⟩ := hq
      refine ⟨_, _, RW 0 (rd_fail q) A u c k, rfl, rfl, rfl, ?_⟩
      refine im_g 1 (y := (112, _, _, _)) rfl trivial ?_
      refine im_g 2 (y := (116, _, _, _)) rfl trivial ?_
      refine im_bF rfl rfl ⟨(by rw [hF.2.2.2.2.2.1]; decide), trivial⟩ (by have t := hF.2.2.2.2.2.1; omega) ?_
      refine im_g 1 (y := (120, _, _, _)) rfl trivial ?_
      refine im_call [0,1,2,3,4] rfl rfl (c_fail (q := (rd_fail q)) (A := A) (u := u) (c := c) (k := k) (by omega) hT (by have t := hF.2.2.2.2.2.2; constructor <;> omega)) rfl rfl rfl (by decide) rfl (by decide) hT (fun v1 w1 hq => ?_)
      obtain ⟨rfl, rfl⟩ := hq
      refine ⟨_, _, RW 0 (rd_fail (rd_fail q)) A u c k, rfl, rfl, rfl, ?_⟩
      refine im_g 2 (y := (127, _, _, _)) rfl trivial ?_
      refine im_r rfl rfl trivial rfl ?_
      rw [RDd_dead hF.2.2.2]
      have hrs : cats Cs rs = .inl i := by rw [hy]; rfl
      rw [hrs]
      refine ⟨_, _, _, _, rfl, hS.2.2, hkb, ?_⟩
      exact congrArg (fun z => some (Sum.inl z)) hF.2.2.2.2.2.2.1
    | succ p ih =>
      intro m i l u c k q Cs rs hm hlen hS hz hu hi hkb hL hD
      have hO := CLp_open hS hz (by omega) hu hkb
      have h6 := hO.1.1.2.1
      cases od with
      | false =>
        refine im_g 2 (y := (49, _, _, _)) rfl trivial ?_
        refine im_bF rfl rfl ⟨(by omega), (by omega), trivial⟩ (by omega) ?_
        refine im_g 2 (y := (55, _, _, _)) rfl trivial ?_
        refine im_bT rfl rfl ⟨(by omega), (by omega), trivial⟩ (by omega) ?_
        refine im_g 2 (y := (69, _, _, _)) rfl trivial ?_
        refine im_call [2,3,4] rfl rfl (c_open (cl := 436) (kl := 60) (u := u) (c := c) (k := k) (by omega) hT (by decide) (by omega)) rfl rfl rfl (by decide) rfl (by decide) hT (fun v1 w1 hq => ?_)
        obtain ⟨rfl, rfl⟩ := hq
        refine ⟨_, _, RW 0 q A (u.1, tx_more 60 u.2.1, u.2.2) c (tx_open 60 u.2.1 k), rfl, rfl, rfl, ?_⟩
        have hrd : ∀ {res : dQ}, d_cl false (tk_C A N) (tk_X A N) n i l = some res → im_ct ro T d 44 [mr 0] (RW 0 q A (u.1, tx_more 60 u.2.1, u.2.2) c (tx_open 60 u.2.1 k)) (fun r w => r = none ∧ ∃ q' u' c' k', w = RW 0 q' A u' c' k' ∧ CLq false A N (m : Int) u c k (3 * (m : Int) + 3) res u' c' k' q') := fun {res} hc => c_rule (by omega) hT hA (by omega) hO (by omega) (res := res) hc
        have hcb : ∀ {j9 l9 : Int} {q9 : dC}, d_cl false (tk_C A N) (tk_X A N) n i l = some (.inr (j9, l9, q9)) → True := fun _ => trivial
        rcases hD with ⟨f9, hc, hy⟩ | ⟨j9, l9, q9, y9, hc, hd9, hy⟩
        · have hR := hrd hc
          refine im_g 2 (y := (76, _, _, _)) rfl trivial ?_
          refine im_bT rfl rfl ⟨(by first | (show im_ir (q 6); rw [h6]; decide) | decide), trivial⟩ (show q 6 = 0 by rw [h6]; rfl) ?_
          refine im_g 1 (y := (87, _, _, _)) rfl trivial ?_
          refine im_call [0,1,2,3,4] rfl rfl (hR) rfl rfl rfl (by decide) rfl (by decide) hT (fun v1 w1 hq => ?_)
          obtain ⟨rfl, q2, u2, c2, k2, rfl, hC2⟩ := hq
          refine ⟨_, _, RW 0 q2 A u2 c2 k2, rfl, rfl, rfl, ?_⟩
          refine im_g 2 (y := (93, _, _, _)) rfl trivial ?_
          refine im_call [0,1,2,3,4] rfl rfl (c_isSignD (q := q2) (A := A) (u := u2) (c := c2) (k := k2) (by omega) hT hC2.2.2.2.2.2.2.1 (b := 59)) rfl rfl rfl (by decide) rfl (by decide) hT (fun v1 w1 hq => ?_)
          obtain ⟨rfl, rfl⟩ := hq
          refine ⟨_, _, RW 0 q2 A u2 c2 k2, rfl, rfl, rfl, ?_⟩
          refine im_bF rfl rfl ⟨(by decide), trivial⟩ (fun z => z rfl) ?_
          refine im_g 3 (y := (116, _, _, _)) rfl trivial ?_
          refine im_bF rfl rfl ⟨(by rw [hC2.2.2.2.2.2.2.1]; decide), trivial⟩ (by have t := hC2.2.2.2.2.2.2.1; omega) ?_
          refine im_g 1 (y := (120, _, _, _)) rfl trivial ?_
          refine im_call [0,1,2,3,4] rfl rfl (c_fail (q := q2) (A := A) (u := u2) (c := c2) (k := k2) (by omega) hT (by have t := hC2.2.2.2.2.2.2.2; constructor <;> omega)) rfl rfl rfl (by decide) rfl (by decide) hT (fun v1 w1 hq => ?_)
          obtain ⟨rfl, rfl⟩ := hq
          refine ⟨_, _, RW 0 (rd_fail q2) A u2 c2 k2, rfl, rfl, rfl, ?_⟩
          refine im_g 2 (y := (127, _, _, _)) rfl trivial ?_
          refine im_r rfl rfl trivial rfl ?_
          rw [RDd_dead hC2.2.2.2.2]
          have hrs : cats Cs rs = .inl f9 := by rw [hy]; rfl
          rw [hrs]
          refine ⟨_, _, _, _, rfl, hC2.2.1, hC2.2.2.2.1, ?_⟩
          exact congrArg (fun z => some (Sum.inl z)) hC2.2.2.2.2.2.2.2.1
        · have hR := hrd hc
          refine im_g 2 (y := (76, _, _, _)) rfl trivial ?_
          refine im_bT rfl rfl ⟨(by first | (show im_ir (q 6); rw [h6]; decide) | decide), trivial⟩ (show q 6 = 0 by rw [h6]; rfl) ?_
          refine im_g 1 (y := (87, _, _, _)) rfl trivial ?_
          refine im_call [0,1,2,3,4] rfl rfl (hR) rfl rfl rfl (by decide) rfl (by decide) hT (fun v1 w1 hq => ?_)
          obtain ⟨rfl, q2, u2, c2, k2, rfl, hC2⟩ := hq
          refine ⟨_, _, RW 0 q2 A u2 c2 k2, rfl, rfl, rfl, ?_⟩
          obtain ⟨a1, a2, a3, a4, a5, a6, -⟩ := id hC2
          have hL2 := TXL_more (z := (m : Int)) (by omega) hL hC2
          have hj9 := hcb hc
          have hlen2 : (Cs ++ [q9]).length = m + 1 := by rw [List.length_append, hlen]; rfl
          rcases d_rest_d hd9 with ⟨h159, hD2⟩ | ⟨hn159, hrr⟩
          · refine im_g 2 (y := (93, _, _, _)) rfl trivial ?_
            refine im_call [0,1,2,3,4] rfl rfl (w_sign (q := q2) (u := u2) (c := c2) (k := k2) (by omega) hT hA a1 (b := 59) (by decide)) rfl rfl rfl (by decide) rfl (by decide) hT (fun v1 w1 hq => ?_)
            obtain ⟨rfl, rfl⟩ := hq
            refine ⟨_, _, RW 0 q2 A u2 c2 k2, rfl, rfl, rfl, ?_⟩
            rw [if_pos (show tk_C A N j9 = 100 + 59 from h159)]
            refine im_bT rfl rfl ⟨(by decide), trivial⟩ (by decide) ?_
            refine im_g 1 (y := (103, _, _, _)) rfl trivial ?_
            refine im_call [0,1,2,3,4] rfl rfl (c_step (q := q2) (A := A) (u := u2) (c := c2) (k := k2) (by omega) hT hA a1.2.1) rfl rfl rfl (by decide) rfl (by decide) hT (fun v1 w1 hq => ?_)
            obtain ⟨rfl, rfl⟩ := hq
            refine ⟨_, _, RW 0 (rd_next A q2) A u2 c2 k2, rfl, rfl, rfl, ?_⟩
            refine im_g 2 (y := (46, _, _, _)) rfl trivial ?_
            have hlt := tk_lt (A := A) hN (i := j9) (by omega)
            have t := ih (m + 1) (j9 + 1) l9 u2 c2 k2 _ (Cs ++ [q9]) y9 (by omega) hlen2 (RdS_next a1) (by omega) (by omega) hlt a5 hL2 hD2
            rw [← cats_s, ← hy] at t
            exact t
          · have hkd := a1.2.1.2.2.2.2.1
            have hql := tk_Q_lt (A := A) hN (j := j9) a1.2.1.2.1
            have hq1 := a1.2.1.2.2.1
            rw [a1.1.1] at hkd hq1
            rw [hq1] at hkd
            have hk0 := @tk_kind_0 A N (tk_Q A N j9)
            have hkb2 := tk_kind_b A N (tk_Q A N j9)
            rcases hrr with ⟨hlt, hy9⟩ | ⟨hge, hy9⟩
            · refine im_g 2 (y := (93, _, _, _)) rfl trivial ?_
              refine im_call [0,1,2,3,4] rfl rfl (w_sign (q := q2) (u := u2) (c := c2) (k := k2) (by omega) hT hA a1 (b := 59) (by decide)) rfl rfl rfl (by decide) rfl (by decide) hT (fun v1 w1 hq => ?_)
              obtain ⟨rfl, rfl⟩ := hq
              refine ⟨_, _, RW 0 q2 A u2 c2 k2, rfl, rfl, rfl, ?_⟩
              rw [if_neg (show ¬ tk_C A N j9 = 100 + 59 from hn159)]
              refine im_bF rfl rfl ⟨(by decide), trivial⟩ (fun z => z rfl) ?_
              refine im_g 3 (y := (116, _, _, _)) rfl trivial ?_
              refine im_bF rfl rfl ⟨(by rw [hkd]; constructor <;> omega), trivial⟩ (by rw [hkd, hk0, hql]; exact fun z => z hlt) ?_
              refine im_g 1 (y := (120, _, _, _)) rfl trivial ?_
              refine im_call [0,1,2,3,4] rfl rfl (c_fail (q := q2) (A := A) (u := u2) (c := c2) (k := k2) (by omega) hT (by rw [a1.2.1.2.2.2.2.2]; decide)) rfl rfl rfl (by decide) rfl (by decide) hT (fun v1 w1 hq => ?_)
              obtain ⟨rfl, rfl⟩ := hq
              refine ⟨_, _, RW 0 (rd_fail q2) A u2 c2 k2, rfl, rfl, rfl, ?_⟩
              refine im_g 2 (y := (127, _, _, _)) rfl trivial ?_
              refine im_r rfl rfl trivial rfl ?_
              have hrs : cats Cs rs = .inl j9 := by rw [hy, hy9]; rfl
              rw [hrs]
              have hfd := RDd_fail a1.2.1
              rw [a1.1.1] at hfd
              refine ⟨_, _, _, _, rfl, a1.2.2, a5, ?_⟩
              exact congrArg (fun z => some (Sum.inl z)) hfd.2.2.2.1
            · refine im_g 2 (y := (93, _, _, _)) rfl trivial ?_
              refine im_call [0,1,2,3,4] rfl rfl (w_sign (q := q2) (u := u2) (c := c2) (k := k2) (by omega) hT hA a1 (b := 59) (by decide)) rfl rfl rfl (by decide) rfl (by decide) hT (fun v1 w1 hq => ?_)
              obtain ⟨rfl, rfl⟩ := hq
              refine ⟨_, _, RW 0 q2 A u2 c2 k2, rfl, rfl, rfl, ?_⟩
              rw [if_neg (show ¬ tk_C A N j9 = 100 + 59 from hn159)]
              refine im_bF rfl rfl ⟨(by decide), trivial⟩ (fun z => z rfl) ?_
              refine im_g 3 (y := (116, _, _, _)) rfl trivial ?_
              refine im_bT rfl rfl ⟨(by rw [hkd]; constructor <;> omega), trivial⟩ (by rw [hkd, hk0, hql]; exact hge) ?_
              refine im_g 2 (y := (127, _, _, _)) rfl trivial ?_
              refine im_r rfl rfl trivial rfl ?_
              have hrs : cats Cs rs = .inr (Cs ++ [q9]) := by rw [hy, hy9]; rfl
              rw [hrs]
              refine ⟨_, _, _, _, rfl, a1.2.2, a5, ?_, ?_, hL2⟩
              · exact congrArg (fun z => some (Sum.inl z)) a1.2.1.2.2.2.2.2
              · rw [hlen2]; omega
      | true =>
        refine im_g 2 (y := (49, _, _, _)) rfl trivial ?_
        refine im_bF rfl rfl ⟨(by omega), (by omega), trivial⟩ (by omega) ?_
        refine im_g 2 (y := (55, _, _, _)) rfl trivial ?_
        refine im_bT rfl rfl ⟨(by omega), (by omega), trivial⟩ (by omega) ?_
        refine im_g 2 (y := (69, _, _, _)) rfl trivial ?_
        refine im_call [2,3,4] rfl rfl (c_open (cl := 436) (kl := 60) (u := u) (c := c) (k := k) (by omega) hT (by decide) (by omega)) rfl rfl rfl (by decide) rfl (by decide) hT (fun v1 w1 hq => ?_)
        obtain ⟨rfl, rfl⟩ := hq
        refine ⟨_, _, RW 0 q A (u.1, tx_more 60 u.2.1, u.2.2) c (tx_open 60 u.2.1 k), rfl, rfl, rfl, ?_⟩
        have hrd : ∀ {res : dQ}, d_cl true (tk_C A N) (tk_X A N) n i l = some res → im_ct ro T d 45 [mr 0] (RW 0 q A (u.1, tx_more 60 u.2.1, u.2.2) c (tx_open 60 u.2.1 k)) (fun r w => r = none ∧ ∃ q' u' c' k', w = RW 0 q' A u' c' k' ∧ CLq true A N (m : Int) u c k (3 * (m : Int) + 3) res u' c' k' q') := fun {res} hc => c_ord (by omega) hT hA (by omega) hO (by omega) (res := res) hc
        have hcb : ∀ {j9 l9 : Int} {q9 : dC}, d_cl true (tk_C A N) (tk_X A N) n i l = some (.inr (j9, l9, q9)) → True := fun _ => trivial
        rcases hD with ⟨f9, hc, hy⟩ | ⟨j9, l9, q9, y9, hc, hd9, hy⟩
        · have hR := hrd hc
          refine im_g 2 (y := (76, _, _, _)) rfl trivial ?_
          refine im_bF rfl rfl ⟨(by first | (show im_ir (q 6); rw [h6]; decide) | decide), trivial⟩ (show ¬ q 6 = 0 by rw [h6]; decide) ?_
          refine im_g 1 (y := (80, _, _, _)) rfl trivial ?_
          refine im_call [0,1,2,3,4] rfl rfl (hR) rfl rfl rfl (by decide) rfl (by decide) hT (fun v1 w1 hq => ?_)
          obtain ⟨rfl, q2, u2, c2, k2, rfl, hC2⟩ := hq
          refine ⟨_, _, RW 0 q2 A u2 c2 k2, rfl, rfl, rfl, ?_⟩
          refine im_g 1 (y := (90, _, _, _)) rfl trivial ?_
          refine im_g 2 (y := (93, _, _, _)) rfl trivial ?_
          refine im_call [0,1,2,3,4] rfl rfl (c_isSignD (q := q2) (A := A) (u := u2) (c := c2) (k := k2) (by omega) hT hC2.2.2.2.2.2.2.1 (b := 59)) rfl rfl rfl (by decide) rfl (by decide) hT (fun v1 w1 hq => ?_)
          obtain ⟨rfl, rfl⟩ := hq
          refine ⟨_, _, RW 0 q2 A u2 c2 k2, rfl, rfl, rfl, ?_⟩
          refine im_bF rfl rfl ⟨(by decide), trivial⟩ (fun z => z rfl) ?_
          refine im_g 3 (y := (116, _, _, _)) rfl trivial ?_
          refine im_bF rfl rfl ⟨(by rw [hC2.2.2.2.2.2.2.1]; decide), trivial⟩ (by have t := hC2.2.2.2.2.2.2.1; omega) ?_
          refine im_g 1 (y := (120, _, _, _)) rfl trivial ?_
          refine im_call [0,1,2,3,4] rfl rfl (c_fail (q := q2) (A := A) (u := u2) (c := c2) (k := k2) (by omega) hT (by have t := hC2.2.2.2.2.2.2.2; constructor <;> omega)) rfl rfl rfl (by decide) rfl (by decide) hT (fun v1 w1 hq => ?_)
          obtain ⟨rfl, rfl⟩ := hq
          refine ⟨_, _, RW 0 (rd_fail q2) A u2 c2 k2, rfl, rfl, rfl, ?_⟩
          refine im_g 2 (y := (127, _, _, _)) rfl trivial ?_
          refine im_r rfl rfl trivial rfl ?_
          rw [RDd_dead hC2.2.2.2.2]
          have hrs : cats Cs rs = .inl f9 := by rw [hy]; rfl
          rw [hrs]
          refine ⟨_, _, _, _, rfl, hC2.2.1, hC2.2.2.2.1, ?_⟩
          exact congrArg (fun z => some (Sum.inl z)) hC2.2.2.2.2.2.2.2.1
        · have hR := hrd hc
          refine im_g 2 (y := (76, _, _, _)) rfl trivial ?_
          refine im_bF rfl rfl ⟨(by first | (show im_ir (q 6); rw [h6]; decide) | decide), trivial⟩ (show ¬ q 6 = 0 by rw [h6]; decide) ?_
          refine im_g 1 (y := (80, _, _, _)) rfl trivial ?_
          refine im_call [0,1,2,3,4] rfl rfl (hR) rfl rfl rfl (by decide) rfl (by decide) hT (fun v1 w1 hq => ?_)
          obtain ⟨rfl, q2, u2, c2, k2, rfl, hC2⟩ := hq
          refine ⟨_, _, RW 0 q2 A u2 c2 k2, rfl, rfl, rfl, ?_⟩
          refine im_g 1 (y := (90, _, _, _)) rfl trivial ?_
          obtain ⟨a1, a2, a3, a4, a5, a6, -⟩ := id hC2
          have hL2 := TXL_more (z := (m : Int)) (by omega) hL hC2
          have hj9 := hcb hc
          have hlen2 : (Cs ++ [q9]).length = m + 1 := by rw [List.length_append, hlen]; rfl
          rcases d_rest_d hd9 with ⟨h159, hD2⟩ | ⟨hn159, hrr⟩
          · refine im_g 2 (y := (93, _, _, _)) rfl trivial ?_
            refine im_call [0,1,2,3,4] rfl rfl (w_sign (q := q2) (u := u2) (c := c2) (k := k2) (by omega) hT hA a1 (b := 59) (by decide)) rfl rfl rfl (by decide) rfl (by decide) hT (fun v1 w1 hq => ?_)
            obtain ⟨rfl, rfl⟩ := hq
            refine ⟨_, _, RW 0 q2 A u2 c2 k2, rfl, rfl, rfl, ?_⟩
            rw [if_pos (show tk_C A N j9 = 100 + 59 from h159)]
            refine im_bT rfl rfl ⟨(by decide), trivial⟩ (by decide) ?_
            refine im_g 1 (y := (103, _, _, _)) rfl trivial ?_
            refine im_call [0,1,2,3,4] rfl rfl (c_step (q := q2) (A := A) (u := u2) (c := c2) (k := k2) (by omega) hT hA a1.2.1) rfl rfl rfl (by decide) rfl (by decide) hT (fun v1 w1 hq => ?_)
            obtain ⟨rfl, rfl⟩ := hq
            refine ⟨_, _, RW 0 (rd_next A q2) A u2 c2 k2, rfl, rfl, rfl, ?_⟩
            refine im_g 2 (y := (46, _, _, _)) rfl trivial ?_
            have hlt := tk_lt (A := A) hN (i := j9) (by omega)
            have t := ih (m + 1) (j9 + 1) l9 u2 c2 k2 _ (Cs ++ [q9]) y9 (by omega) hlen2 (RdS_next a1) (by omega) (by omega) hlt a5 hL2 hD2
            rw [← cats_s, ← hy] at t
            exact t
          · have hkd := a1.2.1.2.2.2.2.1
            have hql := tk_Q_lt (A := A) hN (j := j9) a1.2.1.2.1
            have hq1 := a1.2.1.2.2.1
            rw [a1.1.1] at hkd hq1
            rw [hq1] at hkd
            have hk0 := @tk_kind_0 A N (tk_Q A N j9)
            have hkb2 := tk_kind_b A N (tk_Q A N j9)
            rcases hrr with ⟨hlt, hy9⟩ | ⟨hge, hy9⟩
            · refine im_g 2 (y := (93, _, _, _)) rfl trivial ?_
              refine im_call [0,1,2,3,4] rfl rfl (w_sign (q := q2) (u := u2) (c := c2) (k := k2) (by omega) hT hA a1 (b := 59) (by decide)) rfl rfl rfl (by decide) rfl (by decide) hT (fun v1 w1 hq => ?_)
              obtain ⟨rfl, rfl⟩ := hq
              refine ⟨_, _, RW 0 q2 A u2 c2 k2, rfl, rfl, rfl, ?_⟩
              rw [if_neg (show ¬ tk_C A N j9 = 100 + 59 from hn159)]
              refine im_bF rfl rfl ⟨(by decide), trivial⟩ (fun z => z rfl) ?_
              refine im_g 3 (y := (116, _, _, _)) rfl trivial ?_
              refine im_bF rfl rfl ⟨(by rw [hkd]; constructor <;> omega), trivial⟩ (by rw [hkd, hk0, hql]; exact fun z => z hlt) ?_
              refine im_g 1 (y := (120, _, _, _)) rfl trivial ?_
              refine im_call [0,1,2,3,4] rfl rfl (c_fail (q := q2) (A := A) (u := u2) (c := c2) (k := k2) (by omega) hT (by rw [a1.2.1.2.2.2.2.2]; decide)) rfl rfl rfl (by decide) rfl (by decide) hT (fun v1 w1 hq => ?_)
              obtain ⟨rfl, rfl⟩ := hq
              refine ⟨_, _, RW 0 (rd_fail q2) A u2 c2 k2, rfl, rfl, rfl, ?_⟩
              refine im_g 2 (y := (127, _, _, _)) rfl trivial ?_
              refine im_r rfl rfl trivial rfl ?_
              have hrs : cats Cs rs = .inl j9 := by rw [hy, hy9]; rfl
              rw [hrs]
              have hfd := RDd_fail a1.2.1
              rw [a1.1.1] at hfd
              refine ⟨_, _, _, _, rfl, a1.2.2, a5, ?_⟩
              exact congrArg (fun z => some (Sum.inl z)) hfd.2.2.2.1
            · refine im_g 2 (y := (93, _, _, _)) rfl trivial ?_
              refine im_call [0,1,2,3,4] rfl rfl (w_sign (q := q2) (u := u2) (c := c2) (k := k2) (by omega) hT hA a1 (b := 59) (by decide)) rfl rfl rfl (by decide) rfl (by decide) hT (fun v1 w1 hq => ?_)
              obtain ⟨rfl, rfl⟩ := hq
              refine ⟨_, _, RW 0 q2 A u2 c2 k2, rfl, rfl, rfl, ?_⟩
              rw [if_neg (show ¬ tk_C A N j9 = 100 + 59 from hn159)]
              refine im_bF rfl rfl ⟨(by decide), trivial⟩ (fun z => z rfl) ?_
              refine im_g 3 (y := (116, _, _, _)) rfl trivial ?_
              refine im_bT rfl rfl ⟨(by rw [hkd]; constructor <;> omega), trivial⟩ (by rw [hkd, hk0, hql]; exact hge) ?_
              refine im_g 2 (y := (127, _, _, _)) rfl trivial ?_
              refine im_r rfl rfl trivial rfl ?_
              have hrs : cats Cs rs = .inr (Cs ++ [q9]) := by rw [hy, hy9]; rfl
              rw [hrs]
              refine ⟨_, _, _, _, rfl, a1.2.2, a5, ?_, ?_, hL2⟩
              · exact congrArg (fun z => some (Sum.inl z)) a1.2.1.2.2.2.2.2
              · rw [hlen2]; omega
  have t := key 12 0 0 0 (0, 0, 0) c k _ [] rs rfl rfl hS0 rfl (by decide) htn.1 hk (fun i cl hi => nomatch hi) (d_all_d hall)
  rw [cats_0] at t
  exact t
end Rx
