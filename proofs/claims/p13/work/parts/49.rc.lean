/-! the reader reads clauses: what they leave -/
/-- a sum, a test, that was read, its stop behind it -/
def TXS (od : Bool) (c : Int → Int) (ub ov s : Int) (m : dM) : Prop := (s = -1 ∧ m = d_1) ∨ ((0 ≤ s ∧ ∃ t, t < ub ∧ SG od c s t 28 m ∧ c t % 16 = 0) ∧ DPm od m ov)
theorem TXS_mono {od : Bool} {c c' : Int → Int} {ub ub' ov ov' s : Int} {m : dM} (h : TXS od c ub ov s m) (hc : ∀ x, 0 ≤ x → x < ub → c' x = c x) (hb : ub ≤ ub') (ho : OVs ov ov') : TXS od c' ub' ov' s m := by
  rcases h with h | ⟨⟨h1, t, h2, h3, h4⟩, h5⟩
  · exact Or.inl h
  · have h6 := h3.1
    exact Or.inr ⟨⟨h1, t, by omega, SG_loc h3 (fun x q1 q2 => hc x (by omega) (by omega)), by rw [hc t (by omega) h2]; exact h4⟩, DPm_up h5 ho⟩
def RdT (od : Bool) (A : Int → Int) (N i : Int) (u : Int × Int × Int) (c : Int → Int) (res : dR) (q' : Nat → Int) (u' : Int × Int × Int) (c' : Int → Int) : Prop := (q' 0 = N ∧ q' 6 = e_bi od ∧ (0 ≤ q' 4 ∧ q' 4 ≤ 50)) ∧ TS u' c' ∧ u'.2.1 = u.2.1 ∧ (match res with
  | .inl f => RDd q' (tk_Q A N f)
  | .inr (j, l', m) => (RSt A q' j ∧ q' 4 = l') ∧ (u.1 ≤ u'.1 ∧ u'.1 + i ≤ u.1 + j + 1) ∧ (∀ x, 0 ≤ x → x < u.1 → c' x = c x) ∧ ((∃ t, t < u'.1 ∧ SG od c' u.1 t 28 m ∧ c' t % 16 = 0) ∧ DPm od m u'.2.2) ∧ OVs u.2.2 u'.2.2)
theorem RdT_of {od : Bool} {A : Int → Int} {N i nd : Int} {u u2 : Int × Int × Int} {c c2 : Int → Int} {res : dR} {q2 : Nat → Int} (h : RdP od A N i u c nd res q2 u2 c2) (hn : nd ≤ 28) (hroom : ∀ j l m, res = .inr (j, l, m) → u2.1 < 436) : RdT od A N i u c res q2 (rd_emu u2) (rd_emc u2 c2 0 0) := by
  have ht := TS_em h.2.1 (w := 0) (x := 0) (by decide) (by decide)
  match res, h, hroom with
  | .inl f, h, _ => exact ⟨h.1, ht, h.2.2.1, h.2.2.2⟩
  | .inr (j, l, m), h, hroom =>
    have hlt := hroom j l m rfl
    obtain ⟨h1, h2, h3, ⟨h4, h5⟩, ⟨h6, h6'⟩, h7, h8, h9, h10⟩ := h
    have s0 := h8.1
    have s1 := h2.1.1
    have hc := im_up_self c2 u2.1 (16 * 0 + 0)
    have hne : ∀ x, x < u2.1 → im_up c2 u2.1 (16 * 0 + 0) x = c2 x := fun x hx => im_up_ne c2 _ (by omega)
    rw [rd_emu_lt hlt, rd_emc_lt hlt] at ht ⊢
    refine ⟨h1, ht, h3, ⟨h4, h5⟩, ⟨by dsimp only; omega, by dsimp only; omega⟩, fun x q1 q2 => (hne x (by omega)).trans (h7 x q1 q2), ⟨⟨u2.1, by dsimp only; omega, SG_more (SG_loc h8 (fun x q1 q2 => hne x q2)) hn, by rw [hc]; decide⟩, h9⟩, h10⟩
/-- a clause as far as it is read -/
def CLp (od : Bool) (A : Int → Int) (N z : Int) (u0 : Int × Int × Int) (c0 k0 : Int → Int) (j l s : Int) (u : Int × Int × Int) (c k : Int → Int) (q : Nat → Int) (cl : dC) : Prop := RdS od A N j l u c q ∧ (u.2.1 = z + 1 ∧ u0.1 ≤ u.1 ∧ u.1 ≤ j + s ∧ 0 ≤ u0.1) ∧ (∀ x, 0 ≤ x → x < u0.1 → c x = c0 x) ∧ (∀ x, x < 5 * z → k x = k0 x) ∧ (∀ x, -1 ≤ k x ∧ k x ≤ 1000) ∧ OVs u0.2.2 u.2.2 ∧ (k (5 * z) = cl.1 ∧ k (5 * z + 1) = cl.2.1) ∧ TXS od c u.1 u.2.2 (k (5 * z + 2)) cl.2.2.1 ∧ TXS od c u.1 u.2.2 (k (5 * z + 3)) cl.2.2.2.1 ∧ TXS od c u.1 u.2.2 (k (5 * z + 4)) cl.2.2.2.2
/-- the same of one that is dead -/
def CLx (od : Bool) (A : Int → Int) (N z f : Int) (u : Int × Int × Int) (c k : Int → Int) (q : Nat → Int) : Prop := (q 0 = N ∧ q 6 = e_bi od ∧ (0 ≤ q 4 ∧ q 4 ≤ 50)) ∧ TS u c ∧ u.2.1 = z + 1 ∧ (∀ x, -1 ≤ k x ∧ k x ≤ 1000) ∧ RDd q (tk_Q A N f)
def CLq (od : Bool) (A : Int → Int) (N z : Int) (u0 : Int × Int × Int) (c0 k0 : Int → Int) (s : Int) (res : dQ) (u : Int × Int × Int) (c k : Int → Int) (q : Nat → Int) : Prop := match res with
  | .inl f => CLx od A N z f u c k q
  | .inr (j, l, cl) => CLp od A N z u0 c0 k0 j l s u c k q cl
theorem tx_put_at {z f x : Int} {k : Int → Int} (hz : 0 ≤ z ∧ z ≤ 11) (hf : 0 ≤ f ∧ f ≤ 4) : tx_put 60 (z + 1) f x k = im_up k (5 * z + f) x := by
  unfold tx_put
  rw [if_pos (by omega), show (z + 1 - 1) * 5 + f = 5 * z + f by omega]
theorem tx_put_b {z f x : Int} {k : Int → Int} (hk : ∀ y, -1 ≤ k y ∧ k y ≤ 1000) (hx : -1 ≤ x ∧ x ≤ 1000) : ∀ y, -1 ≤ tx_put 60 z f x k y ∧ tx_put 60 z f x k y ≤ 1000 := by
  unfold tx_put
  split
  · exact im_up_b hk hx
  · exact hk
section Clp
variable {od : Bool} {A : Int → Int} {N z : Int} {u0 : Int × Int × Int} {c0 k0 : Int → Int} {j l s : Int} {u : Int × Int × Int} {c k : Int → Int} {q : Nat → Int} {K t : Int} {m1 m2 m3 : dM}
theorem CLp_next (h : CLp od A N z u0 c0 k0 j l s u c k q (K, t, m1, m2, m3)) : CLp od A N z u0 c0 k0 (j + 1) l s u c k (rd_next A q) (K, t, m1, m2, m3) := by
  obtain ⟨h1, h2, h3⟩ := h
  exact ⟨RdS_next h1, by omega, h3⟩
theorem CLp_fail (h : CLp od A N z u0 c0 k0 j l s u c k q (K, t, m1, m2, m3)) : CLx od A N z j u c k (rd_fail q) := by
  obtain ⟨⟨⟨h1, h2, h3, h4⟩, h5, h6⟩, h7, h8, h9, h10, h11⟩ := h
  have t := RDd_fail h5
  rw [h1] at t
  exact ⟨⟨h1, h2, by show 0 ≤ q 4 ∧ q 4 ≤ 50; omega⟩, h6, h7.1, h10, t⟩
theorem CLp_kind (h : CLp od A N z u0 c0 k0 j l s u c k q (K, t, m1, m2, m3)) (hz : 0 ≤ z ∧ z ≤ 11) {K' : Int} (hK : 0 ≤ K' ∧ K' ≤ 3) : CLp od A N z u0 c0 k0 j l s u c (tx_put 60 u.2.1 0 K' k) q (K', t, m1, m2, m3) := by
  obtain ⟨h1, h2, h3, h4, h5, h6, h7, h8, h9, h10⟩ := h
  rw [h2.1, tx_put_at hz (by decide)]
  have hn : ∀ x, x ≠ 5 * z → im_up k (5 * z + 0) K' x = k x := fun x hx => im_up_ne k _ (by omega)
  refine ⟨h1, by rw [h2.1]; omega, h3, fun x hx => (hn x (by omega)).trans (h4 x hx), im_up_b h5 (by omega), h6, ⟨?_, ?_⟩, ?_, ?_, ?_⟩
  · exact (congrArg (im_up k (5 * z + 0) K') (show 5 * z = 5 * z + 0 by omega)).trans (im_up_self _ _ _)
  · rw [hn _ (by omega)]; exact h7.2
  · rw [hn _ (by omega)]; exact h8
  · rw [hn _ (by omega)]; exact h9
  · rw [hn _ (by omega)]; exact h10
theorem CLp_times (h : CLp od A N z u0 c0 k0 j l s u c k q (K, t, m1, m2, m3)) (hz : 0 ≤ z ∧ z ≤ 11) {t' : Int} (ht : 1 ≤ t' ∧ t' ≤ 20) : CLp od A N z u0 c0 k0 j l s u c (tx_put 60 u.2.1 1 t' k) q (K, t', m1, m2, m3) := by
  obtain ⟨h1, h2, h3, h4, h5, h6, h7, h8, h9, h10⟩ := h
  rw [h2.1, tx_put_at hz (by decide)]
  have hn : ∀ x, x ≠ 5 * z + 1 → im_up k (5 * z + 1) t' x = k x := fun x hx => im_up_ne k _ (by omega)
  refine ⟨h1, by rw [h2.1]; omega, h3, fun x hx => (hn x (by omega)).trans (h4 x hx), im_up_b h5 (by omega), h6, ⟨?_, im_up_self _ _ _⟩, ?_, ?_, ?_⟩
  · rw [hn _ (by omega)]; exact h7.1
  · rw [hn _ (by omega)]; exact h8
  · rw [hn _ (by omega)]; exact h9
  · rw [hn _ (by omega)]; exact h10
/-- a sum or a test more -/
theorem CLp_put (h : CLp od A N z u0 c0 k0 j l s u c k q (K, t, m1, m2, m3)) (hz : 0 ≤ z ∧ z ≤ 11) {f : Int} (hf : 2 ≤ f ∧ f ≤ 4) (hs : s ≤ 36) (hj : j ≤ 400) {j' l' : Int} {m : dM} {q' : Nat → Int} {u' : Int × Int × Int} {c' : Int → Int} (hT : RdT od A N j u c (.inr (j', l', m)) q' u' c') (hl : 0 ≤ l' ∧ l' ≤ 50) : CLp od A N z u0 c0 k0 j' l' (s + 1) u' c' (tx_put 60 u.2.1 f u.1 k) q' (K, t, if f = 2 then m else m1, if f = 3 then m else m2, if f = 4 then m else m3) := by
  obtain ⟨h1, h2, h3, h4, h5, h6, h7, h8, h9, h10⟩ := h
  obtain ⟨g1, g2, g3, ⟨g4, g5⟩, g6, g7, ⟨g8, g9⟩, g10⟩ := hT
  have hu0 := h1.2.2.1
  have hn : ∀ x, x ≠ 5 * z + f → im_up k (5 * z + f) u.1 x = k x := fun x hx => im_up_ne k _ hx
  have hse := im_up_self k (5 * z + f) u.1
  have hmo : ∀ {s1 : Int} {m' : dM}, TXS od c u.1 u.2.2 s1 m' → TXS od c' u'.1 u'.2.2 s1 m' := fun hx => TXS_mono hx g7 g6.1 g10
  have hnew : TXS od c' u'.1 u'.2.2 u.1 m := Or.inr ⟨⟨by omega, g8⟩, g9⟩
  rw [h2.1, tx_put_at hz (by omega)]
  refine ⟨⟨⟨g1.1, g1.2.1, g5, hl⟩, g4, g2⟩, ⟨by rw [g3]; exact h2.1, by omega, by omega, h2.2.2.2⟩, fun x q1 q2 => (g7 x q1 (by omega)).trans (h3 x q1 q2), fun x hx => (hn x (by omega)).trans (h4 x hx), im_up_b h5 (by omega), OVs_t h6 g10, ⟨?_, ?_⟩, ?_, ?_, ?_⟩
  · rw [hn _ (by omega)]; exact h7.1
  · rw [hn _ (by omega)]; exact h7.2
  · dsimp only
    by_cases e : f = 2
    · rw [if_pos e, ← e, hse]; exact hnew
    · rw [if_neg e, hn _ (by omega)]; exact hmo h8
  · dsimp only
    by_cases e : f = 3
    · rw [if_pos e, ← e, hse]; exact hnew
    · rw [if_neg e, hn _ (by omega)]; exact hmo h9
  · dsimp only
    by_cases e : f = 4
    · rw [if_pos e, ← e, hse]; exact hnew
    · rw [if_neg e, hn _ (by omega)]; exact hmo h10
theorem CLp_dead (h : CLp od A N z u0 c0 k0 j l s u c k q (K, t, m1, m2, m3)) {f fl : Int} {q' : Nat → Int} {u' : Int × Int × Int} {c' : Int → Int} (hs : s ≤ 36) (hj : j ≤ 400) (hT : RdT od A N j u c (.inl fl) q' u' c') : CLx od A N z fl u' c' (tx_put 60 u.2.1 f u.1 k) q' := by
  obtain ⟨h1, h2, h3, h4, h5, h6⟩ := h
  obtain ⟨g1, g2, g3, g4⟩ := hT
  have hu0 := h1.2.2.1
  exact ⟨g1, g2, g3.trans h2.1, tx_put_b h5 (by omega), g4⟩
theorem CLp_s {cl : dC} {s' : Int} (h : CLp od A N z u0 c0 k0 j l s u c k q cl) (hs : s ≤ s') : CLp od A N z u0 c0 k0 j l s' u c k q cl := by
  obtain ⟨h1, h2, h3⟩ := h
  exact ⟨h1, by omega, h3⟩
theorem CLq_s {res : dQ} {s' : Int} (h : CLq od A N z u0 c0 k0 s res u c k q) (hs : s ≤ s') : CLq od A N z u0 c0 k0 s' res u c k q := by
  match res, h with
  | .inl f, h => exact h
  | .inr (j, l, cl), h => exact CLp_s h hs
/-- clauses that stand in a text -/
def TXL (od : Bool) (c : Int → Int) (ub ov : Int) (k : Int → Int) (Cs : List dC) : Prop := ∀ (i : Nat) (cl : dC), Cs[i]? = some cl → (k (5 * (i : Int)) = cl.1 ∧ k (5 * (i : Int) + 1) = cl.2.1) ∧ TXS od c ub ov (k (5 * (i : Int) + 2)) cl.2.2.1 ∧ TXS od c ub ov (k (5 * (i : Int) + 3)) cl.2.2.2.1 ∧ TXS od c ub ov (k (5 * (i : Int) + 4)) cl.2.2.2.2
theorem TXL_more {Cs : List dC} {cl : dC} (hz : z = (Cs.length : Int)) (hL : TXL od c0 u0.1 u0.2.2 k0 Cs) (h : CLp od A N z u0 c0 k0 j l s u c k q cl) : TXL od c u.1 u.2.2 k (Cs ++ [cl]) := by
  obtain ⟨h1, h2, h3, h4, h5, h6, h7, h8, h9, h10⟩ := h
  intro i q hi
  by_cases e : i < Cs.length
  · rw [List.getElem?_append_left e] at hi
    obtain ⟨⟨a1, a2⟩, a3, a4, a5⟩ := hL i q hi
    rw [h4 _ (by omega), h4 _ (by omega), h4 _ (by omega), h4 _ (by omega), h4 _ (by omega)]
    exact ⟨⟨a1, a2⟩, TXS_mono a3 h3 h2.2.1 h6, TXS_mono a4 h3 h2.2.1 h6, TXS_mono a5 h3 h2.2.1 h6⟩
  · rw [List.getElem?_append_right (by omega)] at hi
    have ei : i = Cs.length := by
      by_cases e2 : i - Cs.length = 0
      · omega
      · have hlen := (List.getElem?_eq_some_iff.mp hi).1
        have : ([cl] : List dC).length = 1 := rfl
        omega
    subst ei
    rw [Nat.sub_self] at hi
    have eq : cl = q := by
      have : ([cl] : List dC)[0]? = some cl := rfl
      rw [this] at hi
      exact Option.some.inj hi
    subst eq
    rw [← hz]
    exact ⟨h7, h8, h9, h10⟩
end Clp
/-- what a text's reading leaves -/
def RdF (od : Bool) (A : Int → Int) (N : Int) (res : Int ⊕ List dC) (r : Option im_V) (u : Int × Int × Int) (c k : Int → Int) : Prop := TS u c ∧ (∀ x, -1 ≤ k x ∧ k x ≤ 1000) ∧ (match res with
  | .inl f => r = some (.inl (tk_Q A N f))
  | .inr Cs => r = some (.inl (-1)) ∧ u.2.1 = (Cs.length : Int) ∧ TXL od c u.1 u.2.2 k Cs)
/-- a clause is opened -/
theorem CLp_open {od : Bool} {A : Int → Int} {N z i l s : Int} {u : Int × Int × Int} {c k : Int → Int} {q : Nat → Int} (h : RdS od A N i l u c q) (hz : u.2.1 = z) (hz2 : 0 ≤ z ∧ z ≤ 11) (hs : u.1 ≤ i + s) (hk : ∀ x, -1 ≤ k x ∧ k x ≤ 1000) : CLp od A N z u c k i l s (u.1, tx_more 60 u.2.1, u.2.2) c (tx_open 60 u.2.1 k) q (-1, 1, d_1, d_1, d_1) := by
  obtain ⟨h1, h2, h3⟩ := h
  have e1 : tx_more 60 u.2.1 = z + 1 := by
    unfold tx_more
    rw [if_pos (by omega)]
    omega
  have e2 : tx_open 60 u.2.1 k = im_up (im_up (im_up (im_up (im_up k (5 * z) (-1)) (5 * z + 1) 1) (5 * z + 2) (-1)) (5 * z + 3) (-1)) (5 * z + 4) (-1) := by
    unfold tx_open
    rw [if_pos (by omega), hz, show z * 5 + 0 = 5 * z by omega, show z * 5 + 1 = 5 * z + 1 by omega, show z * 5 + 2 = 5 * z + 2 by omega, show z * 5 + 3 = 5 * z + 3 by omega, show z * 5 + 4 = 5 * z + 4 by omega]
  have h31 := h3.1
  have h32 := h3.2.1
  rw [e1, e2]
  refine ⟨⟨h1, h2, ⟨h31, by dsimp only; omega, h3.2.2⟩⟩, ⟨rfl, Int.le_refl _, hs, h31.1⟩, fun _ _ _ => rfl, fun x hx => ?_, im_up_b (im_up_b (im_up_b (im_up_b (im_up_b hk (by decide)) (by decide)) (by decide)) (by decide)) (by decide), OVs_r _, ⟨?_, ?_⟩, Or.inl ⟨?_, rfl⟩, Or.inl ⟨?_, rfl⟩, Or.inl ⟨?_, rfl⟩⟩
  · rw [im_up_ne _ _ (by omega), im_up_ne _ _ (by omega), im_up_ne _ _ (by omega), im_up_ne _ _ (by omega), im_up_ne _ _ (by omega)]
  · rw [im_up_ne _ _ (by omega), im_up_ne _ _ (by omega), im_up_ne _ _ (by omega), im_up_ne _ _ (by omega)]; exact im_up_self _ _ _
  · rw [im_up_ne _ _ (by omega), im_up_ne _ _ (by omega), im_up_ne _ _ (by omega)]; exact im_up_self _ _ _
  · rw [im_up_ne _ _ (by omega), im_up_ne _ _ (by omega)]; exact im_up_self _ _ _
  · rw [im_up_ne _ _ (by omega)]; exact im_up_self _ _ _
  · exact im_up_self _ _ _
section Rg
variable {ro : ab_R} {T : List im_T} {d : Nat} {q : Nat → Int} {A c k : Int → Int} {u : Int × Int × Int} {od : Bool} {N i l : Int}
set_option maxHeartbeats 8000000 in
theorem c_wsum (hd : 73 ≤ d) (hT : T.length < 1000) (hA : tk_ok A) (h : RdS od A N i l u c q) (hz : 0 ≤ u.2.1 ∧ u.2.1 ≤ 20) {f : Int} (hf : 0 ≤ f ∧ f ≤ 4) (hr : u.1 ≤ i + 35) (hi2 : i ≤ tk_nt A N) {n : Nat} {res : dR} (hdn : dn od (tk_C A N) (tk_X A N) n 3 0 i l d_0 = some res) : im_ct ro T d 48 [mr 0, .inl f] (RW 0 q A u c k) (fun r w => r = none ∧ ∃ q' u' c', w = RW 0 q' A u' c' (tx_put 60 u.2.1 f u.1 k) ∧ RdT od A N i u c res q' u' c') := by
  obtain ⟨d, rfl⟩ : ∃ e, d = e + 1 := ⟨d - 1, by omega⟩
  have hN := RdS_N h
  have htn := (tk_nt_b (A := A) hN).1
  refine im_ct_of (own := 5) (ret := none) (code := ab_k_X5_readWholeSum) (nL := 2) (L0 := [some (mr 0), some (.inl f)]) (n := 5) rfl rfl rfl rfl rfl rfl rfl rfl rfl ?_
  refine im_g 6 (y := (12, _, _, _)) rfl trivial ?_
  refine im_call [2,3,4] rfl rfl (c_put (cl := 436) (kl := 60) (u := u) (c := c) (k := k) (by omega) hT (by decide) (hz) (f := f) (x := u.1) hf) rfl rfl rfl (by decide) rfl (by decide) hT (fun v1 w1 hq => ?_)
  obtain ⟨rfl, rfl⟩ := hq
  refine ⟨_, _, RW 0 q A u c (tx_put 60 (u).2.1 f u.1 k), rfl, rfl, rfl, ?_⟩
  refine im_g 2 (y := (17, _, _, _)) rfl trivial ?_
  refine im_call [0,1,2,3,4] rfl rfl ((rd_all (ro := ro) (T := T) hT n).2.2.1 d od (q) A N (u) (c) (tx_put 60 u.2.1 f u.1 k) 0 (i) (l) res hA (h) (by decide) (by omega) (by omega) (by omega) hdn) rfl rfl rfl (by decide) rfl (by decide) hT (fun v1 w1 hq => ?_)
  obtain ⟨rfl, q2, u2, c2, rfl, hP2⟩ := hq
  refine ⟨_, _, RW 0 q2 A u2 c2 (tx_put 60 u.2.1 f u.1 k), rfl, rfl, rfl, ?_⟩
  refine im_g 3 (y := (23, _, _, _)) rfl trivial ?_
  refine im_call [0,1,2,3,4] rfl rfl (c_emit (q := q2) (A := A) (u := u2) (c := c2) (k := (tx_put 60 u.2.1 f u.1 k)) (by omega) hT hP2.2.1 (wt := 0) (x := 0) (by decide) (by decide)) rfl rfl rfl (by decide) rfl (by decide) hT (fun v1 w1 hq => ?_)
  obtain ⟨rfl, rfl⟩ := hq
  refine ⟨_, _, RW 0 q2 A (rd_emu u2) (rd_emc u2 c2 0 0) (tx_put 60 u.2.1 f u.1 k), rfl, rfl, rfl, ?_⟩
  refine im_g 1 (y := (27, _, _, _)) rfl trivial ?_
  refine im_r rfl rfl trivial rfl ?_
  exact ⟨rfl, _, _, _, rfl, RdT_of hP2 (by decide) (fun j1 l1 m1 hr2 => by subst hr2; have t := hP2.2.2.2.2.1; have t2 := dn_nt hN (by decide) hi2 hdn; have t3 := (tk_nt_b (A := A) hN).1; omega)⟩
set_option maxHeartbeats 8000000 in
theorem c_condY (hd : 76 ≤ d) (hT : T.length < 1000) (hA : tk_ok A) (h : RdS od A N i l u c q) (hz : 0 ≤ u.2.1 ∧ u.2.1 ≤ 20) (hC : tk_C A N i = 5) (hr : u.1 ≤ i + 35) {n : Nat} {res : dR} (hdn : dn od (tk_C A N) (tk_X A N) n 9 0 (i + 1) l d_0 = some res) : im_ct ro T d 47 [mr 0] (RW 0 q A u c k) (fun r w => r = none ∧ ∃ q' u' c', w = RW 0 q' A u' c' (tx_put 60 u.2.1 4 u.1 k) ∧ RdT od A N (i + 1) u c res q' u' c') := by
  obtain ⟨d, rfl⟩ : ∃ e, d = e + 1 := ⟨d - 1, by omega⟩
  have hN := RdS_N h
  have htn := (tk_nt_b (A := A) hN).1
  have hlt := tk_lt (A := A) hN (i := i) (by omega)
  have hi2 := hlt
  refine im_ct_of (own := 5) (ret := none) (code := ab_k_X5_readCondition) (nL := 1) (L0 := [some (mr 0)]) (n := 5) rfl rfl rfl rfl rfl rfl rfl rfl rfl ?_
  refine im_g 2 (y := (3, _, _, _)) rfl trivial ?_
  refine im_call [0,1,2,3,4] rfl rfl (w_is_if (q := q) (u := u) (c := c) (k := k) (by omega) hT hA h) rfl rfl rfl (by decide) rfl (by decide) hT (fun v1 w1 hq => ?_)
  obtain ⟨rfl, rfl⟩ := hq
  refine ⟨_, _, RW 0 q A u c k, rfl, rfl, rfl, ?_⟩
  rw [if_pos hC]
  refine im_bF rfl rfl ⟨(by decide), trivial⟩ (by decide) ?_
  refine im_g 1 (y := (10, _, _, _)) rfl trivial ?_
  refine im_call [0,1,2,3,4] rfl rfl (c_step (q := q) (A := A) (u := u) (c := c) (k := k) (by omega) hT hA h.2.1) rfl rfl rfl (by decide) rfl (by decide) hT (fun v1 w1 hq => ?_)
  obtain ⟨rfl, rfl⟩ := hq
  refine ⟨_, _, RW 0 (rd_next A q) A u c k, rfl, rfl, rfl, ?_⟩
  refine im_g 6 (y := (25, _, _, _)) rfl trivial ?_
  refine im_call [2,3,4] rfl rfl (c_put (cl := 436) (kl := 60) (u := u) (c := c) (k := k) (by omega) hT (by decide) (hz) (f := 4) (x := u.1) (by decide)) rfl rfl rfl (by decide) rfl (by decide) hT (fun v1 w1 hq => ?_)
  obtain ⟨rfl, rfl⟩ := hq
  refine ⟨_, _, RW 0 (rd_next A q) A u c (tx_put 60 (u).2.1 4 u.1 k), rfl, rfl, rfl, ?_⟩
  refine im_g 2 (y := (30, _, _, _)) rfl trivial ?_
  refine im_call [0,1,2,3,4] rfl rfl ((rd_all (ro := ro) (T := T) hT n).2.2.2.2.2.1 d od (rd_next A q) A N (u) (c) (tx_put 60 u.2.1 4 u.1 k) 0 (i + 1) (l) res hA (RdS_next h) (by decide) (by omega) (by omega) (by omega) hdn) rfl rfl rfl (by decide) rfl (by decide) hT (fun v1 w1 hq => ?_)
  obtain ⟨rfl, q2, u2, c2, rfl, hP2⟩ := hq
  refine ⟨_, _, RW 0 q2 A u2 c2 (tx_put 60 u.2.1 4 u.1 k), rfl, rfl, rfl, ?_⟩
  refine im_g 3 (y := (36, _, _, _)) rfl trivial ?_
  refine im_call [0,1,2,3,4] rfl rfl (c_emit (q := q2) (A := A) (u := u2) (c := c2) (k := (tx_put 60 u.2.1 4 u.1 k)) (by omega) hT hP2.2.1 (wt := 0) (x := 0) (by decide) (by decide)) rfl rfl rfl (by decide) rfl (by decide) hT (fun v1 w1 hq => ?_)
  obtain ⟨rfl, rfl⟩ := hq
  refine ⟨_, _, RW 0 q2 A (rd_emu u2) (rd_emc u2 c2 0 0) (tx_put 60 u.2.1 4 u.1 k), rfl, rfl, rfl, ?_⟩
  refine im_g 1 (y := (40, _, _, _)) rfl trivial ?_
  refine im_r rfl rfl trivial rfl ?_
  exact ⟨rfl, _, _, _, rfl, RdT_of hP2 (by decide) (fun j1 l1 m1 hr2 => by subst hr2; have t := hP2.2.2.2.2.1; have t2 := dn_nt hN (by decide) hi2 hdn; have t3 := (tk_nt_b (A := A) hN).1; omega)⟩
set_option maxHeartbeats 8000000 in
theorem c_condN (hd : 2 ≤ d) (hT : T.length < 1000) (hA : tk_ok A) (h : RdS od A N i l u c q) (hC : ¬ tk_C A N i = 5) : im_ct ro T d 47 [mr 0] (RW 0 q A u c k) (fun r w => r = none ∧ w = RW 0 q A u c k) := by
  obtain ⟨d, rfl⟩ : ∃ e, d = e + 1 := ⟨d - 1, by omega⟩
  refine im_ct_of (own := 5) (ret := none) (code := ab_k_X5_readCondition) (nL := 1) (L0 := [some (mr 0)]) (n := 5) rfl rfl rfl rfl rfl rfl rfl rfl rfl ?_
  refine im_g 2 (y := (3, _, _, _)) rfl trivial ?_
  refine im_call [0,1,2,3,4] rfl rfl (w_is_if (q := q) (u := u) (c := c) (k := k) (by omega) hT hA h) rfl rfl rfl (by decide) rfl (by decide) hT (fun v1 w1 hq => ?_)
  obtain ⟨rfl, rfl⟩ := hq
  refine ⟨_, _, RW 0 q A u c k, rfl, rfl, rfl, ?_⟩
  rw [if_neg hC]
  refine im_bT rfl rfl ⟨(by decide), trivial⟩ rfl ?_
  refine im_r rfl rfl trivial rfl ?_
  exact ⟨rfl, rfl⟩
set_option maxHeartbeats 8000000 in
theorem c_condD (hd : 2 ≤ d) (hT : T.length < 1000) {f : Int} (h : RDd q f) : im_ct ro T d 47 [mr 0] (RW 0 q A u c k) (fun r w => r = none ∧ w = RW 0 q A u c k) := by
  obtain ⟨d, rfl⟩ : ∃ e, d = e + 1 := ⟨d - 1, by omega⟩
  refine im_ct_of (own := 5) (ret := none) (code := ab_k_X5_readCondition) (nL := 1) (L0 := [some (mr 0)]) (n := 5) rfl rfl rfl rfl rfl rfl rfl rfl rfl ?_
  refine im_g 2 (y := (3, _, _, _)) rfl trivial ?_
  refine im_call [0,1,2,3,4] rfl rfl (c_isD (q := q) (A := A) (u := u) (c := c) (k := k) (o := 2000019) (by omega) hT h.2.2.1) rfl rfl rfl (by decide) rfl (by decide) hT (fun v1 w1 hq => ?_)
  obtain ⟨rfl, rfl⟩ := hq
  refine ⟨_, _, RW 0 q A u c k, rfl, rfl, rfl, ?_⟩
  refine im_bT rfl rfl ⟨(by decide), trivial⟩ rfl ?_
  refine im_r rfl rfl trivial rfl ?_
  exact ⟨rfl, rfl⟩
set_option maxHeartbeats 8000000 in
theorem c_timesN (hd : 2 ≤ d) (hT : T.length < 1000) (hA : tk_ok A) (h : RdS od A N i l u c q) (hC : ¬ tk_C A N i = 27) : im_ct ro T d 46 [mr 0] (RW 0 q A u c k) (fun r w => r = none ∧ w = RW 0 q A u c k) := by
  obtain ⟨d, rfl⟩ : ∃ e, d = e + 1 := ⟨d - 1, by omega⟩
  refine im_ct_of (own := 5) (ret := none) (code := ab_k_X5_readTimes) (nL := 2) (L0 := [some (mr 0), none]) (n := 5) rfl rfl rfl rfl rfl rfl rfl rfl rfl ?_
  refine im_g 2 (y := (3, _, _, _)) rfl trivial ?_
  refine im_call [0,1,2,3,4] rfl rfl (w_is_times (q := q) (u := u) (c := c) (k := k) (by omega) hT hA h) rfl rfl rfl (by decide) rfl (by decide) hT (fun v1 w1 hq => ?_)
  obtain ⟨rfl, rfl⟩ := hq
  refine ⟨_, _, RW 0 q A u c k, rfl, rfl, rfl, ?_⟩
  rw [if_neg hC]
  refine im_bF rfl rfl ⟨(by decide), trivial⟩ (fun z => z rfl) ?_
  refine im_r rfl rfl trivial rfl ?_
  exact ⟨rfl, rfl⟩
set_option maxHeartbeats 8000000 in
theorem c_timesD (hd : 2 ≤ d) (hT : T.length < 1000) {f : Int} (h : RDd q f) : im_ct ro T d 46 [mr 0] (RW 0 q A u c k) (fun r w => r = none ∧ w = RW 0 q A u c k) := by
  obtain ⟨d, rfl⟩ : ∃ e, d = e + 1 := ⟨d - 1, by omega⟩
  refine im_ct_of (own := 5) (ret := none) (code := ab_k_X5_readTimes) (nL := 2) (L0 := [some (mr 0), none]) (n := 5) rfl rfl rfl rfl rfl rfl rfl rfl rfl ?_
  refine im_g 2 (y := (3, _, _, _)) rfl trivial ?_
  refine im_call [0,1,2,3,4] rfl rfl (c_isD (q := q) (A := A) (u := u) (c := c) (k := k) (o := 2000018) (by omega) hT h.2.2.1) rfl rfl rfl (by decide) rfl (by decide) hT (fun v1 w1 hq => ?_)
  obtain ⟨rfl, rfl⟩ := hq
  refine ⟨_, _, RW 0 q A u c k, rfl, rfl, rfl, ?_⟩
  refine im_bF rfl rfl ⟨(by decide), trivial⟩ (fun z => z rfl) ?_
  refine im_r rfl rfl trivial rfl ?_
  exact ⟨rfl, rfl⟩
set_option maxHeartbeats 8000000 in
theorem c_timesY (hd : 3 ≤ d) (hT : T.length < 1000) (hA : tk_ok A) (h : RdS od A N i l u c q) (hz : 0 ≤ u.2.1 ∧ u.2.1 ≤ 20) (hC : tk_C A N i = 27) (hX : tk_C A N (i + 1) = 50 ∧ 1 ≤ tk_X A N (i + 1) ∧ tk_X A N (i + 1) ≤ 20) : im_ct ro T d 46 [mr 0] (RW 0 q A u c k) (fun r w => r = none ∧ w = RW 0 (rd_next A (rd_next A q)) A u c (tx_put 60 u.2.1 1 (tk_X A N (i + 1)) k)) := by
  obtain ⟨d, rfl⟩ : ∃ e, d = e + 1 := ⟨d - 1, by omega⟩
  refine im_ct_of (own := 5) (ret := none) (code := ab_k_X5_readTimes) (nL := 2) (L0 := [some (mr 0), none]) (n := 5) rfl rfl rfl rfl rfl rfl rfl rfl rfl ?_
  refine im_g 2 (y := (3, _, _, _)) rfl trivial ?_
  refine im_call [0,1,2,3,4] rfl rfl (w_is_times (q := q) (u := u) (c := c) (k := k) (by omega) hT hA h) rfl rfl rfl (by decide) rfl (by decide) hT (fun v1 w1 hq => ?_)
  obtain ⟨rfl, rfl⟩ := hq
  refine ⟨_, _, RW 0 q A u c k, rfl, rfl, rfl, ?_⟩
  rw [if_pos hC]
  refine im_bT rfl rfl ⟨(by decide), trivial⟩ (by decide) ?_
  refine im_g 1 (y := (11, _, _, _)) rfl trivial ?_
  refine im_call [0,1,2,3,4] rfl rfl (c_step (q := q) (A := A) (u := u) (c := c) (k := k) (by omega) hT hA h.2.1) rfl rfl rfl (by decide) rfl (by decide) hT (fun v1 w1 hq => ?_)
  obtain ⟨rfl, rfl⟩ := hq
  refine ⟨_, _, RW 0 (rd_next A q) A u c k, rfl, rfl, rfl, ?_⟩
  refine im_g 1 (y := (15, _, _, _)) rfl trivial ?_
  refine im_call [0,1,2,3,4] rfl rfl (w_number (q := rd_next A q) (u := u) (c := c) (k := k) (by omega) hT hA (RdS_next h)) rfl rfl rfl (by decide) rfl (by decide) hT (fun v1 w1 hq => ?_)
  obtain ⟨nv, rfl, rfl, hnv⟩ := hq
  refine ⟨_, _, RW 0 (rd_next A q) A u c k, rfl, rfl, rfl, ?_⟩
  obtain rfl : nv = tk_X A N (i + 1) := by omega
  refine im_g 3 (y := (21, _, _, _)) rfl trivial ?_
  refine im_bF rfl rfl ⟨(by omega), (by omega), trivial⟩ (by omega) ?_
  refine im_g 2 (y := (27, _, _, _)) rfl trivial ?_
  refine im_bT rfl rfl ⟨(by omega), (by omega), trivial⟩ (by omega) ?_
  refine im_g 4 (y := (41, _, _, _)) rfl trivial ?_
  refine im_call [2,3,4] rfl rfl (c_put (cl := 436) (kl := 60) (u := u) (c := c) (k := k) (by omega) hT (by decide) (hz) (f := 1) (x := (tk_X A N (i + 1))) (by decide)) rfl rfl rfl (by decide) rfl (by decide) hT (fun v1 w1 hq => ?_)
  obtain ⟨rfl, rfl⟩ := hq
  refine ⟨_, _, RW 0 (rd_next A q) A u c (tx_put 60 (u).2.1 1 (tk_X A N (i + 1)) k), rfl, rfl, rfl, ?_⟩
  refine im_g 1 (y := (45, _, _, _)) rfl trivial ?_
  refine im_call [0,1,2,3,4] rfl rfl (c_step (q := (rd_next A q)) (A := A) (u := u) (c := c) (k := (tx_put 60 u.2.1 1 (tk_X A N (i + 1)) k)) (by omega) hT hA (RdS_next h).2.1) rfl rfl rfl (by decide) rfl (by decide) hT (fun v1 w1 hq => ?_)
  obtain ⟨rfl, rfl⟩ := hq
  refine ⟨_, _, RW 0 (rd_next A (rd_next A q)) A u c (tx_put 60 u.2.1 1 (tk_X A N (i + 1)) k), rfl, rfl, rfl, ?_⟩
  refine im_r rfl rfl trivial rfl ?_
  exact ⟨rfl, rfl⟩
set_option maxHeartbeats 8000000 in
theorem c_timesF (hd : 3 ≤ d) (hT : T.length < 1000) (hA : tk_ok A) (h : RdS od A N i l u c q) (hC : tk_C A N i = 27) (hX : ¬ (tk_C A N (i + 1) = 50 ∧ 1 ≤ tk_X A N (i + 1) ∧ tk_X A N (i + 1) ≤ 20)) : im_ct ro T d 46 [mr 0] (RW 0 q A u c k) (fun r w => r = none ∧ w = RW 0 (rd_fail (rd_next A q)) A u c k) := by
  obtain ⟨d, rfl⟩ : ∃ e, d = e + 1 := ⟨d - 1, by omega⟩
  refine im_ct_of (own := 5) (ret := none) (code := ab_k_X5_readTimes) (nL := 2) (L0 := [some (mr 0), none]) (n := 5) rfl rfl rfl rfl rfl rfl rfl rfl rfl ?_
  refine im_g 2 (y := (3, _, _, _)) rfl trivial ?_
  refine im_call [0,1,2,3,4] rfl rfl (w_is_times (q := q) (u := u) (c := c) (k := k) (by omega) hT hA h) rfl rfl rfl (by decide) rfl (by decide) hT (fun v1 w1 hq => ?_)
  obtain ⟨rfl, rfl⟩ := hq
  refine ⟨_, _, RW 0 q A u c k, rfl, rfl, rfl, ?_⟩
  rw [if_pos hC]
  refine im_bT rfl rfl ⟨(by decide), trivial⟩ (by decide) ?_
  refine im_g 1 (y := (11, _, _, _)) rfl trivial ?_
  refine im_call [0,1,2,3,4] rfl rfl (c_step (q := q) (A := A) (u := u) (c := c) (k := k) (by omega) hT hA h.2.1) rfl rfl rfl (by decide) rfl (by decide) hT (fun v1 w1 hq => ?_)
  obtain ⟨rfl, rfl⟩ := hq
  refine ⟨_, _, RW 0 (rd_next A q) A u c k, rfl, rfl, rfl, ?_⟩
  refine im_g 1 (y := (15, _, _, _)) rfl trivial ?_
  refine im_call [0,1,2,3,4] rfl rfl (w_number (q := rd_next A q) (u := u) (c := c) (k := k) (by omega) hT hA (RdS_next h)) rfl rfl rfl (by decide) rfl (by decide) hT (fun v1 w1 hq => ?_)
  obtain ⟨nv, rfl, rfl, hnv⟩ := hq
  refine ⟨_, _, RW 0 (rd_next A q) A u c k, rfl, rfl, rfl, ?_⟩
  have hxb : 0 ≤ tk_X A N (i + 1) := (tk_val_b _ _).1
  refine im_g 3 (y := (21, _, _, _)) rfl trivial ?_
  refine im_b rfl rfl ⟨(by omega), (by omega), trivial⟩ (fun br1 => ?_) (fun br1 => ?_)
  · refine im_g 1 (y := (31, _, _, _)) rfl trivial ?_
    refine im_call [0,1,2,3,4] rfl rfl (c_fail (q := (rd_next A q)) (A := A) (u := u) (c := c) (k := k) (by omega) hT (by rw [(RdS_next h).2.1.2.2.2.2.2]; decide)) rfl rfl rfl (by decide) rfl (by decide) hT (fun v1 w1 hq => ?_)
    obtain ⟨rfl, rfl⟩ := hq
    refine ⟨_, _, RW 0 (rd_fail (rd_next A q)) A u c k, rfl, rfl, rfl, ?_⟩
    refine im_r rfl rfl trivial rfl ?_
    exact ⟨rfl, rfl⟩
  · refine im_g 2 (y := (27, _, _, _)) rfl trivial ?_
    refine im_bF rfl rfl ⟨(by omega), (by omega), trivial⟩ (by omega) ?_
    refine im_g 1 (y := (31, _, _, _)) rfl trivial ?_
    refine im_call [0,1,2,3,4] rfl rfl (c_fail (q := (rd_next A q)) (A := A) (u := u) (c := c) (k := k) (by omega) hT (by rw [(RdS_next h).2.1.2.2.2.2.2]; decide)) rfl rfl rfl (by decide) rfl (by decide) hT (fun v1 w1 hq => ?_)
    obtain ⟨rfl, rfl⟩ := hq
    refine ⟨_, _, RW 0 (rd_fail (rd_next A q)) A u c k, rfl, rfl, rfl, ?_⟩
    refine im_r rfl rfl trivial rfl ?_
    exact ⟨rfl, rfl⟩
set_option maxHeartbeats 8000000 in
theorem c_step0 (hd : 2 ≤ d) (hT : T.length < 1000) (hA : tk_ok A) (h : (0 ≤ q 0 ∧ q 0 ≤ 400) ∧ (0 ≤ q 2 ∧ q 2 ≤ q 0) ∧ q 5 = -1 ∧ im_ir (q 3)) : im_ct ro T d 61 [mr 0] (RW 0 q A u c k) (fun r w => r = none ∧ w = RW 0 (rd_next A q) A u c k) := by
  obtain ⟨d, rfl⟩ : ∃ e, d = e + 1 := ⟨d - 1, by omega⟩
  have hq := h
  have h0 := h.1
  have hE := @tk_end_b A (q 0)
  have tl : ∀ a : Int, 0 ≤ a → a ≤ q 0 → a = tk_skip A (q 0) 401 (q 2) → im_wp ro (ab_Ev ro ab_codes d) 5 none ab_k_X5_step 5 T (fun r w => r = none ∧ w = RW 0 (rd_next A q) A u c k) (47, [some (mr 0), some (.inl a)], [], RW 0 q A u c k) := by
    intro a ha0 ha1 has
    have hAa := hA a
    refine im_g 3 (y := (52, _, _, _)) rfl trivial ?_
    have e0 : pl_U q 1 a 0 = q 0 := rfl
    refine im_g 4 (y := (58, _, _, _)) rfl trivial ?_
    refine im_b rfl rfl ⟨(by omega), (by omega), trivial⟩ (fun br1 => ?_) (fun br1 => ?_)
    · refine im_g 5 (y := (82, _, _, _)) rfl trivial ?_
      refine im_bT rfl rfl ⟨(by omega), (by omega), trivial⟩ (by first | omega | exact fun z => z (show q 0 ≤ a by omega)) ?_
      have hka : tk_kind A (q 0) a = 0 := if_neg (by omega)
      have hea : tk_end A (q 0) a = a := if_neg (by omega)
      refine im_eqs (y := (88, [some (mr 0), some (.inl a)], [], RW 0 (pl_U (pl_U q 1 a) 3 0) A u c k)) rfl ?_
      have e0 : pl_U (pl_U q 1 a) 3 0 0 = q 0 := rfl
      refine im_g 3 (y := (93, _, _, _)) rfl trivial ?_
      refine im_bT rfl rfl ⟨(by omega), (by omega), trivial⟩ (by omega) ?_
      refine im_g 3 (y := (131, _, _, _)) rfl trivial ?_
      refine im_r rfl rfl trivial rfl ?_
      unfold rd_next
      rw [← has, hka, hea]
      exact ⟨rfl, rfl⟩
    · refine im_g 4 (y := (67, _, _, _)) rfl ⟨(by omega), trivial⟩ ?_
      refine im_call [] rfl rfl (c_kindOf (x := A a) (by omega) hT (by omega)) rfl rfl rfl (by decide) rfl (by decide) hT (fun v1 w1 hq => ?_)
      obtain ⟨rfl, rfl⟩ := hq
      refine ⟨_, _, RW 0 (pl_U q 1 a) A u c k, rfl, rfl, rfl, ?_⟩
      refine im_g 5 (y := (82, _, _, _)) rfl trivial ?_
      refine im_bF rfl rfl ⟨(by omega), (by omega), trivial⟩ (by first | omega | (show ¬ q 0 ≤ a; omega)) ?_
      refine im_g 1 (y := (88, _, _, _)) rfl trivial ?_
      have hka : tk_kind A (q 0) a = tk_kd (A a) := if_pos (by omega)
      have hea : tk_end A (q 0) a = tk_ext A (q 0) (tk_kd (A a)) 401 (a + 1) := if_pos (by omega)
      have hkb := tk_kd_b (A a)
      have ke : ∀ (m : Nat) (b : Int), q 0 - b < m → 0 ≤ b → b ≤ q 0 → tk_ext A (q 0) (tk_kd (A a)) m b = tk_end A (q 0) a → im_wp ro (ab_Ev ro ab_codes d) 5 none ab_k_X5_step 5 T (fun r w => r = none ∧ w = RW 0 (rd_next A q) A u c k) (88, [some (mr 0), some (.inl b)], [], RW 0 (pl_U (pl_U q 1 a) 3 (tk_kd (A a))) A u c k) := by
        intro m
        induction m with
        | zero => intro b h1; omega
        | succ m ih =>
          intro b hb1 hb2 hb3 he
          have hAb := hA b
          have hkb2 := tk_kd_b (A b)
          unfold tk_ext at he
          have e0 : pl_U (pl_U q 1 a) 3 (tk_kd (A a)) 0 = q 0 := rfl
          refine im_g 3 (y := (93, _, _, _)) rfl trivial ?_
          refine im_b rfl rfl ⟨(by omega), (by omega), trivial⟩ (fun br1 => ?_) (fun br1 => ?_)
          · refine im_g 3 (y := (131, _, _, _)) rfl trivial ?_
            refine im_r rfl rfl trivial rfl ?_
            rw [if_neg (by omega)] at he
            unfold rd_next
            rw [← has, ← he, hka]
            exact ⟨rfl, rfl⟩
          · have e3 : pl_U (pl_U q 1 a) 3 (tk_kd (A a)) 3 = tk_kd (A a) := rfl
            refine im_g 3 (y := (101, _, _, _)) rfl trivial ?_
            refine im_b rfl rfl ⟨(by first | decide | (show im_ir (tk_kd (A a)); omega)), (by first | decide | (show im_ir (tk_kd (A a)); omega)), trivial⟩ (fun br2 => ?_) (fun br2 => ?_)
            · refine im_g 3 (y := (131, _, _, _)) rfl trivial ?_
              refine im_r rfl rfl trivial rfl ?_
              rw [if_neg (by omega)] at he
              unfold rd_next
              rw [← has, ← he, hka]
              exact ⟨rfl, rfl⟩
            · refine im_g 4 (y := (110, _, _, _)) rfl ⟨(by omega), trivial⟩ ?_
              refine im_call [] rfl rfl (c_kindOf (x := A b) (by omega) hT (by omega)) rfl rfl rfl (by decide) rfl (by decide) hT (fun v1 w1 hq => ?_)
              obtain ⟨rfl, rfl⟩ := hq
              refine ⟨_, _, RW 0 (pl_U (pl_U q 1 a) 3 (tk_kd (A a))) A u c k, rfl, rfl, rfl, ?_⟩
              refine im_g 2 (y := (117, _, _, _)) rfl trivial ?_
              refine im_b rfl rfl ⟨(by first | omega | (show im_ir (tk_kd (A a)); omega)), (by first | omega | (show im_ir (tk_kd (A a)); omega)), trivial⟩ (fun br3 => ?_) (fun br3 => ?_)
              · refine im_g 3 (y := (131, _, _, _)) rfl trivial ?_
                refine im_r rfl rfl trivial rfl ?_
                rw [if_neg (by omega)] at he
                unfold rd_next
                rw [← has, ← he, hka]
                exact ⟨rfl, rfl⟩
              · refine im_g 2 (y := (88, _, _, _)) rfl trivial ?_
                rw [if_pos (by omega)] at he
                exact ih (b + 1) (by omega) (by omega) (by omega) he
      exact ke 401 (a + 1) (by omega) (by omega) (by omega) hea.symm
  refine im_ct_of (own := 5) (ret := none) (code := ab_k_X5_step) (nL := 2) (L0 := [some (mr 0), none]) (n := 5) rfl rfl rfl rfl rfl rfl rfl rfl rfl ?_
  refine im_g 3 (y := (5, _, _, _)) rfl trivial ?_
  have hq := h
  have h0 := h.1
  have h5 := h.2.2.1
  refine im_b rfl rfl ⟨(by omega), (by omega), trivial⟩ (fun br1 => ?_) (fun br1 => ?_)
  · refine im_g 3 (y := (22, _, _, _)) rfl trivial ?_
    have key : ∀ (m : Nat) (a : Int), q 0 - a < m → 0 ≤ a → a ≤ q 0 → tk_skip A (q 0) m a = tk_skip A (q 0) 401 (q 2) → im_wp ro (ab_Ev ro ab_codes d) 5 none ab_k_X5_step 5 T (fun r w => r = none ∧ w = RW 0 (rd_next A q) A u c k) (22, [some (mr 0), some (.inl a)], [], RW 0 q A u c k) := by
      intro m
      induction m with
      | zero => intro a h1; omega
      | succ m ih =>
        intro a ha1 ha2 ha3 hs
        have hAa := hA a
        unfold tk_skip at hs
        refine im_g 3 (y := (27, _, _, _)) rfl trivial ?_
        refine im_b rfl rfl ⟨(by omega), (by omega), trivial⟩ (fun br1 => ?_) (fun br1 => ?_)
        · rw [if_neg (by omega)] at hs
          exact tl a ha2 ha3 hs
        · refine im_g 5 (y := (38, _, _, _)) rfl ⟨(by omega), trivial⟩ ?_
          refine im_b rfl rfl ⟨(by omega), (by omega), trivial⟩ (fun br2 => ?_) (fun br2 => ?_)
          · rw [if_neg (by omega)] at hs
            exact tl a ha2 ha3 hs
          · refine im_g 2 (y := (22, _, _, _)) rfl trivial ?_
            rw [if_pos (by omega)] at hs
            exact ih (a + 1) (by omega) (by omega) (by omega) hs
    exact key 401 (q 2) (by omega) (by omega) (by omega) rfl
  · refine im_g 3 (y := (13, _, _, _)) rfl trivial ?_
    refine im_bT rfl rfl ⟨(by omega), (by omega), trivial⟩ (by omega) ?_
    refine im_g 3 (y := (22, _, _, _)) rfl trivial ?_
    have key : ∀ (m : Nat) (a : Int), q 0 - a < m → 0 ≤ a → a ≤ q 0 → tk_skip A (q 0) m a = tk_skip A (q 0) 401 (q 2) → im_wp ro (ab_Ev ro ab_codes d) 5 none ab_k_X5_step 5 T (fun r w => r = none ∧ w = RW 0 (rd_next A q) A u c k) (22, [some (mr 0), some (.inl a)], [], RW 0 q A u c k) := by
      intro m
      induction m with
      | zero => intro a h1; omega
      | succ m ih =>
        intro a ha1 ha2 ha3 hs
        have hAa := hA a
        unfold tk_skip at hs
        refine im_g 3 (y := (27, _, _, _)) rfl trivial ?_
        refine im_b rfl rfl ⟨(by omega), (by omega), trivial⟩ (fun br1 => ?_) (fun br1 => ?_)
        · rw [if_neg (by omega)] at hs
          exact tl a ha2 ha3 hs
        · refine im_g 5 (y := (38, _, _, _)) rfl ⟨(by omega), trivial⟩ ?_
          refine im_b rfl rfl ⟨(by omega), (by omega), trivial⟩ (fun br2 => ?_) (fun br2 => ?_)
          · rw [if_neg (by omega)] at hs
            exact tl a ha2 ha3 hs
          · refine im_g 2 (y := (22, _, _, _)) rfl trivial ?_
            rw [if_pos (by omega)] at hs
            exact ih (a + 1) (by omega) (by omega) (by omega) hs
    exact key 401 (q 2) (by omega) (by omega) (by omega) rfl
end Rg
section Rh
variable {ro : ab_R} {T : List im_T}
set_option maxHeartbeats 8000000 in
theorem c_rule {d : Nat} (hd : 78 ≤ d) (hT : T.length < 1000) {A : Int → Int} {N : Int} (hA : tk_ok A) {z : Int} {u0 : Int × Int × Int} {c0 k0 : Int → Int} {j l s : Int} {u : Int × Int × Int} {c k : Int → Int} {q : Nat → Int} (hz : 0 ≤ z ∧ z ≤ 11) (h : CLp false A N z u0 c0 k0 j l s u c k q (-1, 1, d_1, d_1, d_1)) (hs : s ≤ 33) {n : Nat} {res : dQ} (hdn : d_law (tk_C A N) (tk_X A N) n j l = some res) : im_ct ro T d 44 [mr 0] (RW 0 q A u c k) (fun r w => r = none ∧ ∃ q' u' c' k', w = RW 0 q' A u' c' k' ∧ CLq false A N z u0 c0 k0 (s + 3) res u' c' k' q') := by
  obtain ⟨d, rfl⟩ : ∃ e, d = e + 1 := ⟨d - 1, by omega⟩
  have hS := h.1
  have hN := RdS_N hS
  have htn := (tk_nt_b (A := A) hN).1
  have hzz : 0 ≤ u.2.1 ∧ u.2.1 ≤ 20 := by have t := h.2.1.1; omega
  have hub := h.2.1.2.2.1
  refine im_ct_of (own := 5) (ret := none) (code := ab_k_X5_readRule) (nL := 2) (L0 := [some (mr 0), none]) (n := 5) rfl rfl rfl rfl rfl rfl rfl rfl rfl ?_
  refine im_g 2 (y := (3, _, _, _)) rfl trivial ?_
  refine im_call [0,1,2,3,4] rfl rfl (w_is_tens (q := q) (u := u) (c := c) (k := k) (by omega) hT hA hS) rfl rfl rfl (by decide) rfl (by decide) hT (fun v1 w1 hq => ?_)
  obtain ⟨rfl, rfl⟩ := hq
  refine ⟨_, _, RW 0 q A u c k, rfl, rfl, rfl, ?_⟩
  refine im_b rfl rfl ⟨(by split <;> decide), trivial⟩ (fun br1 => ?_) (fun br1 => ?_)
  · have c6 : ¬ (tk_C A N j = 1) := by
      intro hh
      rw [if_pos hh] at br1
      exact absurd br1 (by decide)
    clear br1
    refine im_g 2 (y := (16, _, _, _)) rfl trivial ?_
    refine im_call [0,1,2,3,4] rfl rfl (w_is_stays (q := q) (u := u) (c := c) (k := k) (by omega) hT hA hS) rfl rfl rfl (by decide) rfl (by decide) hT (fun v1 w1 hq => ?_)
    obtain ⟨rfl, rfl⟩ := hq
    refine ⟨_, _, RW 0 q A u c k, rfl, rfl, rfl, ?_⟩
    refine im_b rfl rfl ⟨(by split <;> decide), trivial⟩ (fun br2 => ?_) (fun br2 => ?_)
    · have c19 : ¬ (tk_C A N j = 2) := by
        intro hh
        rw [if_pos hh] at br2
        exact absurd br2 (by decide)
      clear br2
      refine im_g 2 (y := (29, _, _, _)) rfl trivial ?_
      refine im_call [0,1,2,3,4] rfl rfl (w_is_steps (q := q) (u := u) (c := c) (k := k) (by omega) hT hA hS) rfl rfl rfl (by decide) rfl (by decide) hT (fun v1 w1 hq => ?_)
      obtain ⟨rfl, rfl⟩ := hq
      refine ⟨_, _, RW 0 q A u c k, rfl, rfl, rfl, ?_⟩
      refine im_b rfl rfl ⟨(by split <;> decide), trivial⟩ (fun br3 => ?_) (fun br3 => ?_)
      · have c32 : ¬ (tk_C A N j = 3) := by
          intro hh
          rw [if_pos hh] at br3
          exact absurd br3 (by decide)
        clear br3
        refine im_g 2 (y := (42, _, _, _)) rfl trivial ?_
        refine im_call [0,1,2,3,4] rfl rfl (w_is_bars (q := q) (u := u) (c := c) (k := k) (by omega) hT hA hS) rfl rfl rfl (by decide) rfl (by decide) hT (fun v1 w1 hq => ?_)
        obtain ⟨rfl, rfl⟩ := hq
        refine ⟨_, _, RW 0 q A u c k, rfl, rfl, rfl, ?_⟩
        refine im_b rfl rfl ⟨(by split <;> decide), trivial⟩ (fun br4 => ?_) (fun br4 => ?_)
        · have c45 : ¬ (tk_C A N j = 4) := by
            intro hh
            rw [if_pos hh] at br4
            exact absurd br4 (by decide)
          clear br4
          refine im_g 4 (y := (56, _, _, _)) rfl trivial ?_
          refine im_bF rfl rfl ⟨(by decide), (by decide), trivial⟩ (fun z => z rfl) ?_
          refine im_g 1 (y := (60, _, _, _)) rfl trivial ?_
          refine im_call [0,1,2,3,4] rfl rfl (c_fail (q := q) (A := A) (u := u) (c := c) (k := k) (by omega) hT (by rw [hS.2.1.2.2.2.2.2]; decide)) rfl rfl rfl (by decide) rfl (by decide) hT (fun v1 w1 hq => ?_)
          obtain ⟨rfl, rfl⟩ := hq
          refine ⟨_, _, RW 0 (rd_fail q) A u c k, rfl, rfl, rfl, ?_⟩
          refine im_r rfl rfl trivial rfl ?_
          have hres : res = .inl j := by
            unfold d_law at hdn
            rw [if_neg (by omega), if_neg (by omega)] at hdn
            cases hdn; rfl
          rw [hres]
          exact ⟨rfl, _, _, _, _, rfl, CLp_fail h⟩
        · have c45 : tk_C A N j = 4 := by
            by_cases hh : tk_C A N j = 4
            · exact hh
            · rw [if_neg hh] at br4; exact absurd rfl br4
          clear br4
          refine im_g 5 (y := (56, _, _, _)) rfl trivial ?_
          refine im_bT rfl rfl ⟨(by decide), (by decide), trivial⟩ (by decide) ?_
          have hK := CLp_kind (K' := 3) h hz (by decide)
          have hK1 := CLp_next hK
          have hlt := tk_lt (A := A) hN (i := j) (by omega)
          unfold d_law at hdn
          rw [if_neg (by omega), if_pos (by omega)] at hdn
          refine im_g 4 (y := (70, _, _, _)) rfl trivial ?_
          refine im_call [2,3,4] rfl rfl (c_put (cl := 436) (kl := 60) (u := u) (c := c) (k := k) (by omega) hT (by decide) (hzz) (f := 0) (x := 3) (by decide)) rfl rfl rfl (by decide) rfl (by decide) hT (fun v1 w1 hq => ?_)
          obtain ⟨rfl, rfl⟩ := hq
          refine ⟨_, _, RW 0 q A u c (tx_put 60 (u).2.1 0 3 k), rfl, rfl, rfl, ?_⟩
          refine im_g 1 (y := (74, _, _, _)) rfl trivial ?_
          refine im_call [0,1,2,3,4] rfl rfl (c_step (q := q) (A := A) (u := u) (c := c) (k := (tx_put 60 u.2.1 0 3 k)) (by omega) hT hA hK.1.2.1) rfl rfl rfl (by decide) rfl (by decide) hT (fun v1 w1 hq => ?_)
          obtain ⟨rfl, rfl⟩ := hq
          refine ⟨_, _, RW 0 (rd_next A q) A u c (tx_put 60 u.2.1 0 3 k), rfl, rfl, rfl, ?_⟩
          refine im_g 2 (y := (79, _, _, _)) rfl trivial ?_
          refine im_bT rfl rfl ⟨(by decide), (by decide), trivial⟩ rfl ?_
          unfold d_if at hdn
          by_cases h5 : tk_C A N (j + 1) = 5
          · rw [if_pos h5] at hdn
            rcases d_bq_s hdn with ⟨fd, qd1, hres⟩ | ⟨jd, ld, md, qd1, qd3⟩
            · refine im_g 1 (y := (88, _, _, _)) rfl trivial ?_
              refine im_call [0,1,2,3,4] rfl rfl (c_condY (od := false) (q := (rd_next A q)) (u := u) (c := c) (k := (tx_put 60 u.2.1 0 3 k)) (by omega) hT hA hK1.1 (by have t := hK1.2.1.1; omega) h5 (by have t := hK1.2.1.2.2.1; omega) qd1) rfl rfl rfl (by decide) rfl (by decide) hT (fun v1 w1 hq => ?_)
              obtain ⟨rfl, q9, u9, c9, rfl, hR9⟩ := hq
              refine ⟨_, _, RW 0 q9 A u9 c9 (tx_put 60 (u).2.1 4 (u).1 ((tx_put 60 u.2.1 0 3 k))), rfl, rfl, rfl, ?_⟩
              refine im_r rfl rfl trivial rfl ?_
              rw [hres]
              exact ⟨rfl, _, _, _, _, rfl, CLp_dead (f := 4) (CLp_next hK1) (by omega) (by have t := tk_lt (A := A) hN (i := j + 1) (by omega); omega) hR9⟩
            · have hl3 := dn_parts _ _ _ _ _ _ _ _ _ (by decide) hK1.1.1.2.2.2 qd1
              refine im_g 1 (y := (88, _, _, _)) rfl trivial ?_
              refine im_call [0,1,2,3,4] rfl rfl (c_condY (od := false) (q := (rd_next A q)) (u := u) (c := c) (k := (tx_put 60 u.2.1 0 3 k)) (by omega) hT hA hK1.1 (by have t := hK1.2.1.1; omega) h5 (by have t := hK1.2.1.2.2.1; omega) qd1) rfl rfl rfl (by decide) rfl (by decide) hT (fun v1 w1 hq => ?_)
              obtain ⟨rfl, q9, u9, c9, rfl, hR9⟩ := hq
              refine ⟨_, _, RW 0 q9 A u9 c9 (tx_put 60 (u).2.1 4 (u).1 ((tx_put 60 u.2.1 0 3 k))), rfl, rfl, rfl, ?_⟩
              refine im_r rfl rfl trivial rfl ?_
              have hres : res = .inr (jd, ld, 3, 1, d_1, d_1, md) := by cases qd3; rfl
              rw [hres]
              exact ⟨rfl, _, _, _, _, rfl, CLp_s (CLp_put (f := 4) (CLp_next hK1) hz (by decide) (by omega) (by have t := tk_lt (A := A) hN (i := j + 1) (by omega); omega) hR9 hl3) (by omega)⟩
          · rw [if_neg h5] at hdn
            refine im_g 1 (y := (88, _, _, _)) rfl trivial ?_
            refine im_call [0,1,2,3,4] rfl rfl (c_condN (od := false) (q := (rd_next A q)) (u := u) (c := c) (k := (tx_put 60 u.2.1 0 3 k)) (by omega) hT hA hK1.1 h5) rfl rfl rfl (by decide) rfl (by decide) hT (fun v1 w1 hq => ?_)
            obtain ⟨rfl, rfl⟩ := hq
            refine ⟨_, _, RW 0 ((rd_next A q)) A (u) (c) ((tx_put 60 u.2.1 0 3 k)), rfl, rfl, rfl, ?_⟩
            refine im_r rfl rfl trivial rfl ?_
            have hres : res = .inr (j + 1, l, 3, 1, d_1, d_1, d_1) := by cases hdn; rfl
            rw [hres]
            exact ⟨rfl, _, _, _, _, rfl, CLp_s hK1 (by omega)⟩
      · have c32 : tk_C A N j = 3 := by
          by_cases hh : tk_C A N j = 3
          · exact hh
          · rw [if_neg hh] at br3; exact absurd rfl br3
        clear br3
        refine im_g 5 (y := (56, _, _, _)) rfl trivial ?_
        refine im_bT rfl rfl ⟨(by decide), (by decide), trivial⟩ (by decide) ?_
        have hK := CLp_kind (K' := 2) h hz (by decide)
        have hK1 := CLp_next hK
        have hlt := tk_lt (A := A) hN (i := j) (by omega)
        unfold d_law at hdn
        rw [if_pos (by omega), show tk_C A N j - 1 = 2 by omega] at hdn
        rcases d_bq_s hdn with ⟨f, q1, hres⟩ | ⟨j1, l1, m1, q1, q3⟩
        · refine im_g 4 (y := (70, _, _, _)) rfl trivial ?_
          refine im_call [2,3,4] rfl rfl (c_put (cl := 436) (kl := 60) (u := u) (c := c) (k := k) (by omega) hT (by decide) (hzz) (f := 0) (x := 2) (by decide)) rfl rfl rfl (by decide) rfl (by decide) hT (fun v1 w1 hq => ?_)
          obtain ⟨rfl, rfl⟩ := hq
          refine ⟨_, _, RW 0 q A u c (tx_put 60 (u).2.1 0 2 k), rfl, rfl, rfl, ?_⟩
          refine im_g 1 (y := (74, _, _, _)) rfl trivial ?_
          refine im_call [0,1,2,3,4] rfl rfl (c_step (q := q) (A := A) (u := u) (c := c) (k := (tx_put 60 u.2.1 0 2 k)) (by omega) hT hA hK.1.2.1) rfl rfl rfl (by decide) rfl (by decide) hT (fun v1 w1 hq => ?_)
          obtain ⟨rfl, rfl⟩ := hq
          refine ⟨_, _, RW 0 (rd_next A q) A u c (tx_put 60 u.2.1 0 2 k), rfl, rfl, rfl, ?_⟩
          refine im_g 2 (y := (79, _, _, _)) rfl trivial ?_
          refine im_bF rfl rfl ⟨(by decide), (by decide), trivial⟩ (by decide) ?_
          refine im_g 2 (y := (84, _, _, _)) rfl trivial ?_
          refine im_call [0,1,2,3,4] rfl rfl (c_wsum (od := false) (q := (rd_next A q)) (u := u) (c := c) (k := (tx_put 60 u.2.1 0 2 k)) (by omega) hT hA hK1.1 (by have t := hK1.2.1.1; omega) (f := 2) (by decide) (by have t := hK1.2.1.2.2.1; omega) (by omega) q1) rfl rfl rfl (by decide) rfl (by decide) hT (fun v1 w1 hq => ?_)
          obtain ⟨rfl, q2, u2, c2, rfl, hR2⟩ := hq
          refine ⟨_, _, RW 0 q2 A u2 c2 (tx_put 60 (u).2.1 2 (u).1 ((tx_put 60 u.2.1 0 2 k))), rfl, rfl, rfl, ?_⟩
          have hX := CLp_dead (f := 2) hK1 (by omega) (by omega) hR2
          refine im_g 1 (y := (88, _, _, _)) rfl trivial ?_
          refine im_call [0,1,2,3,4] rfl rfl (c_condD (q := q2) (A := A) (u := u2) (c := c2) (k := (tx_put 60 u.2.1 2 u.1 (tx_put 60 u.2.1 0 2 k))) (by omega) hT hX.2.2.2.2) rfl rfl rfl (by decide) rfl (by decide) hT (fun v1 w1 hq => ?_)
          obtain ⟨rfl, rfl⟩ := hq
          refine ⟨_, _, RW 0 (q2) A (u2) (c2) ((tx_put 60 u.2.1 2 u.1 (tx_put 60 u.2.1 0 2 k))), rfl, rfl, rfl, ?_⟩
          refine im_r rfl rfl trivial rfl ?_
          rw [hres]
          exact ⟨rfl, _, _, _, _, rfl, hX⟩
        · have hj1 := dn_nt hN (by decide) hlt q1
          have hl1 := dn_parts _ _ _ _ _ _ _ _ _ (by decide) hK1.1.1.2.2.2 q1
          refine im_g 4 (y := (70, _, _, _)) rfl trivial ?_
          refine im_call [2,3,4] rfl rfl (c_put (cl := 436) (kl := 60) (u := u) (c := c) (k := k) (by omega) hT (by decide) (hzz) (f := 0) (x := 2) (by decide)) rfl rfl rfl (by decide) rfl (by decide) hT (fun v1 w1 hq => ?_)
          obtain ⟨rfl, rfl⟩ := hq
          refine ⟨_, _, RW 0 q A u c (tx_put 60 (u).2.1 0 2 k), rfl, rfl, rfl, ?_⟩
          refine im_g 1 (y := (74, _, _, _)) rfl trivial ?_
          refine im_call [0,1,2,3,4] rfl rfl (c_step (q := q) (A := A) (u := u) (c := c) (k := (tx_put 60 u.2.1 0 2 k)) (by omega) hT hA hK.1.2.1) rfl rfl rfl (by decide) rfl (by decide) hT (fun v1 w1 hq => ?_)
          obtain ⟨rfl, rfl⟩ := hq
          refine ⟨_, _, RW 0 (rd_next A q) A u c (tx_put 60 u.2.1 0 2 k), rfl, rfl, rfl, ?_⟩
          refine im_g 2 (y := (79, _, _, _)) rfl trivial ?_
          refine im_bF rfl rfl ⟨(by decide), (by decide), trivial⟩ (by decide) ?_
          refine im_g 2 (y := (84, _, _, _)) rfl trivial ?_
          refine im_call [0,1,2,3,4] rfl rfl (c_wsum (od := false) (q := (rd_next A q)) (u := u) (c := c) (k := (tx_put 60 u.2.1 0 2 k)) (by omega) hT hA hK1.1 (by have t := hK1.2.1.1; omega) (f := 2) (by decide) (by have t := hK1.2.1.2.2.1; omega) (by omega) q1) rfl rfl rfl (by decide) rfl (by decide) hT (fun v1 w1 hq => ?_)
          obtain ⟨rfl, q2, u2, c2, rfl, hR2⟩ := hq
          refine ⟨_, _, RW 0 q2 A u2 c2 (tx_put 60 (u).2.1 2 (u).1 ((tx_put 60 u.2.1 0 2 k))), rfl, rfl, rfl, ?_⟩
          have hM : CLp false A N z u0 c0 k0 j1 l1 (s + 1) u2 c2 (tx_put 60 u.2.1 2 u.1 (tx_put 60 u.2.1 0 2 k)) q2 (2, 1, m1, d_1, d_1) := CLp_put (f := 2) hK1 hz (by decide) (by omega) (by omega) hR2 hl1
          unfold d_if at q3
          by_cases h5 : tk_C A N (j1) = 5
          · rw [if_pos h5] at q3
            rcases d_bq_s q3 with ⟨fd, qd1, hres⟩ | ⟨jd, ld, md, qd1, qd3⟩
            · refine im_g 1 (y := (88, _, _, _)) rfl trivial ?_
              refine im_call [0,1,2,3,4] rfl rfl (c_condY (od := false) (q := q2) (u := u2) (c := c2) (k := (tx_put 60 u.2.1 2 u.1 (tx_put 60 u.2.1 0 2 k))) (by omega) hT hA hM.1 (by have t := hM.2.1.1; omega) h5 (by have t := hM.2.1.2.2.1; omega) qd1) rfl rfl rfl (by decide) rfl (by decide) hT (fun v1 w1 hq => ?_)
              obtain ⟨rfl, q9, u9, c9, rfl, hR9⟩ := hq
              refine ⟨_, _, RW 0 q9 A u9 c9 (tx_put 60 (u2).2.1 4 (u2).1 ((tx_put 60 u.2.1 2 u.1 (tx_put 60 u.2.1 0 2 k)))), rfl, rfl, rfl, ?_⟩
              refine im_r rfl rfl trivial rfl ?_
              rw [hres]
              exact ⟨rfl, _, _, _, _, rfl, CLp_dead (f := 4) (CLp_next hM) (by omega) (by have t := tk_lt (A := A) hN (i := j1) (by omega); omega) hR9⟩
            · have hl3 := dn_parts _ _ _ _ _ _ _ _ _ (by decide) hM.1.1.2.2.2 qd1
              refine im_g 1 (y := (88, _, _, _)) rfl trivial ?_
              refine im_call [0,1,2,3,4] rfl rfl (c_condY (od := false) (q := q2) (u := u2) (c := c2) (k := (tx_put 60 u.2.1 2 u.1 (tx_put 60 u.2.1 0 2 k))) (by omega) hT hA hM.1 (by have t := hM.2.1.1; omega) h5 (by have t := hM.2.1.2.2.1; omega) qd1) rfl rfl rfl (by decide) rfl (by decide) hT (fun v1 w1 hq => ?_)
              obtain ⟨rfl, q9, u9, c9, rfl, hR9⟩ := hq
              refine ⟨_, _, RW 0 q9 A u9 c9 (tx_put 60 (u2).2.1 4 (u2).1 ((tx_put 60 u.2.1 2 u.1 (tx_put 60 u.2.1 0 2 k)))), rfl, rfl, rfl, ?_⟩
              refine im_r rfl rfl trivial rfl ?_
              have hres : res = .inr (jd, ld, 2, 1, m1, d_1, md) := by cases qd3; rfl
              rw [hres]
              exact ⟨rfl, _, _, _, _, rfl, CLp_s (CLp_put (f := 4) (CLp_next hM) hz (by decide) (by omega) (by have t := tk_lt (A := A) hN (i := j1) (by omega); omega) hR9 hl3) (by omega)⟩
          · rw [if_neg h5] at q3
            refine im_g 1 (y := (88, _, _, _)) rfl trivial ?_
            refine im_call [0,1,2,3,4] rfl rfl (c_condN (od := false) (q := q2) (u := u2) (c := c2) (k := (tx_put 60 u.2.1 2 u.1 (tx_put 60 u.2.1 0 2 k))) (by omega) hT hA hM.1 h5) rfl rfl rfl (by decide) rfl (by decide) hT (fun v1 w1 hq => ?_)
            obtain ⟨rfl, rfl⟩ := hq
            refine ⟨_, _, RW 0 (q2) A (u2) (c2) ((tx_put 60 u.2.1 2 u.1 (tx_put 60 u.2.1 0 2 k))), rfl, rfl, rfl, ?_⟩
            refine im_r rfl rfl trivial rfl ?_
            have hres : res = .inr (j1, l1, 2, 1, m1, d_1, d_1) := by cases q3; rfl
            rw [hres]
            exact ⟨rfl, _, _, _, _, rfl, CLp_s hM (by omega)⟩
    · have c19 : tk_C A N j = 2 := by
        by_cases hh : tk_C A N j = 2
        · exact hh
        · rw [if_neg hh] at br2; exact absurd rfl br2
      clear br2
      refine im_g 5 (y := (56, _, _, _)) rfl trivial ?_
      refine im_bT rfl rfl ⟨(by decide), (by decide), trivial⟩ (by decide) ?_
      have hK := CLp_kind (K' := 1) h hz (by decide)
      have hK1 := CLp_next hK
      have hlt := tk_lt (A := A) hN (i := j) (by omega)
      unfold d_law at hdn
      rw [if_pos (by omega), show tk_C A N j - 1 = 1 by omega] at hdn
      rcases d_bq_s hdn with ⟨f, q1, hres⟩ | ⟨j1, l1, m1, q1, q3⟩
      · refine im_g 4 (y := (70, _, _, _)) rfl trivial ?_
        refine im_call [2,3,4] rfl rfl (c_put (cl := 436) (kl := 60) (u := u) (c := c) (k := k) (by omega) hT (by decide) (hzz) (f := 0) (x := 1) (by decide)) rfl rfl rfl (by decide) rfl (by decide) hT (fun v1 w1 hq => ?_)
        obtain ⟨rfl, rfl⟩ := hq
        refine ⟨_, _, RW 0 q A u c (tx_put 60 (u).2.1 0 1 k), rfl, rfl, rfl, ?_⟩
        refine im_g 1 (y := (74, _, _, _)) rfl trivial ?_
        refine im_call [0,1,2,3,4] rfl rfl (c_step (q := q) (A := A) (u := u) (c := c) (k := (tx_put 60 u.2.1 0 1 k)) (by omega) hT hA hK.1.2.1) rfl rfl rfl (by decide) rfl (by decide) hT (fun v1 w1 hq => ?_)
        obtain ⟨rfl, rfl⟩ := hq
        refine ⟨_, _, RW 0 (rd_next A q) A u c (tx_put 60 u.2.1 0 1 k), rfl, rfl, rfl, ?_⟩
        refine im_g 2 (y := (79, _, _, _)) rfl trivial ?_
        refine im_bF rfl rfl ⟨(by decide), (by decide), trivial⟩ (by decide) ?_
        refine im_g 2 (y := (84, _, _, _)) rfl trivial ?_
        refine im_call [0,1,2,3,4] rfl rfl (c_wsum (od := false) (q := (rd_next A q)) (u := u) (c := c) (k := (tx_put 60 u.2.1 0 1 k)) (by omega) hT hA hK1.1 (by have t := hK1.2.1.1; omega) (f := 2) (by decide) (by have t := hK1.2.1.2.2.1; omega) (by omega) q1) rfl rfl rfl (by decide) rfl (by decide) hT (fun v1 w1 hq => ?_)
        obtain ⟨rfl, q2, u2, c2, rfl, hR2⟩ := hq
        refine ⟨_, _, RW 0 q2 A u2 c2 (tx_put 60 (u).2.1 2 (u).1 ((tx_put 60 u.2.1 0 1 k))), rfl, rfl, rfl, ?_⟩
        have hX := CLp_dead (f := 2) hK1 (by omega) (by omega) hR2
        refine im_g 1 (y := (88, _, _, _)) rfl trivial ?_
        refine im_call [0,1,2,3,4] rfl rfl (c_condD (q := q2) (A := A) (u := u2) (c := c2) (k := (tx_put 60 u.2.1 2 u.1 (tx_put 60 u.2.1 0 1 k))) (by omega) hT hX.2.2.2.2) rfl rfl rfl (by decide) rfl (by decide) hT (fun v1 w1 hq => ?_)
        obtain ⟨rfl, rfl⟩ := hq
        refine ⟨_, _, RW 0 (q2) A (u2) (c2) ((tx_put 60 u.2.1 2 u.1 (tx_put 60 u.2.1 0 1 k))), rfl, rfl, rfl, ?_⟩
        refine im_r rfl rfl trivial rfl ?_
        rw [hres]
        exact ⟨rfl, _, _, _, _, rfl, hX⟩
      · have hj1 := dn_nt hN (by decide) hlt q1
        have hl1 := dn_parts _ _ _ _ _ _ _ _ _ (by decide) hK1.1.1.2.2.2 q1
        refine im_g 4 (y := (70, _, _, _)) rfl trivial ?_
        refine im_call [2,3,4] rfl rfl (c_put (cl := 436) (kl := 60) (u := u) (c := c) (k := k) (by omega) hT (by decide) (hzz) (f := 0) (x := 1) (by decide)) rfl rfl rfl (by decide) rfl (by decide) hT (fun v1 w1 hq => ?_)
        obtain ⟨rfl, rfl⟩ := hq
        refine ⟨_, _, RW 0 q A u c (tx_put 60 (u).2.1 0 1 k), rfl, rfl, rfl, ?_⟩
        refine im_g 1 (y := (74, _, _, _)) rfl trivial ?_
        refine im_call [0,1,2,3,4] rfl rfl (c_step (q := q) (A := A) (u := u) (c := c) (k := (tx_put 60 u.2.1 0 1 k)) (by omega) hT hA hK.1.2.1) rfl rfl rfl (by decide) rfl (by decide) hT (fun v1 w1 hq => ?_)
        obtain ⟨rfl, rfl⟩ := hq
        refine ⟨_, _, RW 0 (rd_next A q) A u c (tx_put 60 u.2.1 0 1 k), rfl, rfl, rfl, ?_⟩
        refine im_g 2 (y := (79, _, _, _)) rfl trivial ?_
        refine im_bF rfl rfl ⟨(by decide), (by decide), trivial⟩ (by decide) ?_
        refine im_g 2 (y := (84, _, _, _)) rfl trivial ?_
        refine im_call [0,1,2,3,4] rfl rfl (c_wsum (od := false) (q := (rd_next A q)) (u := u) (c := c) (k := (tx_put 60 u.2.1 0 1 k)) (by omega) hT hA hK1.1 (by have t := hK1.2.1.1; omega) (f := 2) (by decide) (by have t := hK1.2.1.2.2.1; omega) (by omega) q1) rfl rfl rfl (by decide) rfl (by decide) hT (fun v1 w1 hq => ?_)
        obtain ⟨rfl, q2, u2, c2, rfl, hR2⟩ := hq
        refine ⟨_, _, RW 0 q2 A u2 c2 (tx_put 60 (u).2.1 2 (u).1 ((tx_put 60 u.2.1 0 1 k))), rfl, rfl, rfl, ?_⟩
        have hM : CLp false A N z u0 c0 k0 j1 l1 (s + 1) u2 c2 (tx_put 60 u.2.1 2 u.1 (tx_put 60 u.2.1 0 1 k)) q2 (1, 1, m1, d_1, d_1) := CLp_put (f := 2) hK1 hz (by decide) (by omega) (by omega) hR2 hl1
        unfold d_if at q3
        by_cases h5 : tk_C A N (j1) = 5
        · rw [if_pos h5] at q3
          rcases d_bq_s q3 with ⟨fd, qd1, hres⟩ | ⟨jd, ld, md, qd1, qd3⟩
          · refine im_g 1 (y := (88, _, _, _)) rfl trivial ?_
            refine im_call [0,1,2,3,4] rfl rfl (c_condY (od := false) (q := q2) (u := u2) (c := c2) (k := (tx_put 60 u.2.1 2 u.1 (tx_put 60 u.2.1 0 1 k))) (by omega) hT hA hM.1 (by have t := hM.2.1.1; omega) h5 (by have t := hM.2.1.2.2.1; omega) qd1) rfl rfl rfl (by decide) rfl (by decide) hT (fun v1 w1 hq => ?_)
            obtain ⟨rfl, q9, u9, c9, rfl, hR9⟩ := hq
            refine ⟨_, _, RW 0 q9 A u9 c9 (tx_put 60 (u2).2.1 4 (u2).1 ((tx_put 60 u.2.1 2 u.1 (tx_put 60 u.2.1 0 1 k)))), rfl, rfl, rfl, ?_⟩
            refine im_r rfl rfl trivial rfl ?_
            rw [hres]
            exact ⟨rfl, _, _, _, _, rfl, CLp_dead (f := 4) (CLp_next hM) (by omega) (by have t := tk_lt (A := A) hN (i := j1) (by omega); omega) hR9⟩
          · have hl3 := dn_parts _ _ _ _ _ _ _ _ _ (by decide) hM.1.1.2.2.2 qd1
            refine im_g 1 (y := (88, _, _, _)) rfl trivial ?_
            refine im_call [0,1,2,3,4] rfl rfl (c_condY (od := false) (q := q2) (u := u2) (c := c2) (k := (tx_put 60 u.2.1 2 u.1 (tx_put 60 u.2.1 0 1 k))) (by omega) hT hA hM.1 (by have t := hM.2.1.1; omega) h5 (by have t := hM.2.1.2.2.1; omega) qd1) rfl rfl rfl (by decide) rfl (by decide) hT (fun v1 w1 hq => ?_)
            obtain ⟨rfl, q9, u9, c9, rfl, hR9⟩ := hq
            refine ⟨_, _, RW 0 q9 A u9 c9 (tx_put 60 (u2).2.1 4 (u2).1 ((tx_put 60 u.2.1 2 u.1 (tx_put 60 u.2.1 0 1 k)))), rfl, rfl, rfl, ?_⟩
            refine im_r rfl rfl trivial rfl ?_
            have hres : res = .inr (jd, ld, 1, 1, m1, d_1, md) := by cases qd3; rfl
            rw [hres]
            exact ⟨rfl, _, _, _, _, rfl, CLp_s (CLp_put (f := 4) (CLp_next hM) hz (by decide) (by omega) (by have t := tk_lt (A := A) hN (i := j1) (by omega); omega) hR9 hl3) (by omega)⟩
        · rw [if_neg h5] at q3
          refine im_g 1 (y := (88, _, _, _)) rfl trivial ?_
          refine im_call [0,1,2,3,4] rfl rfl (c_condN (od := false) (q := q2) (u := u2) (c := c2) (k := (tx_put 60 u.2.1 2 u.1 (tx_put 60 u.2.1 0 1 k))) (by omega) hT hA hM.1 h5) rfl rfl rfl (by decide) rfl (by decide) hT (fun v1 w1 hq => ?_)
          obtain ⟨rfl, rfl⟩ := hq
          refine ⟨_, _, RW 0 (q2) A (u2) (c2) ((tx_put 60 u.2.1 2 u.1 (tx_put 60 u.2.1 0 1 k))), rfl, rfl, rfl, ?_⟩
          refine im_r rfl rfl trivial rfl ?_
          have hres : res = .inr (j1, l1, 1, 1, m1, d_1, d_1) := by cases q3; rfl
          rw [hres]
          exact ⟨rfl, _, _, _, _, rfl, CLp_s hM (by omega)⟩
  · have c6 : tk_C A N j = 1 := by
      by_cases hh : tk_C A N j = 1
      · exact hh
      · rw [if_neg hh] at br1; exact absurd rfl br1
    clear br1
    refine im_g 5 (y := (56, _, _, _)) rfl trivial ?_
    refine im_bT rfl rfl ⟨(by decide), (by decide), trivial⟩ (by decide) ?_
    have hK := CLp_kind (K' := 0) h hz (by decide)
    have hK1 := CLp_next hK
    have hlt := tk_lt (A := A) hN (i := j) (by omega)
    unfold d_law at hdn
    rw [if_pos (by omega), show tk_C A N j - 1 = 0 by omega] at hdn
    rcases d_bq_s hdn with ⟨f, q1, hres⟩ | ⟨j1, l1, m1, q1, q3⟩
    · refine im_g 4 (y := (70, _, _, _)) rfl trivial ?_
      refine im_call [2,3,4] rfl rfl (c_put (cl := 436) (kl := 60) (u := u) (c := c) (k := k) (by omega) hT (by decide) (hzz) (f := 0) (x := 0) (by decide)) rfl rfl rfl (by decide) rfl (by decide) hT (fun v1 w1 hq => ?_)
      obtain ⟨rfl, rfl⟩ := hq
      refine ⟨_, _, RW 0 q A u c (tx_put 60 (u).2.1 0 0 k), rfl, rfl, rfl, ?_⟩
      refine im_g 1 (y := (74, _, _, _)) rfl trivial ?_
      refine im_call [0,1,2,3,4] rfl rfl (c_step (q := q) (A := A) (u := u) (c := c) (k := (tx_put 60 u.2.1 0 0 k)) (by omega) hT hA hK.1.2.1) rfl rfl rfl (by decide) rfl (by decide) hT (fun v1 w1 hq => ?_)
      obtain ⟨rfl, rfl⟩ := hq
      refine ⟨_, _, RW 0 (rd_next A q) A u c (tx_put 60 u.2.1 0 0 k), rfl, rfl, rfl, ?_⟩
      refine im_g 2 (y := (79, _, _, _)) rfl trivial ?_
      refine im_bF rfl rfl ⟨(by decide), (by decide), trivial⟩ (by decide) ?_
      refine im_g 2 (y := (84, _, _, _)) rfl trivial ?_
      refine im_call [0,1,2,3,4] rfl rfl (c_wsum (od := false) (q := (rd_next A q)) (u := u) (c := c) (k := (tx_put 60 u.2.1 0 0 k)) (by omega) hT hA hK1.1 (by have t := hK1.2.1.1; omega) (f := 2) (by decide) (by have t := hK1.2.1.2.2.1; omega) (by omega) q1) rfl rfl rfl (by decide) rfl (by decide) hT (fun v1 w1 hq => ?_)
      obtain ⟨rfl, q2, u2, c2, rfl, hR2⟩ := hq
      refine ⟨_, _, RW 0 q2 A u2 c2 (tx_put 60 (u).2.1 2 (u).1 ((tx_put 60 u.2.1 0 0 k))), rfl, rfl, rfl, ?_⟩
      have hX := CLp_dead (f := 2) hK1 (by omega) (by omega) hR2
      refine im_g 1 (y := (88, _, _, _)) rfl trivial ?_
      refine im_call [0,1,2,3,4] rfl rfl (c_condD (q := q2) (A := A) (u := u2) (c := c2) (k := (tx_put 60 u.2.1 2 u.1 (tx_put 60 u.2.1 0 0 k))) (by omega) hT hX.2.2.2.2) rfl rfl rfl (by decide) rfl (by decide) hT (fun v1 w1 hq => ?_)
      obtain ⟨rfl, rfl⟩ := hq
      refine ⟨_, _, RW 0 (q2) A (u2) (c2) ((tx_put 60 u.2.1 2 u.1 (tx_put 60 u.2.1 0 0 k))), rfl, rfl, rfl, ?_⟩
      refine im_r rfl rfl trivial rfl ?_
      rw [hres]
      exact ⟨rfl, _, _, _, _, rfl, hX⟩
    · have hj1 := dn_nt hN (by decide) hlt q1
      have hl1 := dn_parts _ _ _ _ _ _ _ _ _ (by decide) hK1.1.1.2.2.2 q1
      refine im_g 4 (y := (70, _, _, _)) rfl trivial ?_
      refine im_call [2,3,4] rfl rfl (c_put (cl := 436) (kl := 60) (u := u) (c := c) (k := k) (by omega) hT (by decide) (hzz) (f := 0) (x := 0) (by decide)) rfl rfl rfl (by decide) rfl (by decide) hT (fun v1 w1 hq => ?_)
      obtain ⟨rfl, rfl⟩ := hq
      refine ⟨_, _, RW 0 q A u c (tx_put 60 (u).2.1 0 0 k), rfl, rfl, rfl, ?_⟩
      refine im_g 1 (y := (74, _, _, _)) rfl trivial ?_
      refine im_call [0,1,2,3,4] rfl rfl (c_step (q := q) (A := A) (u := u) (c := c) (k := (tx_put 60 u.2.1 0 0 k)) (by omega) hT hA hK.1.2.1) rfl rfl rfl (by decide) rfl (by decide) hT (fun v1 w1 hq => ?_)
      obtain ⟨rfl, rfl⟩ := hq
      refine ⟨_, _, RW 0 (rd_next A q) A u c (tx_put 60 u.2.1 0 0 k), rfl, rfl, rfl, ?_⟩
      refine im_g 2 (y := (79, _, _, _)) rfl trivial ?_
      refine im_bF rfl rfl ⟨(by decide), (by decide), trivial⟩ (by decide) ?_
      refine im_g 2 (y := (84, _, _, _)) rfl trivial ?_
      refine im_call [0,1,2,3,4] rfl rfl (c_wsum (od := false) (q := (rd_next A q)) (u := u) (c := c) (k := (tx_put 60 u.2.1 0 0 k)) (by omega) hT hA hK1.1 (by have t := hK1.2.1.1; omega) (f := 2) (by decide) (by have t := hK1.2.1.2.2.1; omega) (by omega) q1) rfl rfl rfl (by decide) rfl (by decide) hT (fun v1 w1 hq => ?_)
      obtain ⟨rfl, q2, u2, c2, rfl, hR2⟩ := hq
      refine ⟨_, _, RW 0 q2 A u2 c2 (tx_put 60 (u).2.1 2 (u).1 ((tx_put 60 u.2.1 0 0 k))), rfl, rfl, rfl, ?_⟩
      have hM : CLp false A N z u0 c0 k0 j1 l1 (s + 1) u2 c2 (tx_put 60 u.2.1 2 u.1 (tx_put 60 u.2.1 0 0 k)) q2 (0, 1, m1, d_1, d_1) := CLp_put (f := 2) hK1 hz (by decide) (by omega) (by omega) hR2 hl1
      unfold d_if at q3
      by_cases h5 : tk_C A N (j1) = 5
      · rw [if_pos h5] at q3
        rcases d_bq_s q3 with ⟨fd, qd1, hres⟩ | ⟨jd, ld, md, qd1, qd3⟩
        · refine im_g 1 (y := (88, _, _, _)) rfl trivial ?_
          refine im_call [0,1,2,3,4] rfl rfl (c_condY (od := false) (q := q2) (u := u2) (c := c2) (k := (tx_put 60 u.2.1 2 u.1 (tx_put 60 u.2.1 0 0 k))) (by omega) hT hA hM.1 (by have t := hM.2.1.1; omega) h5 (by have t := hM.2.1.2.2.1; omega) qd1) rfl rfl rfl (by decide) rfl (by decide) hT (fun v1 w1 hq => ?_)
          obtain ⟨rfl, q9, u9, c9, rfl, hR9⟩ := hq
          refine ⟨_, _, RW 0 q9 A u9 c9 (tx_put 60 (u2).2.1 4 (u2).1 ((tx_put 60 u.2.1 2 u.1 (tx_put 60 u.2.1 0 0 k)))), rfl, rfl, rfl, ?_⟩
          refine im_r rfl rfl trivial rfl ?_
          rw [hres]
          exact ⟨rfl, _, _, _, _, rfl, CLp_dead (f := 4) (CLp_next hM) (by omega) (by have t := tk_lt (A := A) hN (i := j1) (by omega); omega) hR9⟩
        · have hl3 := dn_parts _ _ _ _ _ _ _ _ _ (by decide) hM.1.1.2.2.2 qd1
          refine im_g 1 (y := (88, _, _, _)) rfl trivial ?_
          refine im_call [0,1,2,3,4] rfl rfl (c_condY (od := false) (q := q2) (u := u2) (c := c2) (k := (tx_put 60 u.2.1 2 u.1 (tx_put 60 u.2.1 0 0 k))) (by omega) hT hA hM.1 (by have t := hM.2.1.1; omega) h5 (by have t := hM.2.1.2.2.1; omega) qd1) rfl rfl rfl (by decide) rfl (by decide) hT (fun v1 w1 hq => ?_)
          obtain ⟨rfl, q9, u9, c9, rfl, hR9⟩ := hq
          refine ⟨_, _, RW 0 q9 A u9 c9 (tx_put 60 (u2).2.1 4 (u2).1 ((tx_put 60 u.2.1 2 u.1 (tx_put 60 u.2.1 0 0 k)))), rfl, rfl, rfl, ?_⟩
          refine im_r rfl rfl trivial rfl ?_
          have hres : res = .inr (jd, ld, 0, 1, m1, d_1, md) := by cases qd3; rfl
          rw [hres]
          exact ⟨rfl, _, _, _, _, rfl, CLp_s (CLp_put (f := 4) (CLp_next hM) hz (by decide) (by omega) (by have t := tk_lt (A := A) hN (i := j1) (by omega); omega) hR9 hl3) (by omega)⟩
      · rw [if_neg h5] at q3
        refine im_g 1 (y := (88, _, _, _)) rfl trivial ?_
        refine im_call [0,1,2,3,4] rfl rfl (c_condN (od := false) (q := q2) (u := u2) (c := c2) (k := (tx_put 60 u.2.1 2 u.1 (tx_put 60 u.2.1 0 0 k))) (by omega) hT hA hM.1 h5) rfl rfl rfl (by decide) rfl (by decide) hT (fun v1 w1 hq => ?_)
        obtain ⟨rfl, rfl⟩ := hq
        refine ⟨_, _, RW 0 (q2) A (u2) (c2) ((tx_put 60 u.2.1 2 u.1 (tx_put 60 u.2.1 0 0 k))), rfl, rfl, rfl, ?_⟩
        refine im_r rfl rfl trivial rfl ?_
        have hres : res = .inr (j1, l1, 0, 1, m1, d_1, d_1) := by cases q3; rfl
        rw [hres]
        exact ⟨rfl, _, _, _, _, rfl, CLp_s hM (by omega)⟩
set_option maxHeartbeats 8000000 in
theorem t_otail {d : Nat} (hd : 77 ≤ d) (hT : T.length < 1000) {A : Int → Int} {N : Int} (hA : tk_ok A) {z : Int} {u0 : Int × Int × Int} {c0 k0 : Int → Int} {j l s : Int} {u : Int × Int × Int} {c k : Int → Int} {q : Nat → Int} (hz : 0 ≤ z ∧ z ≤ 11) {K : Int} {m1 m2 : dM} (h : CLp true A N z u0 c0 k0 j l s u c k q (K, 1, m1, m2, d_1)) (hs : s ≤ 35) {n : Nat} {res : dQ} (hdn : d_times (tk_C A N) (tk_X A N) n j l K m1 m2 = some res) : im_wp ro (ab_Ev ro ab_codes d) 5 none ab_k_X5_readOrder 5 T (fun r w => r = none ∧ ∃ q' u' c' k', w = RW 0 q' A u' c' k' ∧ CLq true A N z u0 c0 k0 (s + 1) res u' c' k' q') (130, [some (mr 0), some (.inl (K))], [], RW 0 q A u c k) := by
  have hS := h.1
  have hN := RdS_N hS
  have htn := (tk_nt_b (A := A) hN).1
  have hzz : 0 ≤ u.2.1 ∧ u.2.1 ≤ 20 := by have t := h.2.1.1; omega
  have hub := h.2.1.2.2.1
  unfold d_times at hdn
  by_cases h27 : tk_C A N j = 27
  · rw [if_pos h27] at hdn
    by_cases hX : tk_C A N (j + 1) = 50 ∧ 1 ≤ tk_X A N (j + 1) ∧ tk_X A N (j + 1) ≤ 20
    · rw [if_pos hX] at hdn
      have hlt := tk_lt (A := A) hN (i := j) (by omega)
      have hlt2 := tk_lt (A := A) hN (i := j + 1) (by omega)
      have hM : CLp true A N z u0 c0 k0 (j + 2) l s u c (tx_put 60 u.2.1 1 (tk_X A N (j + 1)) k) (rd_next A (rd_next A q)) (K, tk_X A N (j + 1), m1, m2, d_1) := by
        have t := CLp_times (CLp_next (CLp_next h)) hz hX.2
        rw [show j + 1 + 1 = j + 2 by omega] at t
        exact t
      refine im_g 1 (y := (131, _, _, _)) rfl trivial ?_
      refine im_call [0,1,2,3,4] rfl rfl (c_timesY (od := true) (q := q) (u := u) (c := c) (k := k) (by omega) hT hA hS hzz h27 hX) rfl rfl rfl (by decide) rfl (by decide) hT (fun v1 w1 hq => ?_)
      obtain ⟨rfl, rfl⟩ := hq
      refine ⟨_, _, RW 0 (rd_next A (rd_next A q)) A u c (tx_put 60 u.2.1 1 (tk_X A N (j + 1)) k), rfl, rfl, rfl, ?_⟩
      unfold d_if at hdn
      by_cases h5 : tk_C A N (j + 2) = 5
      · rw [if_pos h5] at hdn
        rcases d_bq_s hdn with ⟨fd, qd1, hres⟩ | ⟨jd, ld, md, qd1, qd3⟩
        · refine im_g 1 (y := (135, _, _, _)) rfl trivial ?_
          refine im_call [0,1,2,3,4] rfl rfl (c_condY (od := true) (q := (rd_next A (rd_next A q))) (u := u) (c := c) (k := (tx_put 60 u.2.1 1 (tk_X A N (j + 1)) k)) (by omega) hT hA hM.1 (by have t := hM.2.1.1; omega) h5 (by have t := hM.2.1.2.2.1; omega) qd1) rfl rfl rfl (by decide) rfl (by decide) hT (fun v1 w1 hq => ?_)
          obtain ⟨rfl, q9, u9, c9, rfl, hR9⟩ := hq
          refine ⟨_, _, RW 0 q9 A u9 c9 (tx_put 60 (u).2.1 4 (u).1 ((tx_put 60 u.2.1 1 (tk_X A N (j + 1)) k))), rfl, rfl, rfl, ?_⟩
          refine im_r rfl rfl trivial rfl ?_
          rw [hres]
          exact ⟨rfl, _, _, _, _, rfl, CLp_dead (f := 4) (CLp_next hM) (by omega) (by have t := tk_lt (A := A) hN (i := j + 2) (by omega); omega) hR9⟩
        · have hl3 := dn_parts _ _ _ _ _ _ _ _ _ (by decide) hM.1.1.2.2.2 qd1
          refine im_g 1 (y := (135, _, _, _)) rfl trivial ?_
          refine im_call [0,1,2,3,4] rfl rfl (c_condY (od := true) (q := (rd_next A (rd_next A q))) (u := u) (c := c) (k := (tx_put 60 u.2.1 1 (tk_X A N (j + 1)) k)) (by omega) hT hA hM.1 (by have t := hM.2.1.1; omega) h5 (by have t := hM.2.1.2.2.1; omega) qd1) rfl rfl rfl (by decide) rfl (by decide) hT (fun v1 w1 hq => ?_)
          obtain ⟨rfl, q9, u9, c9, rfl, hR9⟩ := hq
          refine ⟨_, _, RW 0 q9 A u9 c9 (tx_put 60 (u).2.1 4 (u).1 ((tx_put 60 u.2.1 1 (tk_X A N (j + 1)) k))), rfl, rfl, rfl, ?_⟩
          refine im_r rfl rfl trivial rfl ?_
          have hres : res = .inr (jd, ld, K, tk_X A N (j + 1), m1, m2, md) := by cases qd3; rfl
          rw [hres]
          exact ⟨rfl, _, _, _, _, rfl, CLp_s (CLp_put (f := 4) (CLp_next hM) hz (by decide) (by omega) (by have t := tk_lt (A := A) hN (i := j + 2) (by omega); omega) hR9 hl3) (by omega)⟩
      · rw [if_neg h5] at hdn
        refine im_g 1 (y := (135, _, _, _)) rfl trivial ?_
        refine im_call [0,1,2,3,4] rfl rfl (c_condN (od := true) (q := (rd_next A (rd_next A q))) (u := u) (c := c) (k := (tx_put 60 u.2.1 1 (tk_X A N (j + 1)) k)) (by omega) hT hA hM.1 h5) rfl rfl rfl (by decide) rfl (by decide) hT (fun v1 w1 hq => ?_)
        obtain ⟨rfl, rfl⟩ := hq
        refine ⟨_, _, RW 0 ((rd_next A (rd_next A q))) A (u) (c) ((tx_put 60 u.2.1 1 (tk_X A N (j + 1)) k)), rfl, rfl, rfl, ?_⟩
        refine im_r rfl rfl trivial rfl ?_
        have hres : res = .inr (j + 2, l, K, tk_X A N (j + 1), m1, m2, d_1) := by cases hdn; rfl
        rw [hres]
        exact ⟨rfl, _, _, _, _, rfl, CLp_s hM (by omega)⟩
    · rw [if_neg hX] at hdn
      have hres : res = .inl (j + 1) := by cases hdn; rfl
      have hX2 := CLp_fail (CLp_next h)
      refine im_g 1 (y := (131, _, _, _)) rfl trivial ?_
      refine im_call [0,1,2,3,4] rfl rfl (c_timesF (od := true) (q := q) (u := u) (c := c) (k := k) (by omega) hT hA hS h27 hX) rfl rfl rfl (by decide) rfl (by decide) hT (fun v1 w1 hq => ?_)
      obtain ⟨rfl, rfl⟩ := hq
      refine ⟨_, _, RW 0 (rd_fail (rd_next A q)) A u c k, rfl, rfl, rfl, ?_⟩
      refine im_g 1 (y := (135, _, _, _)) rfl trivial ?_
      refine im_call [0,1,2,3,4] rfl rfl (c_condD (q := (rd_fail (rd_next A q))) (A := A) (u := u) (c := c) (k := k) (by omega) hT hX2.2.2.2.2) rfl rfl rfl (by decide) rfl (by decide) hT (fun v1 w1 hq => ?_)
      obtain ⟨rfl, rfl⟩ := hq
      refine ⟨_, _, RW 0 ((rd_fail (rd_next A q))) A (u) (c) (k), rfl, rfl, rfl, ?_⟩
      refine im_r rfl rfl trivial rfl ?_
      rw [hres]
      exact ⟨rfl, _, _, _, _, rfl, hX2⟩
  · rw [if_neg h27] at hdn
    refine im_g 1 (y := (131, _, _, _)) rfl trivial ?_
    refine im_call [0,1,2,3,4] rfl rfl (c_timesN (od := true) (q := q) (u := u) (c := c) (k := k) (by omega) hT hA hS h27) rfl rfl rfl (by decide) rfl (by decide) hT (fun v1 w1 hq => ?_)
    obtain ⟨rfl, rfl⟩ := hq
    refine ⟨_, _, RW 0 q A u c k, rfl, rfl, rfl, ?_⟩
    unfold d_if at hdn
    by_cases h5 : tk_C A N (j) = 5
    · rw [if_pos h5] at hdn
      rcases d_bq_s hdn with ⟨fd, qd1, hres⟩ | ⟨jd, ld, md, qd1, qd3⟩
      · refine im_g 1 (y := (135, _, _, _)) rfl trivial ?_
        refine im_call [0,1,2,3,4] rfl rfl (c_condY (od := true) (q := q) (u := u) (c := c) (k := k) (by omega) hT hA h.1 (by have t := h.2.1.1; omega) h5 (by have t := h.2.1.2.2.1; omega) qd1) rfl rfl rfl (by decide) rfl (by decide) hT (fun v1 w1 hq => ?_)
        obtain ⟨rfl, q9, u9, c9, rfl, hR9⟩ := hq
        refine ⟨_, _, RW 0 q9 A u9 c9 (tx_put 60 (u).2.1 4 (u).1 (k)), rfl, rfl, rfl, ?_⟩
        refine im_r rfl rfl trivial rfl ?_
        rw [hres]
        exact ⟨rfl, _, _, _, _, rfl, CLp_dead (f := 4) (CLp_next h) (by omega) (by have t := tk_lt (A := A) hN (i := j) (by omega); omega) hR9⟩
      · have hl3 := dn_parts _ _ _ _ _ _ _ _ _ (by decide) h.1.1.2.2.2 qd1
        refine im_g 1 (y := (135, _, _, _)) rfl trivial ?_
        refine im_call [0,1,2,3,4] rfl rfl (c_condY (od := true) (q := q) (u := u) (c := c) (k := k) (by omega) hT hA h.1 (by have t := h.2.1.1; omega) h5 (by have t := h.2.1.2.2.1; omega) qd1) rfl rfl rfl (by decide) rfl (by decide) hT (fun v1 w1 hq => ?_)
        obtain ⟨rfl, q9, u9, c9, rfl, hR9⟩ := hq
        refine ⟨_, _, RW 0 q9 A u9 c9 (tx_put 60 (u).2.1 4 (u).1 (k)), rfl, rfl, rfl, ?_⟩
        refine im_r rfl rfl trivial rfl ?_
        have hres : res = .inr (jd, ld, K, 1, m1, m2, md) := by cases qd3; rfl
        rw [hres]
        exact ⟨rfl, _, _, _, _, rfl, CLp_s (CLp_put (f := 4) (CLp_next h) hz (by decide) (by omega) (by have t := tk_lt (A := A) hN (i := j) (by omega); omega) hR9 hl3) (by omega)⟩
    · rw [if_neg h5] at hdn
      refine im_g 1 (y := (135, _, _, _)) rfl trivial ?_
      refine im_call [0,1,2,3,4] rfl rfl (c_condN (od := true) (q := q) (u := u) (c := c) (k := k) (by omega) hT hA h.1 h5) rfl rfl rfl (by decide) rfl (by decide) hT (fun v1 w1 hq => ?_)
      obtain ⟨rfl, rfl⟩ := hq
      refine ⟨_, _, RW 0 (q) A (u) (c) (k), rfl, rfl, rfl, ?_⟩
      refine im_r rfl rfl trivial rfl ?_
      have hres : res = .inr (j, l, K, 1, m1, m2, d_1) := by cases hdn; rfl
      rw [hres]
      exact ⟨rfl, _, _, _, _, rfl, CLp_s h (by omega)⟩
set_option maxHeartbeats 8000000 in
theorem t_otailD {d : Nat} (hd : 77 ≤ d) (hT : T.length < 1000) {A : Int → Int} {N z f s : Int} {u0 u : Int × Int × Int} {c0 k0 c k : Int → Int} {q : Nat → Int} {K : Int} {res : dQ} (hres : res = .inl f) (h : CLx true A N z f u c k q) : im_wp ro (ab_Ev ro ab_codes d) 5 none ab_k_X5_readOrder 5 T (fun r w => r = none ∧ ∃ q' u' c' k', w = RW 0 q' A u' c' k' ∧ CLq true A N z u0 c0 k0 (s) res u' c' k' q') (130, [some (mr 0), some (.inl (K))], [], RW 0 q A u c k) := by
  refine im_g 1 (y := (131, _, _, _)) rfl trivial ?_
  refine im_call [0,1,2,3,4] rfl rfl (c_timesD (q := q) (A := A) (u := u) (c := c) (k := k) (by omega) hT h.2.2.2.2) rfl rfl rfl (by decide) rfl (by decide) hT (fun v1 w1 hq => ?_)
  obtain ⟨rfl, rfl⟩ := hq
  refine ⟨_, _, RW 0 q A u c k, rfl, rfl, rfl, ?_⟩
  refine im_g 1 (y := (135, _, _, _)) rfl trivial ?_
  refine im_call [0,1,2,3,4] rfl rfl (c_condD (q := q) (A := A) (u := u) (c := c) (k := k) (by omega) hT h.2.2.2.2) rfl rfl rfl (by decide) rfl (by decide) hT (fun v1 w1 hq => ?_)
  obtain ⟨rfl, rfl⟩ := hq
  refine ⟨_, _, RW 0 (q) A (u) (c) (k), rfl, rfl, rfl, ?_⟩
  refine im_r rfl rfl trivial rfl ?_
  rw [hres]
  exact ⟨rfl, _, _, _, _, rfl, h⟩
set_option maxHeartbeats 8000000 in
theorem c_ord {d : Nat} (hd : 78 ≤ d) (hT : T.length < 1000) {A : Int → Int} {N : Int} (hA : tk_ok A) {z : Int} {u0 : Int × Int × Int} {c0 k0 : Int → Int} {j l s : Int} {u : Int × Int × Int} {c k : Int → Int} {q : Nat → Int} (hz : 0 ≤ z ∧ z ≤ 11) (h : CLp true A N z u0 c0 k0 j l s u c k q (-1, 1, d_1, d_1, d_1)) (hs : s ≤ 33) {n : Nat} {res : dQ} (hdn : d_order (tk_C A N) (tk_X A N) n j l = some res) : im_ct ro T d 45 [mr 0] (RW 0 q A u c k) (fun r w => r = none ∧ ∃ q' u' c' k', w = RW 0 q' A u' c' k' ∧ CLq true A N z u0 c0 k0 (s + 3) res u' c' k' q') := by
  obtain ⟨d, rfl⟩ : ∃ e, d = e + 1 := ⟨d - 1, by omega⟩
  have hS := h.1
  have hN := RdS_N hS
  have htn := (tk_nt_b (A := A) hN).1
  have hzz : 0 ≤ u.2.1 ∧ u.2.1 ≤ 20 := by have t := h.2.1.1; omega
  have hub := h.2.1.2.2.1
  refine im_ct_of (own := 5) (ret := none) (code := ab_k_X5_readOrder) (nL := 2) (L0 := [some (mr 0), none]) (n := 5) rfl rfl rfl rfl rfl rfl rfl rfl rfl ?_
  refine im_g 2 (y := (3, _, _, _)) rfl trivial ?_
  refine im_call [0,1,2,3,4] rfl rfl (w_is_reckon (q := q) (u := u) (c := c) (k := k) (by omega) hT hA hS) rfl rfl rfl (by decide) rfl (by decide) hT (fun v1 w1 hq => ?_)
  obtain ⟨rfl, rfl⟩ := hq
  refine ⟨_, _, RW 0 q A u c k, rfl, rfl, rfl, ?_⟩
  refine im_b rfl rfl ⟨(by split <;> decide), trivial⟩ (fun br1 => ?_) (fun br1 => ?_)
  · have c6 : ¬ (tk_C A N j = 21) := by
      intro hh
      rw [if_pos hh] at br1
      exact absurd br1 (by decide)
    clear br1
    refine im_g 2 (y := (16, _, _, _)) rfl trivial ?_
    refine im_call [0,1,2,3,4] rfl rfl (w_is_pass (q := q) (u := u) (c := c) (k := k) (by omega) hT hA hS) rfl rfl rfl (by decide) rfl (by decide) hT (fun v1 w1 hq => ?_)
    obtain ⟨rfl, rfl⟩ := hq
    refine ⟨_, _, RW 0 q A u c k, rfl, rfl, rfl, ?_⟩
    refine im_b rfl rfl ⟨(by split <;> decide), trivial⟩ (fun br2 => ?_) (fun br2 => ?_)
    · have c19 : ¬ (tk_C A N j = 22) := by
        intro hh
        rw [if_pos hh] at br2
        exact absurd br2 (by decide)
      clear br2
      refine im_g 2 (y := (29, _, _, _)) rfl trivial ?_
      refine im_call [0,1,2,3,4] rfl rfl (w_is_lend (q := q) (u := u) (c := c) (k := k) (by omega) hT hA hS) rfl rfl rfl (by decide) rfl (by decide) hT (fun v1 w1 hq => ?_)
      obtain ⟨rfl, rfl⟩ := hq
      refine ⟨_, _, RW 0 q A u c k, rfl, rfl, rfl, ?_⟩
      refine im_b rfl rfl ⟨(by split <;> decide), trivial⟩ (fun br3 => ?_) (fun br3 => ?_)
      · have c32 : ¬ (tk_C A N j = 23) := by
          intro hh
          rw [if_pos hh] at br3
          exact absurd br3 (by decide)
        clear br3
        refine im_g 2 (y := (42, _, _, _)) rfl trivial ?_
        refine im_call [0,1,2,3,4] rfl rfl (w_is_grow (q := q) (u := u) (c := c) (k := k) (by omega) hT hA hS) rfl rfl rfl (by decide) rfl (by decide) hT (fun v1 w1 hq => ?_)
        obtain ⟨rfl, rfl⟩ := hq
        refine ⟨_, _, RW 0 q A u c k, rfl, rfl, rfl, ?_⟩
        refine im_b rfl rfl ⟨(by split <;> decide), trivial⟩ (fun br4 => ?_) (fun br4 => ?_)
        · have c45 : ¬ (tk_C A N j = 25) := by
            intro hh
            rw [if_pos hh] at br4
            exact absurd br4 (by decide)
          clear br4
          refine im_g 4 (y := (56, _, _, _)) rfl trivial ?_
          refine im_bF rfl rfl ⟨(by decide), (by decide), trivial⟩ (fun z => z rfl) ?_
          refine im_g 1 (y := (60, _, _, _)) rfl trivial ?_
          refine im_call [0,1,2,3,4] rfl rfl (c_fail (q := q) (A := A) (u := u) (c := c) (k := k) (by omega) hT (by rw [hS.2.1.2.2.2.2.2]; decide)) rfl rfl rfl (by decide) rfl (by decide) hT (fun v1 w1 hq => ?_)
          obtain ⟨rfl, rfl⟩ := hq
          refine ⟨_, _, RW 0 (rd_fail q) A u c k, rfl, rfl, rfl, ?_⟩
          refine im_r rfl rfl trivial rfl ?_
          have hres : res = .inl j := by
            unfold d_order at hdn
            rw [if_neg (by omega), if_neg (by omega), if_neg (by omega), if_neg (by omega)] at hdn
            cases hdn; rfl
          rw [hres]
          exact ⟨rfl, _, _, _, _, rfl, CLp_fail h⟩
        · have c45 : tk_C A N j = 25 := by
            by_cases hh : tk_C A N j = 25
            · exact hh
            · rw [if_neg hh] at br4; exact absurd rfl br4
          clear br4
          refine im_g 5 (y := (56, _, _, _)) rfl trivial ?_
          refine im_bT rfl rfl ⟨(by decide), (by decide), trivial⟩ (by decide) ?_
          have hK := CLp_kind (K' := 3) h hz (by decide)
          have hK1 := CLp_next hK
          have hlt := tk_lt (A := A) hN (i := j) (by omega)
          unfold d_order at hdn
          rw [if_neg (by omega), if_neg (by omega), if_pos (by omega)] at hdn
          unfold d_two at hdn
          rcases d_bq_s hdn with ⟨f, q1, hres⟩ | ⟨j1, l1, m1, q1, q3⟩
          · refine im_g 4 (y := (70, _, _, _)) rfl trivial ?_
            refine im_call [2,3,4] rfl rfl (c_put (cl := 436) (kl := 60) (u := u) (c := c) (k := k) (by omega) hT (by decide) (hzz) (f := 0) (x := 3) (by decide)) rfl rfl rfl (by decide) rfl (by decide) hT (fun v1 w1 hq => ?_)
            obtain ⟨rfl, rfl⟩ := hq
            refine ⟨_, _, RW 0 q A u c (tx_put 60 (u).2.1 0 3 k), rfl, rfl, rfl, ?_⟩
            refine im_g 1 (y := (74, _, _, _)) rfl trivial ?_
            refine im_call [0,1,2,3,4] rfl rfl (c_step (q := q) (A := A) (u := u) (c := c) (k := (tx_put 60 u.2.1 0 3 k)) (by omega) hT hA hK.1.2.1) rfl rfl rfl (by decide) rfl (by decide) hT (fun v1 w1 hq => ?_)
            obtain ⟨rfl, rfl⟩ := hq
            refine ⟨_, _, RW 0 (rd_next A q) A u c (tx_put 60 u.2.1 0 3 k), rfl, rfl, rfl, ?_⟩
            refine im_g 2 (y := (79, _, _, _)) rfl trivial ?_
            refine im_bF rfl rfl ⟨(by decide), (by decide), trivial⟩ (by decide) ?_
            refine im_g 2 (y := (84, _, _, _)) rfl trivial ?_
            refine im_call [0,1,2,3,4] rfl rfl (c_wsum (od := true) (q := (rd_next A q)) (u := u) (c := c) (k := (tx_put 60 u.2.1 0 3 k)) (by omega) hT hA hK1.1 (by have t := hK1.2.1.1; omega) (f := 2) (by decide) (by have t := hK1.2.1.2.2.1; omega) (by omega) q1) rfl rfl rfl (by decide) rfl (by decide) hT (fun v1 w1 hq => ?_)
            obtain ⟨rfl, q2, u2, c2, rfl, hR2⟩ := hq
            refine ⟨_, _, RW 0 q2 A u2 c2 (tx_put 60 (u).2.1 2 (u).1 ((tx_put 60 u.2.1 0 3 k))), rfl, rfl, rfl, ?_⟩
            have hX := CLp_dead (f := 2) hK1 (by omega) (by omega) hR2
            refine im_g 2 (y := (89, _, _, _)) rfl trivial ?_
            refine im_bF rfl rfl ⟨(by decide), (by decide), trivial⟩ (by decide) ?_
            refine im_g 2 (y := (94, _, _, _)) rfl trivial ?_
            refine im_bF rfl rfl ⟨(by decide), (by decide), trivial⟩ (fun z => z rfl) ?_
            refine im_g 3 (y := (100, _, _, _)) rfl trivial ?_
            refine im_bT rfl rfl ⟨(by decide), (by decide), trivial⟩ (by decide) ?_
            refine im_g 1 (y := (110, _, _, _)) rfl trivial ?_
            refine im_call [0,1,2,3,4] rfl rfl (c_isD (q := q2) (A := A) (u := u2) (c := c2) (k := (tx_put 60 u.2.1 2 u.1 (tx_put 60 u.2.1 0 3 k))) (o := 2000017) (by omega) hT hX.2.2.2.2.2.2.1) rfl rfl rfl (by decide) rfl (by decide) hT (fun v1 w1 hq => ?_)
            obtain ⟨rfl, rfl⟩ := hq
            refine ⟨_, _, RW 0 q2 A u2 c2 (tx_put 60 u.2.1 2 u.1 (tx_put 60 u.2.1 0 3 k)), rfl, rfl, rfl, ?_⟩
            refine im_bF rfl rfl ⟨(by decide), trivial⟩ (fun z => z rfl) ?_
            refine im_g 1 (y := (117, _, _, _)) rfl trivial ?_
            refine im_call [0,1,2,3,4] rfl rfl (c_fail (q := q2) (A := A) (u := u2) (c := c2) (k := (tx_put 60 u.2.1 2 u.1 (tx_put 60 u.2.1 0 3 k))) (by omega) hT (by have t := hX.2.2.2.2.2.2.2; constructor <;> omega)) rfl rfl rfl (by decide) rfl (by decide) hT (fun v1 w1 hq => ?_)
            obtain ⟨rfl, rfl⟩ := hq
            refine ⟨_, _, RW 0 (rd_fail q2) A u2 c2 (tx_put 60 u.2.1 2 u.1 (tx_put 60 u.2.1 0 3 k)), rfl, rfl, rfl, ?_⟩
            refine im_r rfl rfl trivial rfl ?_
            rw [RDd_dead hX.2.2.2.2]
            rw [hres]
            exact ⟨rfl, _, _, _, _, rfl, hX⟩
          · have hj1 := dn_nt hN (by decide) hlt q1
            have hl1 := dn_parts _ _ _ _ _ _ _ _ _ (by decide) hK1.1.1.2.2.2 q1
            refine im_g 4 (y := (70, _, _, _)) rfl trivial ?_
            refine im_call [2,3,4] rfl rfl (c_put (cl := 436) (kl := 60) (u := u) (c := c) (k := k) (by omega) hT (by decide) (hzz) (f := 0) (x := 3) (by decide)) rfl rfl rfl (by decide) rfl (by decide) hT (fun v1 w1 hq => ?_)
            obtain ⟨rfl, rfl⟩ := hq
            refine ⟨_, _, RW 0 q A u c (tx_put 60 (u).2.1 0 3 k), rfl, rfl, rfl, ?_⟩
            refine im_g 1 (y := (74, _, _, _)) rfl trivial ?_
            refine im_call [0,1,2,3,4] rfl rfl (c_step (q := q) (A := A) (u := u) (c := c) (k := (tx_put 60 u.2.1 0 3 k)) (by omega) hT hA hK.1.2.1) rfl rfl rfl (by decide) rfl (by decide) hT (fun v1 w1 hq => ?_)
            obtain ⟨rfl, rfl⟩ := hq
            refine ⟨_, _, RW 0 (rd_next A q) A u c (tx_put 60 u.2.1 0 3 k), rfl, rfl, rfl, ?_⟩
            refine im_g 2 (y := (79, _, _, _)) rfl trivial ?_
            refine im_bF rfl rfl ⟨(by decide), (by decide), trivial⟩ (by decide) ?_
            refine im_g 2 (y := (84, _, _, _)) rfl trivial ?_
            refine im_call [0,1,2,3,4] rfl rfl (c_wsum (od := true) (q := (rd_next A q)) (u := u) (c := c) (k := (tx_put 60 u.2.1 0 3 k)) (by omega) hT hA hK1.1 (by have t := hK1.2.1.1; omega) (f := 2) (by decide) (by have t := hK1.2.1.2.2.1; omega) (by omega) q1) rfl rfl rfl (by decide) rfl (by decide) hT (fun v1 w1 hq => ?_)
            obtain ⟨rfl, q2, u2, c2, rfl, hR2⟩ := hq
            refine ⟨_, _, RW 0 q2 A u2 c2 (tx_put 60 (u).2.1 2 (u).1 ((tx_put 60 u.2.1 0 3 k))), rfl, rfl, rfl, ?_⟩
            have hM : CLp true A N z u0 c0 k0 j1 l1 (s + 1) u2 c2 (tx_put 60 u.2.1 2 u.1 (tx_put 60 u.2.1 0 3 k)) q2 (3, 1, m1, d_1, d_1) := CLp_put (f := 2) hK1 hz (by decide) (by omega) (by omega) hR2 hl1
            by_cases hw : tk_C A N j1 = 26
            · rw [if_pos hw] at q3
              have hlt2 := tk_lt (A := A) hN (i := j1) (by omega)
              have hM1 := CLp_next hM
              rcases d_bq_s q3 with ⟨f2, q4, hres⟩ | ⟨j2, l2, m2, q4, q5⟩
              · refine im_g 2 (y := (89, _, _, _)) rfl trivial ?_
                refine im_bF rfl rfl ⟨(by decide), (by decide), trivial⟩ (by decide) ?_
                refine im_g 2 (y := (94, _, _, _)) rfl trivial ?_
                refine im_bF rfl rfl ⟨(by decide), (by decide), trivial⟩ (fun z => z rfl) ?_
                refine im_g 3 (y := (100, _, _, _)) rfl trivial ?_
                refine im_bT rfl rfl ⟨(by decide), (by decide), trivial⟩ (by decide) ?_
                refine im_g 1 (y := (110, _, _, _)) rfl trivial ?_
                refine im_call [0,1,2,3,4] rfl rfl (w_is_by (q := q2) (u := u2) (c := c2) (k := (tx_put 60 u.2.1 2 u.1 (tx_put 60 u.2.1 0 3 k))) (by omega) hT hA hM.1) rfl rfl rfl (by decide) rfl (by decide) hT (fun v1 w1 hq => ?_)
                obtain ⟨rfl, rfl⟩ := hq
                refine ⟨_, _, RW 0 q2 A u2 c2 (tx_put 60 u.2.1 2 u.1 (tx_put 60 u.2.1 0 3 k)), rfl, rfl, rfl, ?_⟩
                rw [if_pos hw]
                refine im_bT rfl rfl ⟨(by decide), trivial⟩ (by decide) ?_
                refine im_g 1 (y := (122, _, _, _)) rfl trivial ?_
                refine im_call [0,1,2,3,4] rfl rfl (c_step (q := q2) (A := A) (u := u2) (c := c2) (k := (tx_put 60 u.2.1 2 u.1 (tx_put 60 u.2.1 0 3 k))) (by omega) hT hA hM.1.2.1) rfl rfl rfl (by decide) rfl (by decide) hT (fun v1 w1 hq => ?_)
                obtain ⟨rfl, rfl⟩ := hq
                refine ⟨_, _, RW 0 (rd_next A q2) A u2 c2 (tx_put 60 u.2.1 2 u.1 (tx_put 60 u.2.1 0 3 k)), rfl, rfl, rfl, ?_⟩
                refine im_g 2 (y := (127, _, _, _)) rfl trivial ?_
                refine im_call [0,1,2,3,4] rfl rfl (c_wsum (od := true) (q := (rd_next A q2)) (u := u2) (c := c2) (k := (tx_put 60 u.2.1 2 u.1 (tx_put 60 u.2.1 0 3 k))) (by omega) hT hA hM1.1 (by have t := hM1.2.1.1; omega) (f := 3) (by decide) (by have t := hM1.2.1.2.2.1; omega) (by omega) q4) rfl rfl rfl (by decide) rfl (by decide) hT (fun v1 w1 hq => ?_)
                obtain ⟨rfl, q4, u4, c4, rfl, hR4⟩ := hq
                refine ⟨_, _, RW 0 q4 A u4 c4 (tx_put 60 (u2).2.1 3 (u2).1 ((tx_put 60 u.2.1 2 u.1 (tx_put 60 u.2.1 0 3 k)))), rfl, rfl, rfl, ?_⟩
                have hX4 := CLp_dead (f := 3) hM1 (by omega) (by omega) hR4
                exact t_otailD (by omega) hT hres hX4
              · have hj2 := dn_nt hN (by decide) hlt2 q4
                have hl2 := dn_parts _ _ _ _ _ _ _ _ _ (by decide) hl1 q4
                refine im_g 2 (y := (89, _, _, _)) rfl trivial ?_
                refine im_bF rfl rfl ⟨(by decide), (by decide), trivial⟩ (by decide) ?_
                refine im_g 2 (y := (94, _, _, _)) rfl trivial ?_
                refine im_bF rfl rfl ⟨(by decide), (by decide), trivial⟩ (fun z => z rfl) ?_
                refine im_g 3 (y := (100, _, _, _)) rfl trivial ?_
                refine im_bT rfl rfl ⟨(by decide), (by decide), trivial⟩ (by decide) ?_
                refine im_g 1 (y := (110, _, _, _)) rfl trivial ?_
                refine im_call [0,1,2,3,4] rfl rfl (w_is_by (q := q2) (u := u2) (c := c2) (k := (tx_put 60 u.2.1 2 u.1 (tx_put 60 u.2.1 0 3 k))) (by omega) hT hA hM.1) rfl rfl rfl (by decide) rfl (by decide) hT (fun v1 w1 hq => ?_)
                obtain ⟨rfl, rfl⟩ := hq
                refine ⟨_, _, RW 0 q2 A u2 c2 (tx_put 60 u.2.1 2 u.1 (tx_put 60 u.2.1 0 3 k)), rfl, rfl, rfl, ?_⟩
                rw [if_pos hw]
                refine im_bT rfl rfl ⟨(by decide), trivial⟩ (by decide) ?_
                refine im_g 1 (y := (122, _, _, _)) rfl trivial ?_
                refine im_call [0,1,2,3,4] rfl rfl (c_step (q := q2) (A := A) (u := u2) (c := c2) (k := (tx_put 60 u.2.1 2 u.1 (tx_put 60 u.2.1 0 3 k))) (by omega) hT hA hM.1.2.1) rfl rfl rfl (by decide) rfl (by decide) hT (fun v1 w1 hq => ?_)
                obtain ⟨rfl, rfl⟩ := hq
                refine ⟨_, _, RW 0 (rd_next A q2) A u2 c2 (tx_put 60 u.2.1 2 u.1 (tx_put 60 u.2.1 0 3 k)), rfl, rfl, rfl, ?_⟩
                refine im_g 2 (y := (127, _, _, _)) rfl trivial ?_
                refine im_call [0,1,2,3,4] rfl rfl (c_wsum (od := true) (q := (rd_next A q2)) (u := u2) (c := c2) (k := (tx_put 60 u.2.1 2 u.1 (tx_put 60 u.2.1 0 3 k))) (by omega) hT hA hM1.1 (by have t := hM1.2.1.1; omega) (f := 3) (by decide) (by have t := hM1.2.1.2.2.1; omega) (by omega) q4) rfl rfl rfl (by decide) rfl (by decide) hT (fun v1 w1 hq => ?_)
                obtain ⟨rfl, q4, u4, c4, rfl, hR4⟩ := hq
                refine ⟨_, _, RW 0 q4 A u4 c4 (tx_put 60 (u2).2.1 3 (u2).1 ((tx_put 60 u.2.1 2 u.1 (tx_put 60 u.2.1 0 3 k)))), rfl, rfl, rfl, ?_⟩
                have hM2 : CLp true A N z u0 c0 k0 j2 l2 (s + 1 + 1) u4 c4 (tx_put 60 u2.2.1 3 u2.1 (tx_put 60 u.2.1 2 u.1 (tx_put 60 u.2.1 0 3 k))) q4 (3, 1, m1, m2, d_1) := CLp_put (f := 3) hM1 hz (by decide) (by omega) (by omega) hR4 hl2
                refine im_q (fun r w hq => ?_) (t_otail (by omega) hT hA hz hM2 (by omega) q5)
                obtain ⟨hr1, q9, u9, c9, k9, hw9, hC9⟩ := hq
                exact ⟨hr1, q9, u9, c9, k9, hw9, CLq_s hC9 (by omega)⟩
            · rw [if_neg hw] at q3
              have hres : res = .inl j1 := by cases q3; rfl
              refine im_g 2 (y := (89, _, _, _)) rfl trivial ?_
              refine im_bF rfl rfl ⟨(by decide), (by decide), trivial⟩ (by decide) ?_
              refine im_g 2 (y := (94, _, _, _)) rfl trivial ?_
              refine im_bF rfl rfl ⟨(by decide), (by decide), trivial⟩ (fun z => z rfl) ?_
              refine im_g 3 (y := (100, _, _, _)) rfl trivial ?_
              refine im_bT rfl rfl ⟨(by decide), (by decide), trivial⟩ (by decide) ?_
              refine im_g 1 (y := (110, _, _, _)) rfl trivial ?_
              refine im_call [0,1,2,3,4] rfl rfl (w_is_by (q := q2) (u := u2) (c := c2) (k := (tx_put 60 u.2.1 2 u.1 (tx_put 60 u.2.1 0 3 k))) (by omega) hT hA hM.1) rfl rfl rfl (by decide) rfl (by decide) hT (fun v1 w1 hq => ?_)
              obtain ⟨rfl, rfl⟩ := hq
              refine ⟨_, _, RW 0 q2 A u2 c2 (tx_put 60 u.2.1 2 u.1 (tx_put 60 u.2.1 0 3 k)), rfl, rfl, rfl, ?_⟩
              rw [if_neg hw]
              refine im_bF rfl rfl ⟨(by decide), trivial⟩ (fun z => z rfl) ?_
              refine im_g 1 (y := (117, _, _, _)) rfl trivial ?_
              refine im_call [0,1,2,3,4] rfl rfl (c_fail (q := q2) (A := A) (u := u2) (c := c2) (k := (tx_put 60 u.2.1 2 u.1 (tx_put 60 u.2.1 0 3 k))) (by omega) hT (by rw [hM.1.2.1.2.2.2.2.2]; decide)) rfl rfl rfl (by decide) rfl (by decide) hT (fun v1 w1 hq => ?_)
              obtain ⟨rfl, rfl⟩ := hq
              refine ⟨_, _, RW 0 (rd_fail q2) A u2 c2 (tx_put 60 u.2.1 2 u.1 (tx_put 60 u.2.1 0 3 k)), rfl, rfl, rfl, ?_⟩
              refine im_r rfl rfl trivial rfl ?_
              rw [hres]
              exact ⟨rfl, _, _, _, _, rfl, CLp_fail hM⟩
      · have c32 : tk_C A N j = 23 := by
          by_cases hh : tk_C A N j = 23
          · exact hh
          · rw [if_neg hh] at br3; exact absurd rfl br3
        clear br3
        refine im_g 5 (y := (56, _, _, _)) rfl trivial ?_
        refine im_bT rfl rfl ⟨(by decide), (by decide), trivial⟩ (by decide) ?_
        have hK := CLp_kind (K' := 2) h hz (by decide)
        have hK1 := CLp_next hK
        have hlt := tk_lt (A := A) hN (i := j) (by omega)
        unfold d_order at hdn
        rw [if_neg (by omega), if_pos (by omega)] at hdn
        unfold d_two at hdn
        rcases d_bq_s hdn with ⟨f, q1, hres⟩ | ⟨j1, l1, m1, q1, q3⟩
        · refine im_g 4 (y := (70, _, _, _)) rfl trivial ?_
          refine im_call [2,3,4] rfl rfl (c_put (cl := 436) (kl := 60) (u := u) (c := c) (k := k) (by omega) hT (by decide) (hzz) (f := 0) (x := 2) (by decide)) rfl rfl rfl (by decide) rfl (by decide) hT (fun v1 w1 hq => ?_)
          obtain ⟨rfl, rfl⟩ := hq
          refine ⟨_, _, RW 0 q A u c (tx_put 60 (u).2.1 0 2 k), rfl, rfl, rfl, ?_⟩
          refine im_g 1 (y := (74, _, _, _)) rfl trivial ?_
          refine im_call [0,1,2,3,4] rfl rfl (c_step (q := q) (A := A) (u := u) (c := c) (k := (tx_put 60 u.2.1 0 2 k)) (by omega) hT hA hK.1.2.1) rfl rfl rfl (by decide) rfl (by decide) hT (fun v1 w1 hq => ?_)
          obtain ⟨rfl, rfl⟩ := hq
          refine ⟨_, _, RW 0 (rd_next A q) A u c (tx_put 60 u.2.1 0 2 k), rfl, rfl, rfl, ?_⟩
          refine im_g 2 (y := (79, _, _, _)) rfl trivial ?_
          refine im_bF rfl rfl ⟨(by decide), (by decide), trivial⟩ (by decide) ?_
          refine im_g 2 (y := (84, _, _, _)) rfl trivial ?_
          refine im_call [0,1,2,3,4] rfl rfl (c_wsum (od := true) (q := (rd_next A q)) (u := u) (c := c) (k := (tx_put 60 u.2.1 0 2 k)) (by omega) hT hA hK1.1 (by have t := hK1.2.1.1; omega) (f := 2) (by decide) (by have t := hK1.2.1.2.2.1; omega) (by omega) q1) rfl rfl rfl (by decide) rfl (by decide) hT (fun v1 w1 hq => ?_)
          obtain ⟨rfl, q2, u2, c2, rfl, hR2⟩ := hq
          refine ⟨_, _, RW 0 q2 A u2 c2 (tx_put 60 (u).2.1 2 (u).1 ((tx_put 60 u.2.1 0 2 k))), rfl, rfl, rfl, ?_⟩
          have hX := CLp_dead (f := 2) hK1 (by omega) (by omega) hR2
          refine im_g 2 (y := (89, _, _, _)) rfl trivial ?_
          refine im_bT rfl rfl ⟨(by decide), (by decide), trivial⟩ rfl ?_
          refine im_g 3 (y := (100, _, _, _)) rfl trivial ?_
          refine im_bF rfl rfl ⟨(by decide), (by decide), trivial⟩ (fun z => z rfl) ?_
          refine im_g 2 (y := (110, _, _, _)) rfl trivial ?_
          refine im_call [0,1,2,3,4] rfl rfl (c_isD (q := q2) (A := A) (u := u2) (c := c2) (k := (tx_put 60 u.2.1 2 u.1 (tx_put 60 u.2.1 0 2 k))) (o := 2000016) (by omega) hT hX.2.2.2.2.2.2.1) rfl rfl rfl (by decide) rfl (by decide) hT (fun v1 w1 hq => ?_)
          obtain ⟨rfl, rfl⟩ := hq
          refine ⟨_, _, RW 0 q2 A u2 c2 (tx_put 60 u.2.1 2 u.1 (tx_put 60 u.2.1 0 2 k)), rfl, rfl, rfl, ?_⟩
          refine im_bF rfl rfl ⟨(by decide), trivial⟩ (fun z => z rfl) ?_
          refine im_g 1 (y := (117, _, _, _)) rfl trivial ?_
          refine im_call [0,1,2,3,4] rfl rfl (c_fail (q := q2) (A := A) (u := u2) (c := c2) (k := (tx_put 60 u.2.1 2 u.1 (tx_put 60 u.2.1 0 2 k))) (by omega) hT (by have t := hX.2.2.2.2.2.2.2; constructor <;> omega)) rfl rfl rfl (by decide) rfl (by decide) hT (fun v1 w1 hq => ?_)
          obtain ⟨rfl, rfl⟩ := hq
          refine ⟨_, _, RW 0 (rd_fail q2) A u2 c2 (tx_put 60 u.2.1 2 u.1 (tx_put 60 u.2.1 0 2 k)), rfl, rfl, rfl, ?_⟩
          refine im_r rfl rfl trivial rfl ?_
          rw [RDd_dead hX.2.2.2.2]
          rw [hres]
          exact ⟨rfl, _, _, _, _, rfl, hX⟩
        · have hj1 := dn_nt hN (by decide) hlt q1
          have hl1 := dn_parts _ _ _ _ _ _ _ _ _ (by decide) hK1.1.1.2.2.2 q1
          refine im_g 4 (y := (70, _, _, _)) rfl trivial ?_
          refine im_call [2,3,4] rfl rfl (c_put (cl := 436) (kl := 60) (u := u) (c := c) (k := k) (by omega) hT (by decide) (hzz) (f := 0) (x := 2) (by decide)) rfl rfl rfl (by decide) rfl (by decide) hT (fun v1 w1 hq => ?_)
          obtain ⟨rfl, rfl⟩ := hq
          refine ⟨_, _, RW 0 q A u c (tx_put 60 (u).2.1 0 2 k), rfl, rfl, rfl, ?_⟩
          refine im_g 1 (y := (74, _, _, _)) rfl trivial ?_
          refine im_call [0,1,2,3,4] rfl rfl (c_step (q := q) (A := A) (u := u) (c := c) (k := (tx_put 60 u.2.1 0 2 k)) (by omega) hT hA hK.1.2.1) rfl rfl rfl (by decide) rfl (by decide) hT (fun v1 w1 hq => ?_)
          obtain ⟨rfl, rfl⟩ := hq
          refine ⟨_, _, RW 0 (rd_next A q) A u c (tx_put 60 u.2.1 0 2 k), rfl, rfl, rfl, ?_⟩
          refine im_g 2 (y := (79, _, _, _)) rfl trivial ?_
          refine im_bF rfl rfl ⟨(by decide), (by decide), trivial⟩ (by decide) ?_
          refine im_g 2 (y := (84, _, _, _)) rfl trivial ?_
          refine im_call [0,1,2,3,4] rfl rfl (c_wsum (od := true) (q := (rd_next A q)) (u := u) (c := c) (k := (tx_put 60 u.2.1 0 2 k)) (by omega) hT hA hK1.1 (by have t := hK1.2.1.1; omega) (f := 2) (by decide) (by have t := hK1.2.1.2.2.1; omega) (by omega) q1) rfl rfl rfl (by decide) rfl (by decide) hT (fun v1 w1 hq => ?_)
          obtain ⟨rfl, q2, u2, c2, rfl, hR2⟩ := hq
          refine ⟨_, _, RW 0 q2 A u2 c2 (tx_put 60 (u).2.1 2 (u).1 ((tx_put 60 u.2.1 0 2 k))), rfl, rfl, rfl, ?_⟩
          have hM : CLp true A N z u0 c0 k0 j1 l1 (s + 1) u2 c2 (tx_put 60 u.2.1 2 u.1 (tx_put 60 u.2.1 0 2 k)) q2 (2, 1, m1, d_1, d_1) := CLp_put (f := 2) hK1 hz (by decide) (by omega) (by omega) hR2 hl1
          by_cases hw : tk_C A N j1 = 24
          · rw [if_pos hw] at q3
            have hlt2 := tk_lt (A := A) hN (i := j1) (by omega)
            have hM1 := CLp_next hM
            rcases d_bq_s q3 with ⟨f2, q4, hres⟩ | ⟨j2, l2, m2, q4, q5⟩
            · refine im_g 2 (y := (89, _, _, _)) rfl trivial ?_
              refine im_bT rfl rfl ⟨(by decide), (by decide), trivial⟩ rfl ?_
              refine im_g 3 (y := (100, _, _, _)) rfl trivial ?_
              refine im_bF rfl rfl ⟨(by decide), (by decide), trivial⟩ (fun z => z rfl) ?_
              refine im_g 2 (y := (110, _, _, _)) rfl trivial ?_
              refine im_call [0,1,2,3,4] rfl rfl (w_is_to (q := q2) (u := u2) (c := c2) (k := (tx_put 60 u.2.1 2 u.1 (tx_put 60 u.2.1 0 2 k))) (by omega) hT hA hM.1) rfl rfl rfl (by decide) rfl (by decide) hT (fun v1 w1 hq => ?_)
              obtain ⟨rfl, rfl⟩ := hq
              refine ⟨_, _, RW 0 q2 A u2 c2 (tx_put 60 u.2.1 2 u.1 (tx_put 60 u.2.1 0 2 k)), rfl, rfl, rfl, ?_⟩
              rw [if_pos hw]
              refine im_bT rfl rfl ⟨(by decide), trivial⟩ (by decide) ?_
              refine im_g 1 (y := (122, _, _, _)) rfl trivial ?_
              refine im_call [0,1,2,3,4] rfl rfl (c_step (q := q2) (A := A) (u := u2) (c := c2) (k := (tx_put 60 u.2.1 2 u.1 (tx_put 60 u.2.1 0 2 k))) (by omega) hT hA hM.1.2.1) rfl rfl rfl (by decide) rfl (by decide) hT (fun v1 w1 hq => ?_)
              obtain ⟨rfl, rfl⟩ := hq
              refine ⟨_, _, RW 0 (rd_next A q2) A u2 c2 (tx_put 60 u.2.1 2 u.1 (tx_put 60 u.2.1 0 2 k)), rfl, rfl, rfl, ?_⟩
              refine im_g 2 (y := (127, _, _, _)) rfl trivial ?_
              refine im_call [0,1,2,3,4] rfl rfl (c_wsum (od := true) (q := (rd_next A q2)) (u := u2) (c := c2) (k := (tx_put 60 u.2.1 2 u.1 (tx_put 60 u.2.1 0 2 k))) (by omega) hT hA hM1.1 (by have t := hM1.2.1.1; omega) (f := 3) (by decide) (by have t := hM1.2.1.2.2.1; omega) (by omega) q4) rfl rfl rfl (by decide) rfl (by decide) hT (fun v1 w1 hq => ?_)
              obtain ⟨rfl, q4, u4, c4, rfl, hR4⟩ := hq
              refine ⟨_, _, RW 0 q4 A u4 c4 (tx_put 60 (u2).2.1 3 (u2).1 ((tx_put 60 u.2.1 2 u.1 (tx_put 60 u.2.1 0 2 k)))), rfl, rfl, rfl, ?_⟩
              have hX4 := CLp_dead (f := 3) hM1 (by omega) (by omega) hR4
              exact t_otailD (by omega) hT hres hX4
            · have hj2 := dn_nt hN (by decide) hlt2 q4
              have hl2 := dn_parts _ _ _ _ _ _ _ _ _ (by decide) hl1 q4
              refine im_g 2 (y := (89, _, _, _)) rfl trivial ?_
              refine im_bT rfl rfl ⟨(by decide), (by decide), trivial⟩ rfl ?_
              refine im_g 3 (y := (100, _, _, _)) rfl trivial ?_
              refine im_bF rfl rfl ⟨(by decide), (by decide), trivial⟩ (fun z => z rfl) ?_
              refine im_g 2 (y := (110, _, _, _)) rfl trivial ?_
              refine im_call [0,1,2,3,4] rfl rfl (w_is_to (q := q2) (u := u2) (c := c2) (k := (tx_put 60 u.2.1 2 u.1 (tx_put 60 u.2.1 0 2 k))) (by omega) hT hA hM.1) rfl rfl rfl (by decide) rfl (by decide) hT (fun v1 w1 hq => ?_)
              obtain ⟨rfl, rfl⟩ := hq
              refine ⟨_, _, RW 0 q2 A u2 c2 (tx_put 60 u.2.1 2 u.1 (tx_put 60 u.2.1 0 2 k)), rfl, rfl, rfl, ?_⟩
              rw [if_pos hw]
              refine im_bT rfl rfl ⟨(by decide), trivial⟩ (by decide) ?_
              refine im_g 1 (y := (122, _, _, _)) rfl trivial ?_
              refine im_call [0,1,2,3,4] rfl rfl (c_step (q := q2) (A := A) (u := u2) (c := c2) (k := (tx_put 60 u.2.1 2 u.1 (tx_put 60 u.2.1 0 2 k))) (by omega) hT hA hM.1.2.1) rfl rfl rfl (by decide) rfl (by decide) hT (fun v1 w1 hq => ?_)
              obtain ⟨rfl, rfl⟩ := hq
              refine ⟨_, _, RW 0 (rd_next A q2) A u2 c2 (tx_put 60 u.2.1 2 u.1 (tx_put 60 u.2.1 0 2 k)), rfl, rfl, rfl, ?_⟩
              refine im_g 2 (y := (127, _, _, _)) rfl trivial ?_
              refine im_call [0,1,2,3,4] rfl rfl (c_wsum (od := true) (q := (rd_next A q2)) (u := u2) (c := c2) (k := (tx_put 60 u.2.1 2 u.1 (tx_put 60 u.2.1 0 2 k))) (by omega) hT hA hM1.1 (by have t := hM1.2.1.1; omega) (f := 3) (by decide) (by have t := hM1.2.1.2.2.1; omega) (by omega) q4) rfl rfl rfl (by decide) rfl (by decide) hT (fun v1 w1 hq => ?_)
              obtain ⟨rfl, q4, u4, c4, rfl, hR4⟩ := hq
              refine ⟨_, _, RW 0 q4 A u4 c4 (tx_put 60 (u2).2.1 3 (u2).1 ((tx_put 60 u.2.1 2 u.1 (tx_put 60 u.2.1 0 2 k)))), rfl, rfl, rfl, ?_⟩
              have hM2 : CLp true A N z u0 c0 k0 j2 l2 (s + 1 + 1) u4 c4 (tx_put 60 u2.2.1 3 u2.1 (tx_put 60 u.2.1 2 u.1 (tx_put 60 u.2.1 0 2 k))) q4 (2, 1, m1, m2, d_1) := CLp_put (f := 3) hM1 hz (by decide) (by omega) (by omega) hR4 hl2
              refine im_q (fun r w hq => ?_) (t_otail (by omega) hT hA hz hM2 (by omega) q5)
              obtain ⟨hr1, q9, u9, c9, k9, hw9, hC9⟩ := hq
              exact ⟨hr1, q9, u9, c9, k9, hw9, CLq_s hC9 (by omega)⟩
          · rw [if_neg hw] at q3
            have hres : res = .inl j1 := by cases q3; rfl
            refine im_g 2 (y := (89, _, _, _)) rfl trivial ?_
            refine im_bT rfl rfl ⟨(by decide), (by decide), trivial⟩ rfl ?_
            refine im_g 3 (y := (100, _, _, _)) rfl trivial ?_
            refine im_bF rfl rfl ⟨(by decide), (by decide), trivial⟩ (fun z => z rfl) ?_
            refine im_g 2 (y := (110, _, _, _)) rfl trivial ?_
            refine im_call [0,1,2,3,4] rfl rfl (w_is_to (q := q2) (u := u2) (c := c2) (k := (tx_put 60 u.2.1 2 u.1 (tx_put 60 u.2.1 0 2 k))) (by omega) hT hA hM.1) rfl rfl rfl (by decide) rfl (by decide) hT (fun v1 w1 hq => ?_)
            obtain ⟨rfl, rfl⟩ := hq
            refine ⟨_, _, RW 0 q2 A u2 c2 (tx_put 60 u.2.1 2 u.1 (tx_put 60 u.2.1 0 2 k)), rfl, rfl, rfl, ?_⟩
            rw [if_neg hw]
            refine im_bF rfl rfl ⟨(by decide), trivial⟩ (fun z => z rfl) ?_
            refine im_g 1 (y := (117, _, _, _)) rfl trivial ?_
            refine im_call [0,1,2,3,4] rfl rfl (c_fail (q := q2) (A := A) (u := u2) (c := c2) (k := (tx_put 60 u.2.1 2 u.1 (tx_put 60 u.2.1 0 2 k))) (by omega) hT (by rw [hM.1.2.1.2.2.2.2.2]; decide)) rfl rfl rfl (by decide) rfl (by decide) hT (fun v1 w1 hq => ?_)
            obtain ⟨rfl, rfl⟩ := hq
            refine ⟨_, _, RW 0 (rd_fail q2) A u2 c2 (tx_put 60 u.2.1 2 u.1 (tx_put 60 u.2.1 0 2 k)), rfl, rfl, rfl, ?_⟩
            refine im_r rfl rfl trivial rfl ?_
            rw [hres]
            exact ⟨rfl, _, _, _, _, rfl, CLp_fail hM⟩
    · have c19 : tk_C A N j = 22 := by
        by_cases hh : tk_C A N j = 22
        · exact hh
        · rw [if_neg hh] at br2; exact absurd rfl br2
      clear br2
      refine im_g 5 (y := (56, _, _, _)) rfl trivial ?_
      refine im_bT rfl rfl ⟨(by decide), (by decide), trivial⟩ (by decide) ?_
      have hK := CLp_kind (K' := 1) h hz (by decide)
      have hK1 := CLp_next hK
      have hlt := tk_lt (A := A) hN (i := j) (by omega)
      unfold d_order at hdn
      rw [if_neg (by omega), if_neg (by omega), if_neg (by omega), if_pos (by omega)] at hdn
      refine im_g 4 (y := (70, _, _, _)) rfl trivial ?_
      refine im_call [2,3,4] rfl rfl (c_put (cl := 436) (kl := 60) (u := u) (c := c) (k := k) (by omega) hT (by decide) (hzz) (f := 0) (x := 1) (by decide)) rfl rfl rfl (by decide) rfl (by decide) hT (fun v1 w1 hq => ?_)
      obtain ⟨rfl, rfl⟩ := hq
      refine ⟨_, _, RW 0 q A u c (tx_put 60 (u).2.1 0 1 k), rfl, rfl, rfl, ?_⟩
      refine im_g 1 (y := (74, _, _, _)) rfl trivial ?_
      refine im_call [0,1,2,3,4] rfl rfl (c_step (q := q) (A := A) (u := u) (c := c) (k := (tx_put 60 u.2.1 0 1 k)) (by omega) hT hA hK.1.2.1) rfl rfl rfl (by decide) rfl (by decide) hT (fun v1 w1 hq => ?_)
      obtain ⟨rfl, rfl⟩ := hq
      refine ⟨_, _, RW 0 (rd_next A q) A u c (tx_put 60 u.2.1 0 1 k), rfl, rfl, rfl, ?_⟩
      refine im_g 2 (y := (79, _, _, _)) rfl trivial ?_
      refine im_bT rfl rfl ⟨(by decide), (by decide), trivial⟩ rfl ?_
      refine im_g 2 (y := (89, _, _, _)) rfl trivial ?_
      refine im_bF rfl rfl ⟨(by decide), (by decide), trivial⟩ (by decide) ?_
      refine im_g 2 (y := (94, _, _, _)) rfl trivial ?_
      refine im_bT rfl rfl ⟨(by decide), (by decide), trivial⟩ (by decide) ?_
      refine im_q (fun r w hq => ?_) (t_otail (by omega) hT hA hz hK1 (by omega) hdn)
      obtain ⟨hr1, q9, u9, c9, k9, hw9, hC9⟩ := hq
      exact ⟨hr1, q9, u9, c9, k9, hw9, CLq_s hC9 (by omega)⟩
  · have c6 : tk_C A N j = 21 := by
      by_cases hh : tk_C A N j = 21
      · exact hh
      · rw [if_neg hh] at br1; exact absurd rfl br1
    clear br1
    refine im_g 5 (y := (56, _, _, _)) rfl trivial ?_
    refine im_bT rfl rfl ⟨(by decide), (by decide), trivial⟩ (by decide) ?_
    have hK := CLp_kind (K' := 0) h hz (by decide)
    have hK1 := CLp_next hK
    have hlt := tk_lt (A := A) hN (i := j) (by omega)
    unfold d_order at hdn
    rw [if_pos (by omega)] at hdn
    rcases d_bq_s hdn with ⟨f, q1, hres⟩ | ⟨j1, l1, m1, q1, q3⟩
    · refine im_g 4 (y := (70, _, _, _)) rfl trivial ?_
      refine im_call [2,3,4] rfl rfl (c_put (cl := 436) (kl := 60) (u := u) (c := c) (k := k) (by omega) hT (by decide) (hzz) (f := 0) (x := 0) (by decide)) rfl rfl rfl (by decide) rfl (by decide) hT (fun v1 w1 hq => ?_)
      obtain ⟨rfl, rfl⟩ := hq
      refine ⟨_, _, RW 0 q A u c (tx_put 60 (u).2.1 0 0 k), rfl, rfl, rfl, ?_⟩
      refine im_g 1 (y := (74, _, _, _)) rfl trivial ?_
      refine im_call [0,1,2,3,4] rfl rfl (c_step (q := q) (A := A) (u := u) (c := c) (k := (tx_put 60 u.2.1 0 0 k)) (by omega) hT hA hK.1.2.1) rfl rfl rfl (by decide) rfl (by decide) hT (fun v1 w1 hq => ?_)
      obtain ⟨rfl, rfl⟩ := hq
      refine ⟨_, _, RW 0 (rd_next A q) A u c (tx_put 60 u.2.1 0 0 k), rfl, rfl, rfl, ?_⟩
      refine im_g 2 (y := (79, _, _, _)) rfl trivial ?_
      refine im_bF rfl rfl ⟨(by decide), (by decide), trivial⟩ (by decide) ?_
      refine im_g 2 (y := (84, _, _, _)) rfl trivial ?_
      refine im_call [0,1,2,3,4] rfl rfl (c_wsum (od := true) (q := (rd_next A q)) (u := u) (c := c) (k := (tx_put 60 u.2.1 0 0 k)) (by omega) hT hA hK1.1 (by have t := hK1.2.1.1; omega) (f := 2) (by decide) (by have t := hK1.2.1.2.2.1; omega) (by omega) q1) rfl rfl rfl (by decide) rfl (by decide) hT (fun v1 w1 hq => ?_)
      obtain ⟨rfl, q2, u2, c2, rfl, hR2⟩ := hq
      refine ⟨_, _, RW 0 q2 A u2 c2 (tx_put 60 (u).2.1 2 (u).1 ((tx_put 60 u.2.1 0 0 k))), rfl, rfl, rfl, ?_⟩
      have hX := CLp_dead (f := 2) hK1 (by omega) (by omega) hR2
      refine im_g 2 (y := (89, _, _, _)) rfl trivial ?_
      refine im_bF rfl rfl ⟨(by decide), (by decide), trivial⟩ (by decide) ?_
      refine im_g 2 (y := (94, _, _, _)) rfl trivial ?_
      refine im_bT rfl rfl ⟨(by decide), (by decide), trivial⟩ (by decide) ?_
      exact t_otailD (by omega) hT hres hX
    · have hj1 := dn_nt hN (by decide) hlt q1
      have hl1 := dn_parts _ _ _ _ _ _ _ _ _ (by decide) hK1.1.1.2.2.2 q1
      refine im_g 4 (y := (70, _, _, _)) rfl trivial ?_
      refine im_call [2,3,4] rfl rfl (c_put (cl := 436) (kl := 60) (u := u) (c := c) (k := k) (by omega) hT (by decide) (hzz) (f := 0) (x := 0) (by decide)) rfl rfl rfl (by decide) rfl (by decide) hT (fun v1 w1 hq => ?_)
      obtain ⟨rfl, rfl⟩ := hq
      refine ⟨_, _, RW 0 q A u c (tx_put 60 (u).2.1 0 0 k), rfl, rfl, rfl, ?_⟩
      refine im_g 1 (y := (74, _, _, _)) rfl trivial ?_
      refine im_call [0,1,2,3,4] rfl rfl (c_step (q := q) (A := A) (u := u) (c := c) (k := (tx_put 60 u.2.1 0 0 k)) (by omega) hT hA hK.1.2.1) rfl rfl rfl (by decide) rfl (by decide) hT (fun v1 w1 hq => ?_)
      obtain ⟨rfl, rfl⟩ := hq
      refine ⟨_, _, RW 0 (rd_next A q) A u c (tx_put 60 u.2.1 0 0 k), rfl, rfl, rfl, ?_⟩
      refine im_g 2 (y := (79, _, _, _)) rfl trivial ?_
      refine im_bF rfl rfl ⟨(by decide), (by decide), trivial⟩ (by decide) ?_
      refine im_g 2 (y := (84, _, _, _)) rfl trivial ?_
      refine im_call [0,1,2,3,4] rfl rfl (c_wsum (od := true) (q := (rd_next A q)) (u := u) (c := c) (k := (tx_put 60 u.2.1 0 0 k)) (by omega) hT hA hK1.1 (by have t := hK1.2.1.1; omega) (f := 2) (by decide) (by have t := hK1.2.1.2.2.1; omega) (by omega) q1) rfl rfl rfl (by decide) rfl (by decide) hT (fun v1 w1 hq => ?_)
      obtain ⟨rfl, q2, u2, c2, rfl, hR2⟩ := hq
      refine ⟨_, _, RW 0 q2 A u2 c2 (tx_put 60 (u).2.1 2 (u).1 ((tx_put 60 u.2.1 0 0 k))), rfl, rfl, rfl, ?_⟩
      have hM : CLp true A N z u0 c0 k0 j1 l1 (s + 1) u2 c2 (tx_put 60 u.2.1 2 u.1 (tx_put 60 u.2.1 0 0 k)) q2 (0, 1, m1, d_1, d_1) := CLp_put (f := 2) hK1 hz (by decide) (by omega) (by omega) hR2 hl1
      refine im_g 2 (y := (89, _, _, _)) rfl trivial ?_
      refine im_bF rfl rfl ⟨(by decide), (by decide), trivial⟩ (by decide) ?_
      refine im_g 2 (y := (94, _, _, _)) rfl trivial ?_
      refine im_bT rfl rfl ⟨(by decide), (by decide), trivial⟩ (by decide) ?_
      refine im_q (fun r w hq => ?_) (t_otail (by omega) hT hA hz hM (by omega) q3)
      obtain ⟨hr1, q9, u9, c9, k9, hw9, hC9⟩ := hq
      exact ⟨hr1, q9, u9, c9, k9, hw9, CLq_s hC9 (by omega)⟩
end Rh
