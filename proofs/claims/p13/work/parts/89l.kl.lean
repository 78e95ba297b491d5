/-! a law added -/
theorem KLW_frb {K K' : Int → Int} {f : Int} {lw : Option im_T} (hk : KT K) (h : KLW K f lw) (h0 : 0 ≤ f → f < 6 → K' (114 + f) = K (114 + f)) (h1 : ∀ i, 400 * f ≤ i → i < 400 * f + 400 → 0 ≤ i → i < 2400 → K' (121 + i) = K (121 + i)) (h2 : ∀ i, 400 * f ≤ i → i < 400 * f + 400 → 0 ≤ i → i < 2400 → K' (2921 + i) = K (2921 + i)) : KLW K' f lw := by
  rcases h with h | ⟨hf, q, Cs, h3, h4, h5⟩
  · exact Or.inl h
  · refine Or.inr ⟨hf, q, Cs, h3, h4, ?_⟩
    have hl := hk.2.2 f hf.1 (by omega)
    have e0 := h0 hf.1 hf.2
    have hc : ∀ k, 400 * f ≤ k → KC K f k = KC K' f (k + 0) := fun k hk => by
      rw [Int.add_zero]
      unfold KC
      rw [e0]
      by_cases c : k < 400 * f + K (114 + f)
      · rw [if_pos c, if_pos c, h1 k hk (by omega) (by omega) (by omega)]
      · rw [if_neg c, if_neg c]
    have hx : ∀ k, 400 * f ≤ k → mk_c (KC K f) (fun i => K (2921 + i)) k = mk_c (KC K' f) (fun i => K' (2921 + i)) (k + 0) := fun k hk => by
      have e := hc k hk
      rw [Int.add_zero] at e ⊢
      unfold mk_c
      rw [← e]
      by_cases c : KC K f k = 50
      · rw [if_pos c, if_pos c]
        have hlt : k < 400 * f + K (114 + f) := by
          by_cases z : k < 400 * f + K (114 + f)
          · exact z
          · have : KC K f k = 0 := if_neg z
            omega
        exact (h2 k hk (by omega) (by omega) (by omega)).symm
      · rw [if_neg c, if_neg c]
    have t := LSd_sh (c := KC K' f) (x := mk_c (KC K' f) (fun i => K' (2921 + i))) (s := 0) (i0 := 400 * f) hc hx Cs (400 * f) (Int.le_refl _) ((LSd_msk Cs _).mpr h5)
    rw [Int.add_zero, Int.add_zero] at t
    rw [e0]
    exact (LSd_msk Cs _).mp t
theorem LOK_law {lv : Nat → Int} {L : Nat → Int → Int} (h : LOK lv L) (hr : lv 4 < 6) : LOK (pl_U lv 4 (lv 4 + 1)) L := by
  obtain ⟨a0, a1, a2, a3, a4, a5, b0, b1, b2, b3, b4, b5, b6, b7, b8, b9, c1, c2, c3⟩ := h
  refine ⟨a0, a1, a2, a3, ?_, ?_, b0, b1, b2, b3, b4, b5, b6, b7, b8, b9, c1, c2, c3⟩
  · show 0 ≤ lv 4 + 1 ∧ lv 4 + 1 ≤ 6
    omega
  · show -1 ≤ lv 5 ∧ lv 5 < lv 4 + 1
    omega
/-- the law read is added, alike on both sides -/
theorem KB_law {A : Int → Int} {N : Int} (hA : tk_ok A) (hN : 0 ≤ N ∧ N ≤ 400) {c9 c10 : Int → Int} (hk : ∀ k, 0 ≤ k → k < tk_nt A N → c9 k = tk_C A N k ∧ c10 k = tk_X A N k) {K : Int → Int} {lv : Nat → Int} {L : Nat → Int → Int} {Q : Int → im_T} (h : KB K lv L Q) (hr : lv 4 < 6) {n : Nat} {Cs : List dC} (hall : d_all false (tk_C A N) (tk_X A N) n (tk_nt A N) = some (.inr Cs)) {q : im_T} (hq : TRL false q Cs) : KB (im_up (kl_ (lv 4) (tk_nt A N) c9 c10 K (tk_nt A N).toNat) 112 (lv 4 + 1)) (pl_U lv 4 (lv 4 + 1)) L (im_up Q (lv 4) q) := by
  obtain ⟨hK, hlo, hd, hkt, hQ⟩ := h
  have htn := (tk_nt_b (A := A) hN).1
  have hlw := lk_law hlo
  have hgr := lk_grp hlo
  have hhd := lk_hrd hlo
  generalize ht : lv 4 = t at *
  obtain ⟨k1, k2, k3⟩ := kl_at (t := t) (n := tk_nt A N) (c := c9) (x := c10) (K := K) (by omega) (tk_nt A N).toNat (by omega)
  generalize kl_ t (tk_nt A N) c9 c10 K (tk_nt A N).toNat = K6 at k1 k2 k3 ⊢
  have hcode : ∀ k, 0 ≤ k → k < tk_nt A N → K6 (121 + 400 * t + k) = tk_C A N k := fun k q1 q2 => ((k2 k q1 (by omega)).1).trans (hk k q1 q2).1
  have hval : ∀ k, 0 ≤ k → k < tk_nt A N → K6 (2921 + 400 * t + k) = tk_X A N k := fun k q1 q2 => ((k2 k q1 (by omega)).2).trans (hk k q1 q2).2
  have hoth : ∀ i, i ≠ 114 + t → (i < 121 + 400 * t ∨ 121 + 400 * t + tk_nt A N ≤ i) → (i < 2921 + 400 * t ∨ 2921 + 400 * t + tk_nt A N ≤ i) → K6 i = K i := fun i q1 q2 q3 => k3 i q1 (by omega) (by omega)
  have hne : ∀ i, i ≠ 112 → im_up K6 112 (t + 1) i = K6 i := fun i q1 => im_up_ne _ _ q1
  have hlow : ∀ i, i < 114 → i ≠ 112 → im_up K6 112 (t + 1) i = K i := fun i q1 q2 => (hne i q2).trans (hoth i (by omega) (by omega) (by omega))
  have hKT : KT (im_up K6 112 (t + 1)) := by
    refine ⟨fun i a b => ?_, fun i a b => ?_, fun s a b => ?_⟩
    · rw [hne _ (by omega)]
      by_cases c : 400 * t ≤ i ∧ i < 400 * t + tk_nt A N
      · have e := hcode (i - 400 * t) (by omega) (by omega)
        rw [show 121 + 400 * t + (i - 400 * t) = 121 + i by omega] at e
        rw [e]
        have t2 := tk_code_b (A := A) hA N (tk_P A N (i - 400 * t).toNat)
        show 0 ≤ tk_code A N (tk_P A N (i - 400 * t).toNat) ∧ tk_code A N (tk_P A N (i - 400 * t).toNat) ≤ 1000
        omega
      · rw [hoth _ (by omega) (by omega) (by omega)]
        exact hkt.1 i a b
    · rw [hne _ (by omega)]
      by_cases c : 400 * t ≤ i ∧ i < 400 * t + tk_nt A N
      · have e := hval (i - 400 * t) (by omega) (by omega)
        rw [show 2921 + 400 * t + (i - 400 * t) = 2921 + i by omega] at e
        rw [e]
        exact tk_val_b (A := A) N (tk_P A N (i - 400 * t).toNat)
      · rw [hoth _ (by omega) (by omega) (by omega)]
        exact hkt.2.1 i a b
    · rw [hne _ (by omega)]
      by_cases c : s = t
      · rw [c, k1]
        omega
      · rw [hoth _ (by omega) (by omega) (by omega)]
        exact hkt.2.2 s a b
  have hKR : KR (im_up K6 112 (t + 1)) (pl_U lv 4 (t + 1)) L := by
    obtain ⟨⟨a1, a2, a3, a4, a5, a6⟩, ⟨b1, b2, b3, b4⟩, c, d, e⟩ := hK
    refine ⟨⟨?_, ?_, ?_, ?_, ?_, ?_⟩, ⟨?_, ?_, ?_, ?_⟩, fun p q1 q2 => ?_, fun k q1 q2 => ?_, fun k q1 q2 => ?_⟩
    · rw [hlow _ (by omega) (by omega)]; exact a1
    · rw [hlow _ (by omega) (by omega)]; exact a2
    · rw [hlow _ (by omega) (by omega)]; exact a3
    · rw [hlow _ (by omega) (by omega)]; exact a4
    · rw [im_up_self]; rfl
    · rw [hlow _ (by omega) (by omega)]; exact a6
    · rw [hlow _ (by omega) (by omega)]; exact b1
    · rw [hlow _ (by omega) (by omega)]; exact b2
    · rw [hlow _ (by omega) (by omega)]; exact b3
    · rw [hlow _ (by omega) (by omega)]; exact b4
    · rw [hlow _ (by omega) (by omega), hlow (81 + p) (by omega) (by omega), hlow (0 + p) (by omega) (by omega), hlow (10 + p) (by omega) (by omega)]
      exact c p q1 q2
    · have q3 : k < lv 1 := q2
      rw [hlow _ (by omega) (by omega), hlow (20 + 3 * k + 1) (by omega) (by omega), hlow (20 + 3 * k + 2) (by omega) (by omega)]
      exact d k q1 q2
    · have q3 : k < lv 3 := q2
      rw [hlow _ (by omega) (by omega), hlow (91 + 2 * k + 1) (by omega) (by omega)]
      exact e k q1 q2
  refine ⟨hKR, ?_, hd, hKT, fun s a b => ?_⟩
  · have := LOK_law hlo (by omega)
    rw [ht] at this
    exact this
  · have b2 : s < t + 1 := b
    by_cases c : s = t
    · subst c
      rw [im_up_self]
      refine Or.inr ⟨⟨a, by omega⟩, q, Cs, rfl, hq, ?_⟩
      have eN : im_up K6 112 (s + 1) (114 + s) = tk_nt A N := (hne _ (by omega)).trans k1
      have hL := LSc_d Cs 0 (d_all_s (fun k hk => tk_C_end hN k hk) hall)
      have hc : ∀ k, 0 ≤ k → tk_C A N k = KC (im_up K6 112 (s + 1)) s (k + 400 * s) := fun k hk0 => by
        unfold KC
        rw [eN]
        by_cases c : k < tk_nt A N
        · rw [if_pos (by omega), hne _ (by omega), show 121 + (k + 400 * s) = 121 + 400 * s + k by omega, hcode k hk0 c]
        · rw [if_neg (by omega)]
          exact tk_C_end hN _ (by omega)
      have hx : ∀ k, 0 ≤ k → mk_c (tk_C A N) (tk_X A N) k = mk_c (KC (im_up K6 112 (s + 1)) s) (fun i => im_up K6 112 (s + 1) (2921 + i)) (k + 400 * s) := fun k hk0 => by
        unfold mk_c
        rw [← hc k hk0]
        by_cases c : tk_C A N k = 50
        · have hlt : k < tk_nt A N := by
            by_cases z : k < tk_nt A N
            · exact z
            · have := tk_C_end (A := A) hN k (by omega)
              omega
          rw [if_pos c, if_pos c]
          show tk_X A N k = im_up K6 112 (s + 1) (2921 + (k + 400 * s))
          rw [hne _ (by omega), show 2921 + (k + 400 * s) = 2921 + 400 * s + k by omega, hval k hk0 hlt]
        · rw [if_neg c, if_neg c]
      have t4 := LSd_sh (c := KC (im_up K6 112 (s + 1)) s) (x := mk_c (KC (im_up K6 112 (s + 1)) s) (fun i => im_up K6 112 (s + 1) (2921 + i))) (s := 400 * s) (i0 := 0) hc hx Cs 0 (Int.le_refl _) ((LSd_msk Cs 0).mpr hL)
      rw [Int.zero_add, show tk_nt A N + 400 * s = 400 * s + tk_nt A N by omega] at t4
      rw [eN]
      exact (LSd_msk Cs _).mp t4
    · rw [im_up_ne _ _ c]
      have hst : s < t := by omega
      refine KLW_frb hkt (hQ s a hst) (fun q1 q2 => ?_) (fun i q1 q2 q3 q4 => ?_) (fun i q1 q2 q3 q4 => ?_)
      · rw [hne _ (by omega)]
        exact hoth _ (by omega) (by omega) (by omega)
      · rw [hne _ (by omega)]
        exact hoth _ (by omega) (by omega) (by omega)
      · rw [hne _ (by omega)]
        exact hoth _ (by omega) (by omega) (by omega)
