/-! the reference: orders -/
/-- kept: the sixth text and what moves aside -/
def TXF (K K' : Int → Int) : Prop := (∀ i, 71 ≤ i → i < 120 → K' i = K i) ∧ (∀ i, 0 ≤ i → i < 2400 → K' (121 + i) = K (121 + i)) ∧ (∀ i, 0 ≤ i → i < 2400 → K' (2921 + i) = K (2921 + i)) ∧ KT K'
theorem TXF_0 {K : Int → Int} (h : KT K) : TXF K K := ⟨fun _ _ _ => rfl, fun _ _ _ => rfl, fun _ _ _ => rfl, h⟩
theorem TXF_fr {K K1 K2 : Int → Int} (h : TXF K K1) (hf : KFr K1 K2) : TXF K K2 := ⟨fun i a b => (hf i a).trans (h.1 i a b), fun i a b => (hf _ (by omega)).trans (h.2.1 i a b), fun i a b => (hf _ (by omega)).trans (h.2.2.1 i a b), KT_fr h.2.2.2 hf⟩
def OF (v : Nat → Int) (R : Nat → Int → Int) (v1 : Nat → Int) (R1 : Nat → Int → Int) : Prop := (∀ j ∈ [6, 30, 49, 50, 51], v1 j = v j) ∧ ∀ j ∈ [3, 4, 6, 7, 8, 16, 17, 18, 19, 20, 21, 23], R1 j = R j
/-- the sixth text laid -/
theorem kl6 {A : Int → Int} {N : Int} {R : Nat → Int → Int} (hA : tk_ok A) (hN : 0 ≤ N ∧ N ≤ 400) {c9 c10 c11 : Int → Int} (hk : TKS A N (R3 R c9 c10 c11)) {K : Int → Int} (hkt : KT K) : TXF K (kl_ 6 (tk_nt A N) c9 c10 K (tk_nt A N).toNat) ∧ kl_ 6 (tk_nt A N) c9 c10 K (tk_nt A N).toNat 120 = tk_nt A N ∧ (∀ i, i < 120 → kl_ 6 (tk_nt A N) c9 c10 K (tk_nt A N).toNat i = K i) ∧ ∀ Cs, LSc true (tk_C A N) (tk_X A N) (tk_nt A N) 0 Cs → LSc true (KCo (2400 + tk_nt A N) (kl_ 6 (tk_nt A N) c9 c10 K (tk_nt A N).toNat)) (fun i => kl_ 6 (tk_nt A N) c9 c10 K (tk_nt A N).toNat (2921 + i)) (2400 + tk_nt A N) 2400 Cs := by
  have htn := (tk_nt_b (A := A) hN).1
  obtain ⟨k1, k2, k3⟩ := kl_at (t := 6) (n := tk_nt A N) (c := c9) (x := c10) (K := K) (by decide) (tk_nt A N).toNat (by omega)
  generalize kl_ 6 (tk_nt A N) c9 c10 K (tk_nt A N).toNat = K6 at k1 k2 k3 ⊢
  have e120 : K6 120 = tk_nt A N := k1
  have hcode : ∀ k, 0 ≤ k → k < tk_nt A N → K6 (2521 + k) = tk_C A N k := fun k q1 q2 => by
    have t := (k2 k q1 (by omega)).1
    rw [show (121 : Int) + 400 * 6 + k = 2521 + k by omega] at t
    exact t.trans (hk k q1 (by omega)).1
  have hval : ∀ k, 0 ≤ k → k < tk_nt A N → K6 (5321 + k) = tk_X A N k := fun k q1 q2 => by
    have t := (k2 k q1 (by omega)).2
    rw [show (2921 : Int) + 400 * 6 + k = 5321 + k by omega] at t
    exact t.trans (hk k q1 (by omega)).2.1
  have hoth : ∀ i, i ≠ 120 → (i < 2521 ∨ 2521 + tk_nt A N ≤ i) → (i < 5321 ∨ 5321 + tk_nt A N ≤ i) → K6 i = K i := fun i q1 q2 q3 => k3 i (by omega) (by omega) (by omega)
  refine ⟨⟨fun i a b => hoth i (by omega) (by omega) (by omega), fun i a b => hoth _ (by omega) (by omega) (by omega), fun i a b => hoth _ (by omega) (by omega) (by omega), ⟨fun i a b => ?_, fun i a b => ?_, fun t a b => ?_⟩⟩, e120, fun i hi => hoth i (by omega) (by omega) (by omega), fun Cs hL => ?_⟩
  · by_cases c : 2400 ≤ i ∧ i < 2400 + tk_nt A N
    · have t := hcode (i - 2400) (by omega) (by omega)
      rw [show (2521 : Int) + (i - 2400) = 121 + i by omega] at t
      rw [t]
      have t2 := tk_code_b (A := A) (N := N) hA (tk_P A N (i - 2400).toNat)
      show 0 ≤ tk_code A N (tk_P A N (i - 2400).toNat) ∧ tk_code A N (tk_P A N (i - 2400).toNat) ≤ 1000
      omega
    · rw [hoth _ (by omega) (by omega) (by omega)]
      exact hkt.1 i a b
  · by_cases c : 2400 ≤ i ∧ i < 2400 + tk_nt A N
    · have t := hval (i - 2400) (by omega) (by omega)
      rw [show (5321 : Int) + (i - 2400) = 2921 + i by omega] at t
      rw [t]
      have t2 := tk_val_b (A := A) (N := N) (tk_P A N (i - 2400).toNat)
      exact t2
    · rw [hoth _ (by omega) (by omega) (by omega)]
      exact hkt.2.1 i a b
  · by_cases c : t = 6
    · rw [c, show (114 : Int) + 6 = 120 by decide, e120]
      omega
    · rw [hoth _ (by omega) (by omega) (by omega)]
      exact hkt.2.2 t a b
  · have hc : ∀ k, 0 ≤ k → tk_C A N k = KCo (2400 + tk_nt A N) K6 (k + 2400) := fun k hk0 => by
      unfold KCo
      by_cases c : k < tk_nt A N
      · rw [if_pos (by omega), show (121 : Int) + (k + 2400) = 2521 + k by omega, hcode k hk0 c]
      · rw [if_neg (by omega)]
        exact tk_C_end hN _ (by omega)
    have hx : ∀ k, 0 ≤ k → mk_c (tk_C A N) (tk_X A N) k = mk_c (KCo (2400 + tk_nt A N) K6) (fun i => K6 (2921 + i)) (k + 2400) := fun k hk0 => by
      unfold mk_c
      rw [← hc k hk0]
      by_cases c : tk_C A N k = 50
      · have hlt : k < tk_nt A N := by
          by_cases z : k < tk_nt A N
          · exact z
          · have := tk_C_end (A := A) hN k (by omega)
            omega
        rw [if_pos c, if_pos c]
        show tk_X A N k = K6 (2921 + (k + 2400))
        rw [show (2921 : Int) + (k + 2400) = 5321 + k by omega, hval k hk0 hlt]
      · rw [if_neg c, if_neg c]
    have t := LSc_sh (od := true) (s := 2400) (i0 := 0) hc hx Cs 0 (Int.le_refl _) ((LSc_msk Cs 0).mpr hL)
    rw [Int.zero_add, show tk_nt A N + 2400 = 2400 + tk_nt A N by omega] at t
    exact (LSc_msk Cs _).mp t
section Od
variable {ro : ab_R} {T : List im_T} {d : Nat} {v : Nat → Int} {R : Nat → Int → Int} {lv : Nat → Int} {L : Nat → Int → Int} {lw : Option im_T}
theorem KR_low {K K' : Int → Int} {lv : Nat → Int} {L : Nat → Int → Int} (h : KR K lv L) (hlo : LOK lv L) (hf : ∀ i, i < 120 → 0 ≤ i → K' i = K i) : KR K' lv L := by
  obtain ⟨⟨a1, a2, a3, a4, a5, a6⟩, ⟨b1, b2, b3, b4⟩, c, d, e⟩ := h
  have hg := lk_grp hlo
  have hh := lk_hrd hlo
  refine ⟨⟨?_, ?_, ?_, ?_, ?_, ?_⟩, ⟨?_, ?_, ?_, ?_⟩, fun p q1 q2 => ?_, fun k q1 q2 => ?_, fun k q1 q2 => ?_⟩
  · rw [hf _ (by decide) (by decide)]; exact a1
  · rw [hf _ (by decide) (by decide)]; exact a2
  · rw [hf _ (by decide) (by decide)]; exact a3
  · rw [hf _ (by decide) (by decide)]; exact a4
  · rw [hf _ (by decide) (by decide)]; exact a5
  · rw [hf _ (by decide) (by decide)]; exact a6
  · rw [hf _ (by decide) (by decide)]; exact b1
  · rw [hf _ (by decide) (by decide)]; exact b2
  · rw [hf _ (by decide) (by decide)]; exact b3
  · rw [hf _ (by decide) (by decide)]; exact b4
  · rw [hf _ (by omega) (by omega), hf (81 + p) (by omega) (by omega), hf (0 + p) (by omega) (by omega), hf (10 + p) (by omega) (by omega)]
    exact c p q1 q2
  · rw [hf _ (by omega) (by omega), hf (20 + 3 * k + 1) (by omega) (by omega), hf (20 + 3 * k + 2) (by omega) (by omega)]
    exact d k q1 q2
  · rw [hf _ (by omega) (by omega), hf (91 + 2 * k + 1) (by omega) (by omega)]
    exact e k q1 q2
theorem RNS_at {v0 : Nat → Int} {R0 : Nat → Int → Int} {v : Nat → Int} {R : Nat → Int → Int} (h : RNS v0 R0 v R) {j : Nat} (hj : j ∈ [0, 6, 8, 9, 10, 13, 14, 18, 19, 20, 21, 30, 41, 49, 50, 51]) : v j = v0 j := by
  simp only [List.mem_cons, List.not_mem_nil, or_false] at hj
  exact h.1 j (by omega) (by omega) (by omega) (by omega) (by omega) (by omega) (by omega) (by omega) (by omega) (by omega) (by omega) (by omega) (by omega)
theorem OF_t {v : Nat → Int} {R : Nat → Int → Int} {v0 : Nat → Int} {R0 : Nat → Int → Int} {v1 : Nat → Int} {R1 : Nat → Int → Int} (h : OF v R v0 R0) (hS : RNS v0 R0 v1 R1) : OF v R v1 R1 := by
  refine ⟨fun j hj => (RNS_at hS ?_).trans (h.1 j hj), fun j hj => (hS.2.1 j ?_ ?_ ?_ ?_ ?_).trans (h.2 j hj)⟩ <;> (simp only [List.mem_cons, List.not_mem_nil, or_false] at hj ⊢; omega)
theorem OF_z {v : Nat → Int} {R : Nat → Int → Int} {v1 : Nat → Int} {R1 : Nat → Int → Int} {a b c : Int} {f g h2 : Int → Int} (h : OF v R v1 R1) : OF v R (pl_U (pl_U (pl_U v1 34 a) 41 b) 0 c) (pl_U (pl_U (pl_U R1 2 f) 14 g) 1 h2) := by
  refine ⟨fun j hj => ?_, fun j hj => ?_⟩
  · have t := h.1 j hj
    simp only [List.mem_cons, List.not_mem_nil, or_false] at hj
    unfold pl_U
    rw [if_neg (by omega), if_neg (by omega), if_neg (by omega)]
    exact t
  · have t := h.2 j hj
    simp only [List.mem_cons, List.not_mem_nil, or_false] at hj
    unfold pl_U
    rw [if_neg (by omega), if_neg (by omega), if_neg (by omega)]
    exact t
theorem OF_0 {v : Nat → Int} {R : Nat → Int → Int} {v1 : Nat → Int} {R1 : Nat → Int → Int} {c : Int} (h : OF v R v1 R1) : OF v R (pl_U v1 0 c) R1 := by
  refine ⟨fun j hj => ?_, h.2⟩
  have t := h.1 j hj
  simp only [List.mem_cons, List.not_mem_nil, or_false] at hj
  unfold pl_U
  rw [if_neg (by omega)]
  exact t
theorem KR_lowx {K K1 K2 : Int → Int} {i : Int} (hi : i < 120) (hi0 : 0 ≤ i) (ci : ¬ (0 ≤ i ∧ i < 0 + 71)) (hf : KFr K1 K2) (h : TXF K K1) : K2 i = K i := (hf i (by omega)).trans (h.1 i (by omega) hi)
set_option maxHeartbeats 8000000 in
theorem m_orders (hd : 90 ≤ d) (hT : T.length < 1000) (ht : TLS v R lv L lw) (h30 : v 30 = 0) (hd9 : L 7 0 ≤ 999) {A : Int → Int} (hA : TA A R) (hW : WL (R 6) 0 tk_words) (hN : 0 ≤ v 13 ∧ v 13 ≤ 400) (h22 : ∀ i, 0 ≤ i → i < 2 → -1000000000 ≤ R 22 i ∧ R 22 i ≤ 1000000000) {f k : Int} {rw_ : Int → Int} (hps : PSR (lv 0) (v 34) (R 14) f k rw_) {n : Nat} {rs : Int ⊕ List dC} (hall : d_all true (tk_C A (v 13)) (tk_X A (v 13)) n (tk_nt A (v 13)) = some rs) : im_ct ro T d 229 [mr 0] (MW v R) (fun r w => ∃ a v1 R1, r = some (.inl a) ∧ w = MW v1 R1 ∧ OF v R v1 R1 ∧ v1 13 = 0 ∧ v1 14 = rs_f A (v 13) rs ∧ v1 0 = (if a < 0 then a else 0) ∧ R1 1 = (if a < 0 then kp_ref a R 1 else R 1) ∧ TXF (R 2) (R1 2) ∧ (∀ i, 0 ≤ i → i < 2 → -1000000000 ≤ R1 22 i ∧ R1 22 i ≤ 1000000000) ∧ ((∃ fl, rs = .inl fl ∧ a = -6 ∧ v1 41 = -1 ∧ v1 34 = v 34 ∧ R1 14 = R 14 ∧ KR (R1 2) lv L) ∨ (∃ Cq c, rs = .inr Cq ∧ (rn_c lw Cq 0 ((lv, L, (-1, 0), (f, k), rw_) : ru_S)).1 = some c ∧ a = -3 ∧ v1 41 = c ∧ v1 34 = v 34 ∧ (∀ i, 0 ≤ i → i < 1152 → R1 14 i = R 14 i) ∧ KR (R1 2) lv L) ∨ (∃ Cq, rs = .inr Cq ∧ (rn_c lw Cq 0 ((lv, L, (-1, 0), (f, k), rw_) : ru_S)).1 = none ∧ a = (rn_c lw Cq 0 ((lv, L, (-1, 0), (f, k), rw_) : ru_S)).2.2.2.1.2 ∧ v1 41 = -1 ∧ KR (R1 2) (rn_c lw Cq 0 ((lv, L, (-1, 0), (f, k), rw_) : ru_S)).2.1 (rn_c lw Cq 0 ((lv, L, (-1, 0), (f, k), rw_) : ru_S)).2.2.1 ∧ PSR (lv 0) (v1 34) (R1 14) (rn_c lw Cq 0 ((lv, L, (-1, 0), (f, k), rw_) : ru_S)).2.2.2.2.1.1 (rn_c lw Cq 0 ((lv, L, (-1, 0), (f, k), rw_) : ru_S)).2.2.2.2.1.2 (rn_c lw Cq 0 ((lv, L, (-1, 0), (f, k), rw_) : ru_S)).2.2.2.2.2))) := by
  obtain ⟨d, rfl⟩ : ∃ e, d = e + 1 := ⟨d - 1, by omega⟩
  have hAo := TA_ok hA
  have htn := (tk_nt_b (A := A) hN).1
  refine im_ct_of (own := 9) (ret := (some .int)) (code := ab_k_X9_orders) (nL := 5) (L0 := [some (mr 0), none, none, none, none]) (n := 24) rfl rfl rfl rfl rfl rfl rfl rfl rfl ?_
  refine im_g 3 (y := (5, _, _, _)) rfl trivial ?_
  cases rs with
  | inl fl =>
    refine im_g 2 (y := (7, _, _, _)) rfl trivial ?_
    refine im_cM rfl rfl (r_readsAs_true (v := (pl_U v 41 (-1))) (R := R) (A := A) (by omega) hT hA hW hN hall) rfl hT (fun v1 w1 hq => ?_)
    obtain ⟨rfl, t, l, c9, c10, c11, rfl, hk⟩ := hq
    refine ⟨(VRs (pl_U v 41 (-1)) true (tk_nt A (v 13)) t l (tk_Q A (v 13) fl)), (R3 R c9 c10 c11), rfl, rfl, ?_⟩
    refine im_bF rfl rfl ⟨(by exact (show im_ir (0 : Int) by decide)), trivial⟩ (fun z => z rfl) ?_
    refine im_g 2 (y := (16, _, _, _)) rfl trivial ?_
    refine im_cM rfl rfl (m_refuses (v := (VRs (pl_U v 41 (-1)) true (tk_nt A (v 13)) t l (tk_Q A (v 13) fl))) (R := (R3 R c9 c10 c11)) (x := -6) (by omega) hT (by decide)) rfl hT (fun v1 w1 hq => ?_)
    obtain ⟨rfl, rfl⟩ := hq
    refine ⟨(pl_U (VRs (pl_U v 41 (-1)) true (tk_nt A (v 13)) t l (tk_Q A (v 13) fl)) 0 (-6)), (kp_ref (-6) (R3 R c9 c10 c11)), rfl, rfl, ?_⟩
    refine im_r rfl rfl trivial rfl ?_
    refine ⟨-6, (pl_U (VRs (pl_U v 41 (-1)) true (tk_nt A (v 13)) t l (tk_Q A (v 13) fl)) 0 (-6)), (kp_ref (-6) (R3 R c9 c10 c11)), rfl, rfl, ?_, rfl, rfl, by rw [if_pos (by decide)]; rfl, by rw [if_pos (by decide)]; rfl, TXF_0 ht.2.2.2.1, h22, Or.inl ⟨fl, rfl, rfl, rfl, rfl, rfl, ht.1⟩⟩
    exact ⟨fun j hj => by simp only [List.mem_cons, List.not_mem_nil, or_false] at hj; rcases hj with rfl | rfl | rfl | rfl | rfl <;> rfl, fun j hj => by simp only [List.mem_cons, List.not_mem_nil, or_false] at hj; rcases hj with rfl | rfl | rfl | rfl | rfl | rfl | rfl | rfl | rfl | rfl | rfl | rfl <;> rfl⟩
  | inr Cs =>
    refine im_g 2 (y := (7, _, _, _)) rfl trivial ?_
    refine im_cM rfl rfl (r_readsAs_true (v := (pl_U v 41 (-1))) (R := R) (A := A) (by omega) hT hA hW hN hall) rfl hT (fun v1 w1 hq => ?_)
    obtain ⟨rfl, t, l, c9, c10, c11, rfl, hk⟩ := hq
    refine ⟨(VRs (pl_U v 41 (-1)) true (tk_nt A (v 13)) t l (-1)), (R3 R c9 c10 c11), rfl, rfl, ?_⟩
    refine im_bT rfl rfl ⟨(by exact (show im_ir (1 : Int) by decide)), trivial⟩ (show ¬ (1 : Int) = 0 by decide) ?_
    refine im_g 2 (y := (22, _, _, _)) rfl trivial ?_
    refine im_cM rfl rfl (m_laysAside (v := (VRs (pl_U v 41 (-1)) true (tk_nt A (v 13)) t l (-1))) (R := (R3 R c9 c10 c11)) (k := 1) (by omega) hT (by decide)) rfl hT (fun v1 w1 hq => ?_)
    obtain ⟨rfl, rfl⟩ := hq
    refine ⟨(VRs (pl_U v 41 (-1)) true (tk_nt A (v 13)) t l (-1)), (pl_U (R3 R c9 c10 c11) 5 (im_cpy (R 2) (R 5) 0 (71 * 1) 71)), rfl, rfl, ?_⟩
    refine im_g 2 (y := (27, _, _, _)) rfl trivial ?_
    refine im_eqs (y := (27, [some (mr 0), some (.inl ((0 : Nat) : Int)), none, none, none], [], MW (VRs (pl_U v 41 (-1)) true (tk_nt A (v 13)) t l (-1)) (pl_U (pl_U (R3 R c9 c10 c11) 5 (im_cpy (R 2) (R 5) 0 (71 * 1) 71)) 15 (im_cpy (R 14) (R 15) 0 0 ((0 : Nat) : Int))))) (by rw [im_cpy_0]; rfl) ?_
    refine im_for 1152 (fun m => (27, [some (mr 0), some (.inl (m : Int)), none, none, none], [], MW (VRs (pl_U v 41 (-1)) true (tk_nt A (v 13)) t l (-1)) (pl_U (pl_U (R3 R c9 c10 c11) 5 (im_cpy (R 2) (R 5) 0 (71 * 1) 71)) 15 (im_cpy (R 14) (R 15) 0 0 (m : Int))))) (fun m hm ih => ?_) ?_
    · refine im_g 2 (y := (31, _, _, _)) rfl trivial ?_
      refine im_bF rfl rfl ⟨(by omega), (by omega), trivial⟩ (by omega) ?_
      refine im_g 10 (y := (27, _, _, _)) rfl ⟨(by omega), (by omega), trivial⟩ ?_
      rw [im_cpy_s0, Int.zero_add] at ih
      exact ih
    · refine im_g 2 (y := (31, _, _, _)) rfl trivial ?_
      refine im_bT rfl rfl ⟨(by omega), (by omega), trivial⟩ (by omega) ?_
      refine im_g 5 (y := (60, _, _, _)) rfl trivial ?_
      refine im_cM rfl rfl (r_lays (v := (VRs (pl_U v 41 (-1)) true (tk_nt A (v 13)) t l (-1))) (R := (pl_U (pl_U (R3 R c9 c10 c11) 5 (im_cpy (R 2) (R 5) 0 (71 * 1) 71)) 15 (im_cpy (R 14) (R 15) 0 0 1152))) (t := 6) (by omega) hT (by decide) (show 0 ≤ (tk_nt A (v 13)) ∧ (tk_nt A (v 13)) ≤ 400 by omega)) rfl hT (fun v1 w1 hq => ?_)
      obtain ⟨rfl, rfl⟩ := hq
      refine ⟨(VRs (pl_U v 41 (-1)) true (tk_nt A (v 13)) t l (-1)), (pl_U (pl_U (pl_U (R3 R c9 c10 c11) 5 (im_cpy (R 2) (R 5) 0 (71 * 1) 71)) 15 (im_cpy (R 14) (R 15) 0 0 1152)) 2 (kl_ 6 (tk_nt A (v 13)) c9 c10 (R 2) (tk_nt A (v 13)).toNat)), rfl, rfl, ?_⟩
      refine im_g 19 (y := (95, _, _, _)) rfl ⟨(by omega), trivial⟩ ?_
      obtain ⟨t1, t2, t3, t4⟩ := kl6 (A := A) (N := v 13) (R := R) (K := R 2) hAo hN hk ht.2.2.2.1
      have hLS := t4 Cs (d_all_s (fun k hk => tk_C_end hN k hk) hall)
      have hlen := DCR_len 12 0 0 Cs (d_all_d hall)
      have h05 : (pl_U (pl_U (pl_U (R3 R c9 c10 c11) 5 (im_cpy (R 2) (R 5) 0 (71 * 1) 71)) 15 (im_cpy (R 14) (R 15) 0 0 1152)) 2 (kl_ 6 (tk_nt A (v 13)) c9 c10 (R 2) (tk_nt A (v 13)).toNat)) 5 = im_cpy (R 2) (R 5) 0 (71 * 1) 71 := rfl
      have h015 : (pl_U (pl_U (pl_U (R3 R c9 c10 c11) 5 (im_cpy (R 2) (R 5) 0 (71 * 1) 71)) 15 (im_cpy (R 14) (R 15) 0 0 1152)) 2 (kl_ 6 (tk_nt A (v 13)) c9 c10 (R 2) (tk_nt A (v 13)).toNat)) 15 = im_cpy (R 14) (R 15) 0 0 1152 := rfl
      have h01 : (pl_U (pl_U (pl_U (R3 R c9 c10 c11) 5 (im_cpy (R 2) (R 5) 0 (71 * 1) 71)) 15 (im_cpy (R 14) (R 15) 0 0 1152)) 2 (kl_ 6 (tk_nt A (v 13)) c9 c10 (R 2) (tk_nt A (v 13)).toNat)) 1 = R 1 := rfl
      have h02 : (pl_U (pl_U (pl_U (R3 R c9 c10 c11) 5 (im_cpy (R 2) (R 5) 0 (71 * 1) 71)) 15 (im_cpy (R 14) (R 15) 0 0 1152)) 2 (kl_ 6 (tk_nt A (v 13)) c9 c10 (R 2) (tk_nt A (v 13)).toNat)) 2 = (kl_ 6 (tk_nt A (v 13)) c9 c10 (R 2) (tk_nt A (v 13)).toNat) := rfl
      have hOF : OF v R (pl_U (pl_U (pl_U (VRs (pl_U v 41 (-1)) true (tk_nt A (v 13)) t l (-1)) 27 0) 28 (-1)) 42 2400) (pl_U (pl_U (pl_U (R3 R c9 c10 c11) 5 (im_cpy (R 2) (R 5) 0 (71 * 1) 71)) 15 (im_cpy (R 14) (R 15) 0 0 1152)) 2 (kl_ 6 (tk_nt A (v 13)) c9 c10 (R 2) (tk_nt A (v 13)).toNat)) := ⟨fun j hj => by simp only [List.mem_cons, List.not_mem_nil, or_false] at hj; rcases hj with rfl | rfl | rfl | rfl | rfl <;> rfl, fun j hj => by simp only [List.mem_cons, List.not_mem_nil, or_false] at hj; rcases hj with rfl | rfl | rfl | rfl | rfl | rfl | rfl | rfl | rfl | rfl | rfl | rfl <;> rfl⟩
      have hV : (pl_U (pl_U (pl_U (VRs (pl_U v 41 (-1)) true (tk_nt A (v 13)) t l (-1)) 27 0) 28 (-1)) 42 2400) 13 = 0 ∧ (pl_U (pl_U (pl_U (VRs (pl_U v 41 (-1)) true (tk_nt A (v 13)) t l (-1)) 27 0) 28 (-1)) 42 2400) 14 = -1 ∧ (pl_U (pl_U (pl_U (VRs (pl_U v 41 (-1)) true (tk_nt A (v 13)) t l (-1)) 27 0) 28 (-1)) 42 2400) 30 = 0 ∧ (pl_U (pl_U (pl_U (VRs (pl_U v 41 (-1)) true (tk_nt A (v 13)) t l (-1)) 27 0) 28 (-1)) 42 2400) 0 = v 0 ∧ (pl_U (pl_U (pl_U (VRs (pl_U v 41 (-1)) true (tk_nt A (v 13)) t l (-1)) 27 0) 28 (-1)) 42 2400) 41 = -1 ∧ (pl_U (pl_U (pl_U (VRs (pl_U v 41 (-1)) true (tk_nt A (v 13)) t l (-1)) 27 0) 28 (-1)) 42 2400) 42 = 2400 := ⟨rfl, rfl, h30, rfl, rfl, rfl⟩
      have hS0 : RNS (pl_U (pl_U (pl_U (VRs (pl_U v 41 (-1)) true (tk_nt A (v 13)) t l (-1)) 27 0) 28 (-1)) 42 2400) (pl_U (pl_U (pl_U (R3 R c9 c10 c11) 5 (im_cpy (R 2) (R 5) 0 (71 * 1) 71)) 15 (im_cpy (R 14) (R 15) 0 0 1152)) 2 (kl_ 6 (tk_nt A (v 13)) c9 c10 (R 2) (tk_nt A (v 13)).toNat)) (pl_U (pl_U (pl_U (VRs (pl_U v 41 (-1)) true (tk_nt A (v 13)) t l (-1)) 27 0) 28 (-1)) 42 2400) (pl_U (pl_U (pl_U (R3 R c9 c10 c11) 5 (im_cpy (R 2) (R 5) 0 (71 * 1) 71)) 15 (im_cpy (R 14) (R 15) 0 0 1152)) 2 (kl_ 6 (tk_nt A (v 13)) c9 c10 (R 2) (tk_nt A (v 13)).toNat)) := ⟨fun _ _ _ _ _ _ _ _ _ _ _ _ _ _ => rfl, fun _ _ _ _ _ _ => rfl, fun _ _ => rfl, h22⟩
      have hK0 : KR (kl_ 6 (tk_nt A (v 13)) c9 c10 (R 2) (tk_nt A (v 13)).toNat) lv L := by
        exact KR_low ht.1 ht.2.1 (fun i hi _ => t3 i hi)
      have hZ0 : RNZ (lv 0) (lv 5) 0 (pl_U (pl_U (pl_U (VRs (pl_U v 41 (-1)) true (tk_nt A (v 13)) t l (-1)) 27 0) 28 (-1)) 42 2400) (pl_U (pl_U (pl_U (R3 R c9 c10 c11) 5 (im_cpy (R 2) (R 5) 0 (71 * 1) 71)) 15 (im_cpy (R 14) (R 15) 0 0 1152)) 2 (kl_ 6 (tk_nt A (v 13)) c9 c10 (R 2) (tk_nt A (v 13)).toNat)) ((lv, L, (-1, 0), (f, k), rw_) : ru_S) := ⟨hK0, ht.2.1, hd9, rfl, rfl, rfl, rfl, (show -1 ≤ (-1 : Int) ∧ (-1 : Int) ≤ 98 by decide), ⟨Int.le_refl _, Int.le_refl _⟩, hps⟩
      have hlw0 : KLW ((pl_U (pl_U (pl_U (R3 R c9 c10 c11) 5 (im_cpy (R 2) (R 5) 0 (71 * 1) 71)) 15 (im_cpy (R 14) (R 15) 0 0 1152)) 2 (kl_ 6 (tk_nt A (v 13)) c9 c10 (R 2) (tk_nt A (v 13)).toNat)) 2) (lv 5) lw := KLW_fr6 ht.2.2.2.1 ht.2.2.2.2.1 (fun t a b => t1.1 _ (by omega) (by omega)) t1.2.1 t1.2.2.1
      have hLS2 : LSc true (KCo (2400 + (tk_nt A (v 13))) ((pl_U (pl_U (pl_U (R3 R c9 c10 c11) 5 (im_cpy (R 2) (R 5) 0 (71 * 1) 71)) 15 (im_cpy (R 14) (R 15) 0 0 1152)) 2 (kl_ 6 (tk_nt A (v 13)) c9 c10 (R 2) (tk_nt A (v 13)).toNat)) 2)) (EX (pl_U (pl_U (pl_U (R3 R c9 c10 c11) 5 (im_cpy (R 2) (R 5) 0 (71 * 1) 71)) 15 (im_cpy (R 14) (R 15) 0 0 1152)) 2 (kl_ 6 (tk_nt A (v 13)) c9 c10 (R 2) (tk_nt A (v 13)).toNat))) (2400 + (tk_nt A (v 13))) 2400 Cs := hLS
      refine im_eqs (y := (95, [some (mr 0), some (.inl (v 34)), some (.inl (2400 + (tk_nt A (v 13)))), some (.inl (0)), none], [], MW (pl_U (pl_U (pl_U (VRs (pl_U v 41 (-1)) true (tk_nt A (v 13)) t l (-1)) 27 0) 28 (-1)) 42 2400) (pl_U (pl_U (pl_U (R3 R c9 c10 c11) 5 (im_cpy (R 2) (R 5) 0 (71 * 1) 71)) 15 (im_cpy (R 14) (R 15) 0 0 1152)) 2 (kl_ 6 (tk_nt A (v 13)) c9 c10 (R 2) (tk_nt A (v 13)).toNat)))) ?_ ?_
      · show ((95, [some (mr 0), some (.inl (v 34)), some (.inl (2400 + (kl_ 6 (tk_nt A (v 13)) c9 c10 (R 2) (tk_nt A (v 13)).toNat) 120)), some (.inl 0), none], [], MW (pl_U (pl_U (pl_U (VRs (pl_U v 41 (-1)) true (tk_nt A (v 13)) t l (-1)) 27 0) 28 (-1)) 42 2400) (pl_U (pl_U (pl_U (R3 R c9 c10 c11) 5 (im_cpy (R 2) (R 5) 0 (71 * 1) 71)) 15 (im_cpy (R 14) (R 15) 0 0 1152)) 2 (kl_ 6 (tk_nt A (v 13)) c9 c10 (R 2) (tk_nt A (v 13)).toNat))) : im_S) = _
        rw [t2]
      have hkt0 : KT ((pl_U (pl_U (pl_U (R3 R c9 c10 c11) 5 (im_cpy (R 2) (R 5) 0 (71 * 1) 71)) 15 (im_cpy (R 14) (R 15) 0 0 1152)) 2 (kl_ 6 (tk_nt A (v 13)) c9 c10 (R 2) (tk_nt A (v 13)).toNat)) 2) := t1.2.2.2
      have htxf : TXF (R 2) ((pl_U (pl_U (pl_U (R3 R c9 c10 c11) 5 (im_cpy (R 2) (R 5) 0 (71 * 1) 71)) 15 (im_cpy (R 14) (R 15) 0 0 1152)) 2 (kl_ 6 (tk_nt A (v 13)) c9 c10 (R 2) (tk_nt A (v 13)).toNat)) 2) := t1
      generalize (pl_U (pl_U (pl_U (R3 R c9 c10 c11) 5 (im_cpy (R 2) (R 5) 0 (71 * 1) 71)) 15 (im_cpy (R 14) (R 15) 0 0 1152)) 2 (kl_ 6 (tk_nt A (v 13)) c9 c10 (R 2) (tk_nt A (v 13)).toNat)) = R0 at h05 h015 h01 hOF hS0 hZ0 hlw0 hLS2 hkt0 htxf ⊢
      generalize (pl_U (pl_U (pl_U (VRs (pl_U v 41 (-1)) true (tk_nt A (v 13)) t l (-1)) 27 0) 28 (-1)) 42 2400) = vb at hOF hV hS0 hZ0 ⊢
      obtain ⟨hv13, hv14, hv30, hv0, hv41, hvb42⟩ := hV
      have key : ∀ (C2 : List dC) (c i b : Int) (z : ru_S) (vx : Nat → Int) (Rx : Nat → Int → Int) (x4 : Option im_V), rn_c lw Cs 0 ((lv, L, (-1, 0), (f, k), rw_) : ru_S) = rn_c lw C2 c z → RNS vb R0 vx Rx → RNZ (lv 0) (lv 5) b vx Rx z → vx 42 = i → (0 ≤ i ∧ i ≤ 2801) → (0 ≤ c ∧ c + C2.length ≤ 12) → (0 ≤ b ∧ b + 20 * C2.length ≤ 240) → LSc true (KCo (2400 + (tk_nt A (v 13))) (R0 2)) (EX R0) (2400 + (tk_nt A (v 13))) i C2 → im_wp ro (ab_Ev ro ab_codes d) 9 (some .int) ab_k_X9_orders 24 T (fun r w => ∃ a v1 R1, r = some (.inl a) ∧ w = MW v1 R1 ∧ OF v R v1 R1 ∧ v1 13 = 0 ∧ v1 14 = rs_f A (v 13) (Sum.inr Cs : Int ⊕ List dC) ∧ v1 0 = (if a < 0 then a else 0) ∧ R1 1 = (if a < 0 then kp_ref a R 1 else R 1) ∧ TXF (R 2) (R1 2) ∧ (∀ i, 0 ≤ i → i < 2 → -1000000000 ≤ R1 22 i ∧ R1 22 i ≤ 1000000000) ∧ ((∃ fl, (Sum.inr Cs : Int ⊕ List dC) = .inl fl ∧ a = -6 ∧ v1 41 = -1 ∧ v1 34 = v 34 ∧ R1 14 = R 14 ∧ KR (R1 2) lv L) ∨ (∃ Cq c, (Sum.inr Cs : Int ⊕ List dC) = .inr Cq ∧ (rn_c lw Cq 0 ((lv, L, (-1, 0), (f, k), rw_) : ru_S)).1 = some c ∧ a = -3 ∧ v1 41 = c ∧ v1 34 = v 34 ∧ (∀ i, 0 ≤ i → i < 1152 → R1 14 i = R 14 i) ∧ KR (R1 2) lv L) ∨ (∃ Cq, (Sum.inr Cs : Int ⊕ List dC) = .inr Cq ∧ (rn_c lw Cq 0 ((lv, L, (-1, 0), (f, k), rw_) : ru_S)).1 = none ∧ a = (rn_c lw Cq 0 ((lv, L, (-1, 0), (f, k), rw_) : ru_S)).2.2.2.1.2 ∧ v1 41 = -1 ∧ KR (R1 2) (rn_c lw Cq 0 ((lv, L, (-1, 0), (f, k), rw_) : ru_S)).2.1 (rn_c lw Cq 0 ((lv, L, (-1, 0), (f, k), rw_) : ru_S)).2.2.1 ∧ PSR (lv 0) (v1 34) (R1 14) (rn_c lw Cq 0 ((lv, L, (-1, 0), (f, k), rw_) : ru_S)).2.2.2.2.1.1 (rn_c lw Cq 0 ((lv, L, (-1, 0), (f, k), rw_) : ru_S)).2.2.2.2.1.2 (rn_c lw Cq 0 ((lv, L, (-1, 0), (f, k), rw_) : ru_S)).2.2.2.2.2))) (95, [some (mr 0), some (.inl (v 34)), some (.inl (2400 + (tk_nt A (v 13)))), some (.inl (c)), x4], [], MW vx Rx) := by
        intro C2
        induction C2 with
        | nil =>
          intro c i b z vx Rx x4 er hS hZ h42 hi hc hb hL
          have hge : 2400 + (tk_nt A (v 13)) ≤ i := hL
          have er2 : (rn_c lw Cs 0 ((lv, L, (-1, 0), (f, k), rw_) : ru_S)) = (none, z) := er
          refine im_g 3 (y := (100, _, _, _)) rfl trivial ?_
          refine im_bT rfl rfl ⟨(by first | (rw [h42]; constructor <;> omega) | (constructor <;> omega)), (by first | (rw [h42]; constructor <;> omega) | (constructor <;> omega)), trivial⟩ (show 2400 + (tk_nt A (v 13)) ≤ vx 42 by rw [h42]; exact hge) ?_
          refine im_g 3 (y := (178, _, _, _)) rfl trivial ?_
          refine im_cM rfl rfl (m_good (v := vx) (R := Rx) (x := vx 27) (by omega) hT) rfl hT (fun v1 w1 hq => ?_)
          obtain ⟨rfl, rfl⟩ := hq
          refine ⟨(pl_U vx 0 0), Rx, rfl, rfl, ?_⟩
          refine im_r rfl rfl trivial rfl ?_
          obtain ⟨z1, z2, z3, z4, z5, z6, z7, z8, z9, z10⟩ := hZ
          refine ⟨z.2.2.1.2, _, _, congrArg (fun z => some (Sum.inl z)) z7, rfl, ?_, ?_, ?_, ?_, ?_, TXF_fr htxf hS.2.2.1, hS.2.2.2, Or.inr (Or.inr ⟨Cs, rfl, ?_, ?_, ?_, ?_, ?_⟩)⟩
          · exact OF_0 (OF_t hOF hS)
          · exact (RNS_at hS (by decide)).trans hv13
          · exact (RNS_at hS (by decide)).trans hv14
          · rw [if_neg (by omega)]; rfl
          · rw [if_neg (by omega)]; exact (hS.2.1 1 (by decide) (by decide) (by decide) (by decide) (by decide)).trans h01
          · rw [er2]
          · rw [er2]
          · exact (RNS_at hS (by decide)).trans hv41
          · rw [er2]; exact z1
          · rw [er2]; exact z10
        | cons q C2 ih =>
          intro c i b z vx Rx x4 er hS hZ h42 hi hc hb hL
          obtain ⟨hin, n2, l0, l1, j, hd, hL2⟩ := hL
          obtain ⟨K, tt, m1, m2, m3⟩ := q
          have hlc : ((K, tt, m1, m2, m3) :: C2 : List dC).length = C2.length + 1 := rfl
          rw [hlc] at hc hb
          obtain ⟨o1, o2, o3, o4⟩ := d_order_ok (N := 2400 + (tk_nt A (v 13))) (fun k hk => KCo_0 hk) hd
          dsimp only at o3 o4
          have hji := d_order_gt hd
          have es : rn_c lw ((K, tt, m1, m2, m3) :: C2) c z = if (rn_t lw (K, tt, m1, m2, m3) tt.toNat z).1 = true then (some c, (rn_t lw (K, tt, m1, m2, m3) tt.toNat z).2) else rn_c lw C2 (c + 1) (rn_t lw (K, tt, m1, m2, m3) tt.toNat z).2 := rfl
          refine im_g 3 (y := (100, _, _, _)) rfl trivial ?_
          refine im_bF rfl rfl ⟨(by first | (rw [h42]; constructor <;> omega) | (constructor <;> omega)), (by first | (rw [h42]; constructor <;> omega) | (constructor <;> omega)), trivial⟩ (show ¬ 2400 + (tk_nt A (v 13)) ≤ vx 42 by rw [h42]; omega) ?_
          refine im_g 2 (y := (105, _, _, _)) rfl trivial ?_
          refine im_cM rfl rfl (m_runs (v0 := vb) (R0 := R0) (n0 := lv 0) (f0 := lv 5) (b := b) (lw := lw) (by omega) hT hkt0 hlw0 hv30 (by omega) hS hZ (N := 2400 + (tk_nt A (v 13))) (i := i) (n := n2) (by omega) ⟨hi.1, hin⟩ h42 o3 o4 hd (by omega)) rfl hT (fun v1 w1 hq => ?_)
          obtain ⟨rfl, v1, R1, rfl, hS1, hgo⟩ := hq
          refine ⟨v1, R1, rfl, rfl, ?_⟩
          refine im_b rfl rfl ⟨(by split <;> decide), trivial⟩ (fun br1 => ?_) (fun br1 => ?_)
          · have hstop : (rn_t lw (K, tt, m1, m2, m3) tt.toNat z).1 = true := by
              by_cases hh : (rn_t lw (K, tt, m1, m2, m3) tt.toNat z).1 = true
              · exact hh
              · rw [if_neg hh] at br1; exact absurd br1 (by decide)
            clear br1
            refine im_g 2 (y := (116, _, _, _)) rfl trivial ?_
            refine im_cM rfl rfl (m_takesBack (v := v1) (R := R1) (k := 1) (by omega) hT (by decide)) rfl hT (fun v1 w1 hq => ?_)
            obtain ⟨rfl, rfl⟩ := hq
            refine ⟨v1, (pl_U R1 2 (im_cpy (R1 5) (R1 2) (71 * 1) 0 71)), rfl, rfl, ?_⟩
            have e15 : R1 15 = im_cpy (R 14) (R 15) 0 0 1152 := (hS1.2.1 15 (by decide) (by decide) (by decide) (by decide) (by decide)).trans h015
            have e5 : R1 5 = im_cpy (R 2) (R 5) 0 (71 * 1) 71 := (hS1.2.1 5 (by decide) (by decide) (by decide) (by decide) (by decide)).trans h05
            refine im_g 2 (y := (122, _, _, _)) rfl trivial ?_
            refine im_eqs (y := (122, [some (mr 0), some (.inl (v 34)), some (.inl (2400 + (tk_nt A (v 13)))), some (.inl c), some (.inl ((0 : Nat) : Int))], [], MW v1 (pl_U (pl_U R1 2 (im_cpy (R1 5) (R1 2) (71 * 1) 0 71)) 14 (im_cpy (R1 15) (R1 14) 0 0 ((0 : Nat) : Int))))) (by rw [im_cpy_0]; rfl) ?_
            refine im_for 1152 (fun m => (122, [some (mr 0), some (.inl (v 34)), some (.inl (2400 + (tk_nt A (v 13)))), some (.inl c), some (.inl (m : Int))], [], MW v1 (pl_U (pl_U R1 2 (im_cpy (R1 5) (R1 2) (71 * 1) 0 71)) 14 (im_cpy (R1 15) (R1 14) 0 0 (m : Int))))) (fun m hm ih3 => ?_) ?_
            · refine im_g 2 (y := (127, _, _, _)) rfl trivial ?_
              refine im_bF rfl rfl ⟨(by omega), (by omega), trivial⟩ (by omega) ?_
              refine im_g 10 (y := (122, _, _, _)) rfl ⟨(by omega), (by omega), trivial⟩ ?_
              rw [im_cpy_s0, Int.zero_add] at ih3
              exact ih3
            · refine im_g 2 (y := (127, _, _, _)) rfl trivial ?_
              refine im_bT rfl rfl ⟨(by omega), (by omega), trivial⟩ (by omega) ?_
              refine im_g 8 (y := (163, _, _, _)) rfl trivial ?_
              refine im_cM rfl rfl (m_refuses (v := (pl_U (pl_U v1 34 (v 34)) 41 c)) (R := (pl_U (pl_U R1 2 (im_cpy (R1 5) (R1 2) (71 * 1) 0 71)) 14 (im_cpy (R1 15) (R1 14) 0 0 ((1152 : Nat) : Int)))) (x := -3) (by omega) hT (by decide)) rfl hT (fun v1 w1 hq => ?_)
              obtain ⟨rfl, rfl⟩ := hq
              refine ⟨(pl_U (pl_U (pl_U v1 34 (v 34)) 41 c) 0 (-3)), (kp_ref (-3) (pl_U (pl_U R1 2 (im_cpy (R1 5) (R1 2) (71 * 1) 0 71)) 14 (im_cpy (R1 15) (R1 14) 0 0 ((1152 : Nat) : Int)))), rfl, rfl, ?_⟩
              refine im_r rfl rfl trivial rfl ?_
              have er3 := er
              rw [es, if_pos hstop] at er3
              refine ⟨-3, (pl_U (pl_U (pl_U v1 34 (v 34)) 41 c) 0 (-3)), (kp_ref (-3) (pl_U (pl_U R1 2 (im_cpy (R1 5) (R1 2) (71 * 1) 0 71)) 14 (im_cpy (R1 15) (R1 14) 0 0 ((1152 : Nat) : Int)))), rfl, rfl, ?_, ?_, ?_, ?_, ?_, ?_, hS1.2.2.2, Or.inr (Or.inl ⟨Cs, c, rfl, ?_, rfl, rfl, rfl, ?_, ?_⟩)⟩
              · exact OF_z (OF_t hOF hS1)
              · exact (RNS_at hS1 (by decide)).trans hv13
              · exact (RNS_at hS1 (by decide)).trans hv14
              · rw [if_pos (by decide)]; rfl
              · rw [if_pos (by decide)]
                have e1 : R1 1 = R 1 := (hS1.2.1 1 (by decide) (by decide) (by decide) (by decide) (by decide)).trans h01
                show im_up (R1 1) _ (R1 1 _ + 1) = im_up (R 1) _ (R 1 _ + 1)
                rw [e1]
              · refine TXF_fr (TXF_fr htxf hS1.2.2.1) (fun i hi => ?_)
                show im_cpy (R1 5) (R1 2) (71 * 1) 0 71 i = R1 2 i
                show (if _ then _ else _) = _
                rw [if_neg (by omega)]
              · rw [er3]
              · intro i q1 q2
                show im_cpy (R1 15) (R1 14) 0 0 ((1152 : Nat) : Int) i = R 14 i
                rw [e15, im_cpy_at, if_pos (by omega), im_cpy_at, if_pos (by omega)]
              · refine KR_low ht.1 ht.2.1 (fun i hi hi0 => ?_)
                show im_cpy (R1 5) (R1 2) (71 * 1) 0 71 i = R 2 i
                show (if _ then _ else _) = _
                by_cases ci : 0 ≤ i ∧ i < 0 + 71
                · rw [if_pos ci, e5]
                  show (if _ then _ else _) = _
                  rw [if_pos (by omega)]
                  congr 1
                  omega
                · rw [if_neg ci]
                  exact KR_lowx hi hi0 ci (hS1.2.2.1) htxf
          · have hgo0 : (rn_t lw (K, tt, m1, m2, m3) tt.toNat z).1 = false := by
              cases hh : (rn_t lw (K, tt, m1, m2, m3) tt.toNat z).1 with
              | false => rfl
              | true => rw [hh] at br1; exact absurd (show (if true = true then (0 : Int) else 1) = 0 from rfl) br1
            clear br1
            refine im_g 3 (y := (95, _, _, _)) rfl trivial ?_
            have er3 := er
            rw [es, if_neg (by rw [hgo0]; decide)] at er3
            obtain ⟨g1, g2⟩ := hgo hgo0
            have t := ih (c + 1) (j + 1) (b + tt) (rn_t lw (K, tt, m1, m2, m3) tt.toNat z).2 v1 R1 x4 er3 hS1 g2 g1 (by omega) (by omega) (by omega) hL2
            exact t
      exact key Cs 0 2400 0 ((lv, L, (-1, 0), (f, k), rw_) : ru_S) vb R0 none rfl hS0 hZ0 hvb42 (by decide) (by omega) (by omega) hLS2
end Od
