/-! a parish made, alike on both sides; years told -/
theorem kp_add_tx {K : Int → Int} {u c n : Int} (hn : K 110 = n) (hb : 0 ≤ n ∧ n ≤ 9) {i : Int} (hi : 111 ≤ i) : kp_add u c K i = K i := by
  unfold kp_add kp_ad4 kp_ad3 im_up
  rw [if_neg (by omega), hn, if_neg (by omega), if_neg (by omega), if_neg (by omega), if_neg (by omega)]
theorem KB_add {K : Int → Int} {lv : Nat → Int} {L : Nat → Int → Int} {Q : Int → im_T} (h : KB K lv L Q) {u c : Int} (hu : -1 ≤ u ∧ u < lv 0) (hc : 0 ≤ c ∧ c ≤ 999) (hn : lv 0 ≤ 9) : (pl_add u c lv L).1 = lv 0 ∧ KB (kp_add u c K) (pl_add u c lv L).2.1 (pl_add u c lv L).2.2 Q := by
  obtain ⟨e1, e2⟩ := KR_add h.1 h.2.1 hu hc hn
  have hpar := lk_par h.2.1
  have hx : pl_add u c lv L = (lv 0, pl_U lv 0 (lv 0 + 1), pl_U (pl_U (pl_U (pl_U L 0 (im_up (L 0) (lv 0) u)) 1 (im_up (L 1) (lv 0) (pl_ad1 u L))) 2 (im_up (L 2) (lv 0) c)) 3 (im_up (L 3) (lv 0) 0)) := by
    unfold pl_add
    rw [if_neg (by omega), if_neg (by omega)]
  refine ⟨e1, KB_num h e2 (LOK_add h.2.1 u c) ?_ ?_ (fun i a b => kp_add_tx h.1.1.1 ⟨hpar.1, hn⟩ (by omega))⟩
  · rw [hx]; exact h.2.2.1
  · rw [hx]; rfl
section Rsy
variable {A : Int → Int} {tn : Int} {lv : Nat → Int} {L : Nat → Int → Int} {Q : Int → im_T} {f k : Int} {rw_ : Int → Int} {fr : Int → Int} {st fl sp sn : Int} {ik : Int → Int} {i0 i1 : (Nat → Int) × (Nat → Int → Int) × (Int → im_T)} {yk : Int} {yv : Nat → Int} {yR : Nat → Int → Int} {v v' : Nat → Int} {R R' : Nat → Int → Int}
/-- as km_parish leaves it, where it goes -/
theorem RST_add (h : RST A tn lv L Q f k rw_ fr st fl sp sn ik i0 i1 yk yv yR v R) {u c : Int} (hu : -1 ≤ u ∧ u < lv 0) (hc : 0 ≤ c ∧ c ≤ 999) (hn : lv 0 ≤ 9) : (pl_add u c lv L).1 = lv 0 ∧ R 2 110 = lv 0 ∧ RST A tn (pl_add u c lv L).2.1 (pl_add u c lv L).2.2 Q f 0 rw_ fr 0 fl sp sn ik i0 i1 yk yv yR (pl_U (pl_U v 34 0) 0 0) (pl_U R 2 (kp_add u c (R 2))) := ⟨(KB_add h.1 hu hc hn).1, h.1.1.1.1, RST_set h (KB_add h.1 hu hc hn).2⟩
/-- years told: the land at the end is kept to be asked of -/
theorem RST_years (h : RST A tn lv L Q f k rw_ fr st fl sp sn ik i0 i1 yk yv yR v R) {zv : Nat → Int} {zR : Nat → Int → Int} (hz0 : zv 0 = lv 0) (h2 : ∀ i, 0 ≤ i → R' 2 i = R 2 i) (h0 : v' 0 = 0) (h49 : v' 49 = lv 0) (h50 : v' 50 = pl_sum (zR 5) (zv 1).toNat) (h23 : ∀ p, 0 ≤ p → p < 10 → R' 23 (0 + p) = zR 2 p ∧ R' 23 (10 + p) = zR 3 p) (hv : ∀ j ∈ [6, 13, 14, 30, 34, 41], v' j = v j) (hR : ∀ j ∈ [1, 3, 4, 6, 7, 14, 22], R' j = R j) : RST A tn lv L Q f k rw_ fr 0 fl sp sn ik i0 i1 1 zv zR v' R' := by
  obtain ⟨hB, g2, ⟨g3, g4, g5⟩, g6, hp, hf, ⟨-, g7, g8, g9⟩, g10, ⟨g11, g12⟩, -⟩ := h
  have hpar := lk_par hB.2.1
  have e1 := hR 1 (by decide)
  have e3 := hR 3 (by decide)
  have e4 := hR 4 (by decide)
  have e6 := hR 6 (by decide)
  have e7 := hR 7 (by decide)
  have e14 := hR 14 (by decide)
  have e22 := hR 22 (by decide)
  refine ⟨KB_eq hB (fun i a b => h2 i a), (hv 30 (by decide)).trans g2, ⟨TA_fr g3 e7, (hv 13 (by decide)).trans g4, g5⟩, ?_, ?_, ?_, ⟨h0, (hv 14 (by decide)).trans g7, (hv 41 (by decide)).trans g8, (hv 6 (by decide)).trans g9⟩, ?_, ⟨RIM_fr g11 e3 e4, RIM_fr g12 e3 e4⟩, Or.inr ⟨rfl, ?_, ?_, h50, h23⟩⟩
  · rw [e6]; exact g6
  · rw [hv 34 (by decide), e14]; exact hp
  · rw [e1]; exact hf
  · rw [e22]; exact g10
  · rw [hz0]; exact h49
  · rw [hz0]; exact hpar
/-- a law made, as km_law leaves it -/
theorem RST_law (h : RST A tn lv L Q f k rw_ fr st fl sp sn ik i0 i1 yk yv yR v R) {lv' : Nat → Int} {Q' : Int → im_T} {fl' st' : Int} {fr' : Int → Int} (hK : KB (R' 2) lv' L Q') (h0 : lv' 0 = lv 0) (hs : v' 0 = st') (h14 : v' 14 = fl') (h13 : v' 13 = 0) (hf : RFR (R' 1) fr') (hv : ∀ j ∈ [6, 30, 34, 41, 49, 50], v' j = v j) (hR : ∀ j ∈ [3, 4, 6, 7, 14, 22, 23], R' j = R j) : RST A 0 lv' L Q' f k rw_ fr' st' fl' sp sn ik i0 i1 yk yv yR v' R' := by
  obtain ⟨hB, g2, ⟨g3, g4, g5⟩, g6, hp, -, ⟨-, g7, g8, g9⟩, g10, ⟨g11, g12⟩, g13⟩ := h
  have e3 := hR 3 (by decide)
  have e4 := hR 4 (by decide)
  have e6 := hR 6 (by decide)
  have e7 := hR 7 (by decide)
  have e14 := hR 14 (by decide)
  have e22 := hR 22 (by decide)
  have e23 := hR 23 (by decide)
  refine ⟨hK, (hv 30 (by decide)).trans g2, ⟨TA_fr g3 e7, h13, ⟨Int.le_refl _, by decide⟩⟩, ?_, ?_, hf, ⟨hs, h14, (hv 41 (by decide)).trans g8, (hv 6 (by decide)).trans g9⟩, ?_, ⟨RIM_fr g11 e3 e4, RIM_fr g12 e3 e4⟩, RYS_fr g13 (hv 49 (by decide)) (hv 50 (by decide)) e23⟩
  · rw [e6]; exact g6
  · rw [h0, hv 34 (by decide), e14]; exact hp
  · rw [e22]; exact g10
end Rsy
