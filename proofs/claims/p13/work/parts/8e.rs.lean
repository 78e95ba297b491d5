/-! how the reference stands to all that the class keeps -/
def RFR (F fr : Int → Int) : Prop := F 1 = fr 0 ∧ F 2 = fr 1 ∧ F 3 = fr 2 ∧ F 5 = fr 3 ∧ F 6 = fr 4
def RIM (R : Nat → Int → Int) (ik : Int → Int) (e : Int) (i : (Nat → Int) × (Nat → Int → Int) × (Int → im_T)) : Prop := R 4 e = ik e ∧ (ik e = 0 ∨ ik e = 1) ∧ (ik e = 1 → KB (fun j => R 3 (5721 * e + j)) i.1 i.2.1 i.2.2)
def RYS (v : Nat → Int) (R : Nat → Int → Int) (yk : Int) (yv : Nat → Int) (yR : Nat → Int → Int) : Prop := (yk = 0 ∧ v 49 = -1) ∨ (yk = 1 ∧ v 49 = yv 0 ∧ (0 ≤ yv 0 ∧ yv 0 ≤ 10) ∧ v 50 = pl_sum (yR 5) (yv 1).toNat ∧ ∀ p, 0 ≤ p → p < 10 → R 23 (0 + p) = yR 2 p ∧ R 23 (10 + p) = yR 3 p)
/-- lands, tape, past, refusals, what is told (status, fault, stopped, stones), images, the years' end -/
def RST (A : Int → Int) (tn : Int) (lv : Nat → Int) (L : Nat → Int → Int) (Q : Int → im_T) (f k : Int) (rw_ : Int → Int) (fr : Int → Int) (st fl sp sn : Int) (ik : Int → Int) (i0 i1 : (Nat → Int) × (Nat → Int → Int) × (Int → im_T)) (yk : Int) (yv : Nat → Int) (yR : Nat → Int → Int) (v : Nat → Int) (R : Nat → Int → Int) : Prop :=
  KB (R 2) lv L Q ∧ v 30 = 0 ∧ (TA A R ∧ v 13 = tn ∧ (0 ≤ tn ∧ tn ≤ 400)) ∧ WL (R 6) 0 tk_words ∧ PSR (lv 0) (v 34) (R 14) f k rw_ ∧ RFR (R 1) fr ∧ (v 0 = st ∧ v 14 = fl ∧ v 41 = sp ∧ v 6 = sn) ∧ (∀ i, 0 ≤ i → i < 2 → -1000000000 ≤ R 22 i ∧ R 22 i ≤ 1000000000) ∧ (RIM R ik 0 i0 ∧ RIM R ik 1 i1) ∧ RYS v R yk yv yR
section Rst
variable {A : Int → Int} {tn : Int} {lv : Nat → Int} {L : Nat → Int → Int} {Q : Int → im_T} {f k : Int} {rw_ : Int → Int} {fr : Int → Int} {st fl sp sn : Int} {ik : Int → Int} {i0 i1 : (Nat → Int) × (Nat → Int → Int) × (Int → im_T)} {yk : Int} {yv : Nat → Int} {yR : Nat → Int → Int} {v v' : Nat → Int} {R R' : Nat → Int → Int}
theorem RST_TLS (h : RST A tn lv L Q f k rw_ fr st fl sp sn ik i0 i1 yk yv yR v R) : TLS v R lv L (lwf lv Q) := by
  obtain ⟨h1, h2, -⟩ := h
  exact ⟨h1.1, h1.2.1, Int.le_trans h1.2.2.1 (by decide), h1.2.2.2.1, KB_lw h1, Or.inl h2⟩
theorem RIM_fr {e : Int} {i : (Nat → Int) × (Nat → Int → Int) × (Int → im_T)} (h : RIM R ik e i) (h3 : R' 3 = R 3) (h4 : R' 4 = R 4) : RIM R' ik e i := by
  unfold RIM
  rw [h3, h4]
  exact h
theorem RYS_fr (h : RYS v R yk yv yR) (h49 : v' 49 = v 49) (h50 : v' 50 = v 50) (h23 : R' 23 = R 23) : RYS v' R' yk yv yR := by
  unfold RYS
  rw [h49, h50, h23]
  exact h
theorem TA_fr (h : TA A R) (h7 : R' 7 = R 7) : TA A R' := by
  unfold TA
  rw [h7]
  exact h
/-- the same state, other scratch; the land, the past, the refusals and the status given anew -/
theorem RST_up {lv' : Nat → Int} {L' : Nat → Int → Int} {Q' : Int → im_T} {f' k' : Int} {rw' fr' : Int → Int} {st' : Int} (h : RST A tn lv L Q f k rw_ fr st fl sp sn ik i0 i1 yk yv yR v R) (hK : KB (R' 2) lv' L' Q') (hp : PSR (lv' 0) (v' 34) (R' 14) f' k' rw') (hf : RFR (R' 1) fr') (hs : v' 0 = st') (hv : ∀ j ∈ [6, 13, 14, 30, 41, 49, 50], v' j = v j) (hR : ∀ j ∈ [3, 4, 6, 7, 22, 23], R' j = R j) : RST A tn lv' L' Q' f' k' rw' fr' st' fl sp sn ik i0 i1 yk yv yR v' R' := by
  obtain ⟨-, h2, ⟨h3, h4, h5⟩, h6, -, -, ⟨-, h7, h8, h9⟩, h10, ⟨h11, h12⟩, h13⟩ := h
  have e3 := hR 3 (by decide)
  have e4 := hR 4 (by decide)
  have e6 := hR 6 (by decide)
  have e7 := hR 7 (by decide)
  have e22 := hR 22 (by decide)
  have e23 := hR 23 (by decide)
  refine ⟨hK, (hv 30 (by decide)).trans h2, ⟨TA_fr h3 e7, (hv 13 (by decide)).trans h4, h5⟩, ?_, hp, hf, ⟨hs, (hv 14 (by decide)).trans h7, (hv 41 (by decide)).trans h8, (hv 6 (by decide)).trans h9⟩, ?_, ⟨RIM_fr h11 e3 e4, RIM_fr h12 e3 e4⟩, RYS_fr h13 (hv 49 (by decide)) (hv 50 (by decide)) e23⟩
  · rw [e6]; exact h6
  · rw [e22]; exact h10
/-- what a refusal, or none, leaves of the counts -/
theorem RFR_x {x : Int} (hx : -6 ≤ x) (h : RFR (R 1) fr) : RFR (if x < 0 then kp_ref x R 1 else R 1) (cw_fr x fr) := by
  obtain ⟨h1, h2, h3, h5, h6⟩ := h
  have hk : 0 ≤ x ∨ x = -1 ∨ x = -2 ∨ x = -3 ∨ x = -4 ∨ x = -5 ∨ x = -6 := by omega
  rcases hk with hk | rfl | rfl | rfl | rfl | rfl | rfl
  · rw [if_neg (by omega)]
    have e : cw_fr x fr = fr := by
      unfold cw_fr
      rw [if_neg (by omega), if_neg (by omega), if_neg (by omega), if_neg (by omega), if_neg (by omega)]
    rw [e]
    exact ⟨h1, h2, h3, h5, h6⟩
  · exact ⟨congrArg (· + 1) h1, h2, h3, h5, h6⟩
  · exact ⟨h1, congrArg (· + 1) h2, h3, h5, h6⟩
  · exact ⟨h1, h2, congrArg (· + 1) h3, h5, h6⟩
  · exact ⟨h1, h2, h3, h5, h6⟩
  · exact ⟨h1, h2, h3, congrArg (· + 1) h5, h6⟩
  · exact ⟨h1, h2, h3, h5, congrArg (· + 1) h6⟩
/-- a call that only tells -/
theorem RST_q (h : RST A tn lv L Q f k rw_ fr st fl sp sn ik i0 i1 yk yv yR v R) (h2 : ∀ i, 0 ≤ i → i < 5721 → R' 2 i = R 2 i) (hv : ∀ j ∈ [0, 6, 13, 14, 30, 34, 41, 49, 50], v' j = v j) (hR : ∀ j ∈ [1, 3, 4, 6, 7, 14, 22, 23], R' j = R j) : RST A tn lv L Q f k rw_ fr st fl sp sn ik i0 i1 yk yv yR v' R' := by
  have hp := h.2.2.2.2.1
  have hf := h.2.2.2.2.2.1
  have hs := h.2.2.2.2.2.2.1.1
  refine RST_up h (KB_eq h.1 h2) ?_ ?_ ((hv 0 (by decide)).trans hs) (fun j hj => hv j ?_) (fun j hj => hR j ?_)
  · rw [hv 34 (by decide), hR 14 (by decide)]; exact hp
  · rw [hR 1 (by decide)]; exact hf
  · simp only [List.mem_cons, List.not_mem_nil, or_false] at hj ⊢; omega
  · simp only [List.mem_cons, List.not_mem_nil, or_false] at hj ⊢; omega
/-- an act as it is called -/
theorem RST_act {lw : Option im_T} {K a b n : Int} (h : RST A tn lv L Q f k rw_ fr st fl sp sn ik i0 i1 yk yv yR v R) (hlw : lw = lwf lv Q) (hK : 0 ≤ K ∧ K ≤ 3) (hx : -6 ≤ (pl_act lw K a b n lv L).1) (hno : (pl_act lw K a b n lv L).1 < 0 → (pl_act lw K a b n lv L).2 = (lv, L)) (hv : ∀ j ∈ [6, 13, 14, 30, 41, 49, 50], v' j = v j) (hR : ∀ j ∈ [3, 4, 6, 7, 22, 23], R' j = R j) (h0 : v' 0 = (if (pl_act lw K a b n lv L).1 < 0 then (pl_act lw K a b n lv L).1 else 0)) (h1 : R' 1 = (if (pl_act lw K a b n lv L).1 < 0 then kp_ref (pl_act lw K a b n lv L).1 R 1 else R 1))
    (hc : ((pl_act lw K a b n lv L).1 < 0 ∧ R' 2 = R 2 ∧ v' 34 = v 34 ∧ R' 14 = R 14) ∨ (0 ≤ (pl_act lw K a b n lv L).1 ∧ v' 34 = kp_un v + 1 ∧ R' 14 = kp_keep K v R ∧ KR (R' 2) (pl_act lw K a b n lv L).2.1 (pl_act lw K a b n lv L).2.2 ∧ KFr (R 2) (R' 2))) :
    ((pl_act lw K a b n lv L).1 < 0 → RST A tn (pl_act lw K a b n lv L).2.1 (pl_act lw K a b n lv L).2.2 Q f k (pt_note (pt_at f k) K lv L rw_) (cw_fr (pl_act lw K a b n lv L).1 fr) (if (pl_act lw K a b n lv L).1 < 0 then (pl_act lw K a b n lv L).1 else 0) fl sp sn ik i0 i1 yk yv yR v' R') ∧ (0 ≤ (pl_act lw K a b n lv L).1 → RST A tn (pl_act lw K a b n lv L).2.1 (pl_act lw K a b n lv L).2.2 Q (pt_keep f k).1 (pt_keep f k).2 (pt_note (pt_at f k) K lv L rw_) (cw_fr (pl_act lw K a b n lv L).1 fr) (if (pl_act lw K a b n lv L).1 < 0 then (pl_act lw K a b n lv L).1 else 0) fl sp sn ik i0 i1 yk yv yR v' R') := by
  have hf : RFR (R' 1) (cw_fr (pl_act lw K a b n lv L).1 fr) := by
    rw [h1]
    exact RFR_x hx h.2.2.2.2.2.1
  have hp := h.2.2.2.2.1
  have hB := h.1
  refine ⟨fun hn => ?_, fun hn => ?_⟩
  · rcases hc with ⟨-, e2, e34, e14⟩ | ⟨hz, -⟩
    · rw [hno hn]
      refine RST_up h ?_ ?_ hf h0 hv hR
      · rw [e2]; exact hB
      · rw [e34, e14]
        exact PSR_noted hp K lv L
    · omega
  · rcases hc with ⟨hz, -⟩ | ⟨-, e34, e14, hr, hfr⟩
    · omega
    · have h7 := pl_act_7 lw hB.2.1 hB.2.2.1 K a b n
      refine RST_up h (KB_act hB hr (LOK_act lw hB.2.1 K a b n) h7.1 hfr) ?_ hf h0 hv hR
      rw [e34, e14, pl_act_0 lw hB.2.1]
      exact PSR_keep hB.1 hB.2.1 hB.2.2.1 hK hp rfl
end Rst
