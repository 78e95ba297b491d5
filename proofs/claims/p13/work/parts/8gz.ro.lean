/-! orders in the relation -/
theorem PSR_same {n u : Int} {S S' : Int → Int} {f k : Int} {rw_ : Int → Int} (h : PSR n u S f k rw_) (hS : ∀ i, 0 ≤ i → i < 1152 → S' i = S i) : PSR n u S' f k rw_ := by
  obtain ⟨⟨h1, h2, h3⟩, h4⟩ := h
  refine ⟨⟨h1, h2, h3⟩, fun e q1 q2 => MP_same (h4 e q1 q2) (fun i r1 r2 => ?_) (fun _ _ _ => rfl)⟩
  show S' (72 * e + i) = S (72 * e + i)
  exact hS _ (by omega) (by omega)
theorem KB_txf {K K' : Int → Int} {lv lv' : Nat → Int} {L L' : Nat → Int → Int} {Q : Int → im_T} (h : KB K lv L Q) (hr : KR K' lv' L') (hlo : LOK lv' L') (hd : L' 7 0 ≤ 999) (hf : TXF K K') : KB K' lv' L' Q := by
  obtain ⟨g1, g2, g3, g4⟩ := hf
  have e1 := h.1.1.2.2.2.2.1
  have e2 := hr.1.2.2.2.2.1
  have e4 : lv' 4 = lv 4 := by
    rw [← e1, ← e2]
    exact g1 112 (by decide) (by decide)
  refine ⟨hr, hlo, hd, g4, fun t a b => ?_⟩
  exact KLW_fr6 h.2.2.2.1 (h.2.2.2.2 t a (by omega)) (fun s q1 q2 => g1 _ (by omega) (by omega)) g2 g3
section Rso
variable {A : Int → Int} {tn : Int} {lv : Nat → Int} {L : Nat → Int → Int} {Q : Int → im_T} {f k : Int} {rw_ : Int → Int} {fr : Int → Int} {st fl sp sn : Int} {ik : Int → Int} {i0 i1 : (Nat → Int) × (Nat → Int → Int) × (Int → im_T)} {yk : Int} {yv : Nat → Int} {yR : Nat → Int → Int} {v v' : Nat → Int} {R R' : Nat → Int → Int}
theorem RST_ord {lv' : Nat → Int} {L' : Nat → Int → Int} {f' k' : Int} {rw' fr' : Int → Int} {st' fl' sp' : Int} (h : RST A tn lv L Q f k rw_ fr st fl sp sn ik i0 i1 yk yv yR v R) (hK : KB (R' 2) lv' L' Q) (hp : PSR (lv' 0) (v' 34) (R' 14) f' k' rw') (hs : v' 0 = st') (h13 : v' 13 = 0) (h14 : v' 14 = fl') (h41 : v' 41 = sp') (hf : RFR (R' 1) fr') (h22 : ∀ i, 0 ≤ i → i < 2 → -1000000000 ≤ R' 22 i ∧ R' 22 i ≤ 1000000000) (hO : OF v R v' R') : RST A 0 lv' L' Q f' k' rw' fr' st' fl' sp' sn ik i0 i1 yk yv yR v' R' := by
  obtain ⟨hB, g2, ⟨g3, g4, g5⟩, g6, -, -, ⟨-, g7, g8, g9⟩, g10, ⟨g11, g12⟩, g13⟩ := h
  obtain ⟨hv, hR⟩ := hO
  have e3 := hR 3 (by decide)
  have e4 := hR 4 (by decide)
  have e6 := hR 6 (by decide)
  have e7 := hR 7 (by decide)
  have e23 := hR 23 (by decide)
  refine ⟨hK, (hv 30 (by decide)).trans g2, ⟨TA_fr g3 e7, h13, ⟨Int.le_refl _, by decide⟩⟩, ?_, hp, hf, ⟨hs, h14, h41, (hv 6 (by decide)).trans g9⟩, h22, ⟨RIM_fr g11 e3 e4, RIM_fr g12 e3 e4⟩, RYS_fr g13 (hv 49 (by decide)) (hv 50 (by decide)) e23⟩
  rw [e6]; exact g6
/-- the three ends of orders() -/
theorem RST_ords {lw : Option im_T} {a fl' : Int} {rs : Int ⊕ List dC} (h : RST A tn lv L Q f k rw_ fr st fl sp sn ik i0 i1 yk yv yR v R) (hO : OF v R v' R') (h13 : v' 13 = 0) (h14 : v' 14 = fl') (h0 : v' 0 = (if a < 0 then a else 0)) (h1 : R' 1 = (if a < 0 then kp_ref a R 1 else R 1)) (ht : TXF (R 2) (R' 2)) (h22 : ∀ i, 0 ≤ i → i < 2 → -1000000000 ≤ R' 22 i ∧ R' 22 i ≤ 1000000000) (ha : -6 ≤ a)
    (hz : ∀ Cq, rs = .inr Cq → (rn_c lw Cq 0 ((lv, L, (-1, 0), (f, k), rw_) : ru_S)).1 = none → LOK (rn_c lw Cq 0 ((lv, L, (-1, 0), (f, k), rw_) : ru_S)).2.1 (rn_c lw Cq 0 ((lv, L, (-1, 0), (f, k), rw_) : ru_S)).2.2.1 ∧ (rn_c lw Cq 0 ((lv, L, (-1, 0), (f, k), rw_) : ru_S)).2.2.1 7 0 ≤ 999 ∧ (rn_c lw Cq 0 ((lv, L, (-1, 0), (f, k), rw_) : ru_S)).2.1 0 = lv 0)
    (hc : (∃ fq, rs = .inl fq ∧ a = -6 ∧ v' 41 = -1 ∧ v' 34 = v 34 ∧ R' 14 = R 14 ∧ KR (R' 2) lv L) ∨ (∃ Cq c, rs = .inr Cq ∧ (rn_c lw Cq 0 ((lv, L, (-1, 0), (f, k), rw_) : ru_S)).1 = some c ∧ a = -3 ∧ v' 41 = c ∧ v' 34 = v 34 ∧ (∀ i, 0 ≤ i → i < 1152 → R' 14 i = R 14 i) ∧ KR (R' 2) lv L) ∨ (∃ Cq, rs = .inr Cq ∧ (rn_c lw Cq 0 ((lv, L, (-1, 0), (f, k), rw_) : ru_S)).1 = none ∧ a = (rn_c lw Cq 0 ((lv, L, (-1, 0), (f, k), rw_) : ru_S)).2.2.2.1.2 ∧ v' 41 = -1 ∧ KR (R' 2) (rn_c lw Cq 0 ((lv, L, (-1, 0), (f, k), rw_) : ru_S)).2.1 (rn_c lw Cq 0 ((lv, L, (-1, 0), (f, k), rw_) : ru_S)).2.2.1 ∧ PSR (lv 0) (v' 34) (R' 14) (rn_c lw Cq 0 ((lv, L, (-1, 0), (f, k), rw_) : ru_S)).2.2.2.2.1.1 (rn_c lw Cq 0 ((lv, L, (-1, 0), (f, k), rw_) : ru_S)).2.2.2.2.1.2 (rn_c lw Cq 0 ((lv, L, (-1, 0), (f, k), rw_) : ru_S)).2.2.2.2.2)) :
    (∀ fq, rs = .inl fq → a = -6 ∧ RST A 0 lv L Q f k rw_ (cw_fr (-6) fr) (-6) fl' (-1) sn ik i0 i1 yk yv yR v' R') ∧ ∀ Cq, rs = .inr Cq → (∀ c, (rn_c lw Cq 0 ((lv, L, (-1, 0), (f, k), rw_) : ru_S)).1 = some c → a = -3 ∧ RST A 0 lv L Q f k rw_ (cw_fr (-3) fr) (-3) fl' c sn ik i0 i1 yk yv yR v' R') ∧ ((rn_c lw Cq 0 ((lv, L, (-1, 0), (f, k), rw_) : ru_S)).1 = none → a = (rn_c lw Cq 0 ((lv, L, (-1, 0), (f, k), rw_) : ru_S)).2.2.2.1.2 ∧ RST A 0 (rn_c lw Cq 0 ((lv, L, (-1, 0), (f, k), rw_) : ru_S)).2.1 (rn_c lw Cq 0 ((lv, L, (-1, 0), (f, k), rw_) : ru_S)).2.2.1 Q (rn_c lw Cq 0 ((lv, L, (-1, 0), (f, k), rw_) : ru_S)).2.2.2.2.1.1 (rn_c lw Cq 0 ((lv, L, (-1, 0), (f, k), rw_) : ru_S)).2.2.2.2.1.2 (rn_c lw Cq 0 ((lv, L, (-1, 0), (f, k), rw_) : ru_S)).2.2.2.2.2 (cw_fr a fr) (if a < 0 then a else 0) fl' (-1) sn ik i0 i1 yk yv yR v' R') := by
  have hf : RFR (R' 1) (cw_fr a fr) := by
    rw [h1]
    exact RFR_x ha h.2.2.2.2.2.1
  have hp := h.2.2.2.2.1
  have hB := h.1
  refine ⟨fun fq hq => ?_, fun Cq hq => ⟨fun c hcc => ?_, fun hcc => ?_⟩⟩
  · rcases hc with ⟨fq2, e1, rfl, e3, e4, e5, e6⟩ | ⟨Cq, c, e1, -⟩ | ⟨Cq, e1, -⟩
    · refine ⟨rfl, RST_ord h (KB_txf hB e6 hB.2.1 hB.2.2.1 ht) ?_ h0 h13 h14 e3 hf h22 hO⟩
      rw [e4, e5]; exact hp
    · rw [hq] at e1; cases e1
    · rw [hq] at e1; cases e1
  · rcases hc with ⟨fq2, e1, -⟩ | ⟨Cq2, c2, e1, e2, rfl, e3, e4, e5, e6⟩ | ⟨Cq2, e1, e2, -⟩
    · rw [hq] at e1; cases e1
    · rw [hq] at e1; cases e1
      rw [hcc] at e2; cases e2
      refine ⟨rfl, RST_ord h (KB_txf hB e6 hB.2.1 hB.2.2.1 ht) ?_ h0 h13 h14 e3 hf h22 hO⟩
      rw [e4]; exact PSR_same hp e5
    · rw [hq] at e1; cases e1
      rw [hcc] at e2; cases e2
  · rcases hc with ⟨fq2, e1, -⟩ | ⟨Cq2, c2, e1, e2, -⟩ | ⟨Cq2, e1, e2, e3, e4, e5, e6⟩
    · rw [hq] at e1; cases e1
    · rw [hq] at e1; cases e1
      rw [hcc] at e2; cases e2
    · rw [hq] at e1; cases e1
      obtain ⟨z1, z2, z3⟩ := hz Cq hq hcc
      refine ⟨e3, RST_ord h (KB_txf hB e5 z1 z2 ht) ?_ h0 h13 h14 e4 hf h22 hO⟩
      rw [z3]; exact e6
end Rso
