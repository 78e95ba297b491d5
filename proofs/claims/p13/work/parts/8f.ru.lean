/-! the relation kept by the short calls -/
theorem cw_fr_nn {x : Int} (hx : 0 ≤ x) (fr : Int → Int) : cw_fr x fr = fr := by
  unfold cw_fr
  rw [if_neg (by omega), if_neg (by omega), if_neg (by omega), if_neg (by omega), if_neg (by omega)]
section Rsu
variable {A : Int → Int} {tn : Int} {lv : Nat → Int} {L : Nat → Int → Int} {Q : Int → im_T} {f k : Int} {rw_ : Int → Int} {fr : Int → Int} {st fl sp sn : Int} {ik : Int → Int} {i0 i1 : (Nat → Int) × (Nat → Int → Int) × (Int → im_T)} {yk : Int} {yv : Nat → Int} {yR : Nat → Int → Int} {v v' : Nat → Int} {R R' : Nat → Int → Int} {lv' : Nat → Int} {L' : Nat → Int → Int} {Q' : Int → im_T} {K' : Int → Int}
theorem RST_refu (h : RST A tn lv L Q f k rw_ fr st fl sp sn ik i0 i1 yk yv yR v R) {x : Int} (hx : -6 ≤ x ∧ x < 0) : RST A tn lv L Q f k rw_ (cw_fr x fr) x fl sp sn ik i0 i1 yk yv yR (pl_U v 0 x) (kp_ref x R) := by
  have t := RFR_x hx.1 h.2.2.2.2.2.1
  rw [if_pos hx.2] at t
  exact RST_up h h.1 h.2.2.2.2.1 t rfl (fun j hj => if_neg (by simp only [List.mem_cons, List.not_mem_nil, or_false] at hj; omega)) (fun j hj => if_neg (by simp only [List.mem_cons, List.not_mem_nil, or_false] at hj; omega))
/-- the land alone changes -/
theorem RST_num (h : RST A tn lv L Q f k rw_ fr st fl sp sn ik i0 i1 yk yv yR v R) (hK : KB K' lv' L' Q') (h0 : lv' 0 = lv 0) : RST A tn lv' L' Q' f k rw_ fr 0 fl sp sn ik i0 i1 yk yv yR (pl_U v 0 0) (pl_U R 2 K') := by
  have hp := h.2.2.2.2.1
  rw [← h0] at hp
  exact RST_up h hK hp h.2.2.2.2.2.1 rfl (fun j hj => if_neg (by simp only [List.mem_cons, List.not_mem_nil, or_false] at hj; omega)) (fun j hj => if_neg (by simp only [List.mem_cons, List.not_mem_nil, or_false] at hj; omega))
theorem RST_num0 (h : RST A tn lv L Q f k rw_ fr st fl sp sn ik i0 i1 yk yv yR v R) (hK : KB K' lv' L' Q') (h0 : lv' 0 = lv 0) : RST A tn lv' L' Q' f k rw_ fr st fl sp sn ik i0 i1 yk yv yR v (pl_U R 2 K') := by
  have hp := h.2.2.2.2.1
  rw [← h0] at hp
  exact RST_up h hK hp h.2.2.2.2.2.1 h.2.2.2.2.2.2.1.1 (fun j hj => rfl) (fun j hj => if_neg (by simp only [List.mem_cons, List.not_mem_nil, or_false] at hj; omega))
/-- the land changes, nothing can be undone -/
theorem RST_set (h : RST A tn lv L Q f k rw_ fr st fl sp sn ik i0 i1 yk yv yR v R) (hK : KB K' lv' L' Q') : RST A tn lv' L' Q' f 0 rw_ fr 0 fl sp sn ik i0 i1 yk yv yR (pl_U (pl_U v 34 0) 0 0) (pl_U R 2 K') := by
  have hf := h.2.2.2.2.1.1.1
  refine RST_up h hK (PSR_0 _ _ hf _) h.2.2.2.2.2.1 rfl (fun j hj => ?_) (fun j hj => if_neg (by simp only [List.mem_cons, List.not_mem_nil, or_false] at hj; omega))
  simp only [List.mem_cons, List.not_mem_nil, or_false] at hj
  unfold pl_U
  rw [if_neg (by omega), if_neg (by omega)]
theorem RST_hear (h : RST A tn lv L Q f k rw_ fr st fl sp sn ik i0 i1 yk yv yR v R) (hr : lv 3 < 8) {p o : Int} (hp : 0 ≤ p ∧ p < lv 0) (ho : 0 ≤ o ∧ o ≤ 98) : RST A tn (pl_U lv 3 (lv 3 + 1)) (pl_U (pl_U L 8 (im_up (L 8) (lv 3) p)) 9 (im_up (L 9) (lv 3) o)) Q f k rw_ fr 0 fl sp sn ik i0 i1 yk yv yR (pl_U v 0 0) (pl_U R 2 (kp_hear p o (R 2))) := RST_num h (KB_hear h.1 hr hp ho) rfl
theorem RST_forget (h : RST A tn lv L Q f k rw_ fr st fl sp sn ik i0 i1 yk yv yR v R) : RST A tn (pl_U lv 3 0) L Q f k rw_ fr st fl sp sn ik i0 i1 yk yv yR v (pl_U R 2 (im_up (R 2) 111 0)) := RST_num0 h (KB_forget h.1) rfl
theorem RST_force (h : RST A tn lv L Q f k rw_ fr st fl sp sn ik i0 i1 yk yv yR v R) {n : Int} (hn : -1 ≤ n ∧ n < lv 4) : RST A tn (pl_U lv 5 n) L Q f k rw_ fr 0 fl sp sn ik i0 i1 yk yv yR (pl_U v 0 0) (pl_U R 2 (im_up (R 2) 113 n)) := RST_num h (KB_force h.1 hn) rfl
theorem RST_terms (h : RST A tn lv L Q f k rw_ fr st fl sp sn ik i0 i1 yk yv yR v R) {t x : Int} (ht : ti_ok t x = true) : R 2 (ti_at t) = L 7 t ∧ RST A tn lv (pl_U L 7 (im_up (L 7) t x)) Q f 0 rw_ fr 0 fl sp sn ik i0 i1 yk yv yR (pl_U (pl_U v 34 0) 0 0) (pl_U R 2 (im_up (R 2) (ti_at t) x)) := ⟨(KB_terms h.1 ht).1, RST_set h (KB_terms h.1 ht).2⟩
/-- an image brought back -/
theorem RST_back (h : RST A tn lv L Q f k rw_ fr st fl sp sn ik i0 i1 yk yv yR v R) {e : Int} {i : (Nat → Int) × (Nat → Int → Int) × (Int → im_T)} (hi : RIM R ik e i) (h1 : ik e = 1) : RST A tn i.1 i.2.1 i.2.2 f 0 rw_ fr 0 fl sp sn ik i0 i1 yk yv yR (pl_U (pl_U v 34 0) 0 0) (pl_U R 2 (im_cpy (R 3) (R 2) (5721 * e) 0 5721)) := by
  refine RST_set h (KB_eq (hi.2.2 h1) (fun j a b => ?_))
  unfold im_cpy
  rw [if_pos (by omega)]
  congr 1
  omega
/-- an image taken -/
theorem RIM_take {e : Int} (he : e = 0 ∨ e = 1) (hB : KB (R 2) lv L Q) : RIM (pl_U (pl_U R 3 (im_cpy (R 2) (R 3) 0 (5721 * e) 5721)) 4 (im_up (R 4) e 1)) (im_up ik e 1) e (lv, L, Q) := by
  refine ⟨?_, ?_, fun _ => ?_⟩
  · show im_up (R 4) e 1 e = im_up ik e 1 e
    rw [im_up_self, im_up_self]
  · exact Or.inr (im_up_self _ _ _)
  · refine KB_eq hB (fun j a b => ?_)
    show im_cpy (R 2) (R 3) 0 (5721 * e) 5721 (5721 * e + j) = R 2 j
    unfold im_cpy
    rw [if_pos (by omega)]
    congr 1
    omega
theorem RIM_oth {e e2 : Int} (he : (e = 0 ∧ e2 = 1) ∨ (e = 1 ∧ e2 = 0)) {i : (Nat → Int) × (Nat → Int → Int) × (Int → im_T)} (h : RIM R ik e2 i) : RIM (pl_U (pl_U R 3 (im_cpy (R 2) (R 3) 0 (5721 * e) 5721)) 4 (im_up (R 4) e 1)) (im_up ik e 1) e2 i := by
  obtain ⟨h1, h2, h3⟩ := h
  have hn : im_up ik e 1 e2 = ik e2 := im_up_ne _ _ (by omega)
  refine ⟨?_, ?_, fun hz => ?_⟩
  · show im_up (R 4) e 1 e2 = im_up ik e 1 e2
    rw [hn, im_up_ne _ _ (by omega)]
    exact h1
  · rw [hn]; exact h2
  · rw [hn] at hz
    refine KB_eq (h3 hz) (fun j a b => ?_)
    show im_cpy (R 2) (R 3) 0 (5721 * e) 5721 (5721 * e2 + j) = R 3 (5721 * e2 + j)
    unfold im_cpy
    rw [if_neg (by omega)]
theorem RST_img (h : RST A tn lv L Q f k rw_ fr st fl sp sn ik i0 i1 yk yv yR v R) {e : Int} (he : e = 0 ∨ e = 1) : RST A tn lv L Q f k rw_ fr 0 fl sp sn (im_up ik e 1) (if e = 0 then (lv, L, Q) else i0) (if e = 0 then i1 else (lv, L, Q)) yk yv yR (pl_U v 0 0) (pl_U (pl_U R 3 (im_cpy (R 2) (R 3) 0 (5721 * e) 5721)) 4 (im_up (R 4) e 1)) := by
  obtain ⟨hB, h2, h3, h6, hp, hf, ⟨-, h7, h8, h9⟩, h10, ⟨h11, h12⟩, h13⟩ := h
  refine ⟨hB, h2, h3, h6, hp, hf, ⟨rfl, h7, h8, h9⟩, h10, ?_, h13⟩
  rcases he with rfl | rfl
  · rw [if_pos rfl, if_pos rfl]
    exact ⟨RIM_take (Or.inl rfl) hB, RIM_oth (Or.inl ⟨rfl, rfl⟩) h12⟩
  · rw [if_neg (by decide), if_neg (by decide)]
    exact ⟨RIM_oth (Or.inr ⟨rfl, rfl⟩) h11, RIM_take (Or.inr rfl) hB⟩
/-- an act undone -/
theorem RST_undo (h : RST A tn lv L Q f k rw_ fr st fl sp sn ik i0 i1 yk yv yR v R) (h0 : 0 < k) : (R 14 (72 * (v 34 - 1) + 71) = rw_ (pt_at f (k - 1) + 10 + 10 + 16 + 16 + 16 + 3) ∧ (0 ≤ R 14 (72 * (v 34 - 1) + 71) ∧ R 14 (72 * (v 34 - 1) + 71) ≤ 3)) ∧ RST A tn (pt_backv (pt_at f (k - 1)) rw_ lv) (pt_backR (pt_at f (k - 1)) rw_ L) Q f (k - 1) rw_ fr 0 fl sp sn ik i0 i1 yk yv yR (pl_U (pl_U v 34 (v 34 - 1)) 0 0) (pl_U R 2 (im_cpy (R 14) (R 2) (72 * (v 34 - 1)) 0 71)) := by
  have hp := h.2.2.2.2.1
  have e34 : v 34 = k := hp.1.2.2
  obtain ⟨u1, u2, u3, u4, u5, u6⟩ := PSR_undo h.1.1 h.1.2.1 hp h0
  rw [e34]
  refine ⟨⟨u4, u5⟩, RST_up h (KB_act h.1 u1 u2 u3 (fun i hi => ?_)) u6 h.2.2.2.2.2.1 rfl (fun j hj => ?_) (fun j hj => if_neg (by simp only [List.mem_cons, List.not_mem_nil, or_false] at hj; omega))⟩
  · show im_cpy (R 14) (R 2) (72 * (k - 1)) 0 71 i = R 2 i
    unfold im_cpy
    rw [if_neg (by omega)]
  · simp only [List.mem_cons, List.not_mem_nil, or_false] at hj
    unfold pl_U
    rw [if_neg (by omega), if_neg (by omega)]
end Rsu
