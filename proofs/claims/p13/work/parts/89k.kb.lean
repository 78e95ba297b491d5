/-! how the reference stands to the class's state -/
/-- a land with its laws -/
def KB (K : Int → Int) (lv : Nat → Int) (L : Nat → Int → Int) (Q : Int → im_T) : Prop := KR K lv L ∧ LOK lv L ∧ L 7 0 ≤ 999 ∧ KT K ∧ ∀ t, 0 ≤ t → t < lv 4 → KLW K t (some (Q t))
theorem KT_eq {K K' : Int → Int} (h : KT K) (hf : ∀ i, 114 ≤ i → i < 5721 → K' i = K i) : KT K' := by
  refine ⟨fun i a b => ?_, fun i a b => ?_, fun t a b => ?_⟩
  · rw [hf _ (by omega) (by omega)]; exact h.1 i a b
  · rw [hf _ (by omega) (by omega)]; exact h.2.1 i a b
  · rw [hf _ (by omega) (by omega)]; exact h.2.2 t a b
/-- the numbers may change, the texts not -/
theorem KB_num {K K' : Int → Int} {lv lv' : Nat → Int} {L L' : Nat → Int → Int} {Q : Int → im_T} (h : KB K lv L Q) (hr : KR K' lv' L') (hlo : LOK lv' L') (hd : L' 7 0 ≤ 999) (h4 : lv' 4 = lv 4) (hf : ∀ i, 114 ≤ i → i < 5721 → K' i = K i) : KB K' lv' L' Q := by
  obtain ⟨-, -, -, hk, hq⟩ := h
  refine ⟨hr, hlo, hd, KT_eq hk hf, fun t a b => ?_⟩
  exact KLW_fr6 hk (hq t a (by omega)) (fun s q1 q2 => hf _ (by omega) (by omega)) (fun i q1 q2 => hf _ (by omega) (by omega)) (fun i q1 q2 => hf _ (by omega) (by omega))
theorem KB_eq {K K' : Int → Int} {lv : Nat → Int} {L : Nat → Int → Int} {Q : Int → im_T} (h : KB K lv L Q) (hf : ∀ i, 0 ≤ i → i < 5721 → K' i = K i) : KB K' lv L Q := KB_num h (KR_low h.1 h.2.1 (fun i a b => hf i b (by omega))) h.2.1 h.2.2.1 rfl (fun i a b => hf i (by omega) b)
/-- an act on a land -/
theorem KB_act {K K' : Int → Int} {lv lv' : Nat → Int} {L L' : Nat → Int → Int} {Q : Int → im_T} (h : KB K lv L Q) (hr : KR K' lv' L') (hlo : LOK lv' L') (hd : L' 7 0 ≤ 999) (hf : KFr K K') : KB K' lv' L' Q := by
  refine KB_num h hr hlo hd ?_ (fun i a b => hf i (by omega))
  have e1 := h.1.1.2.2.2.2.1
  have e2 := hr.1.2.2.2.2.1
  rw [← e1, ← e2]
  exact hf 112 (by decide)
def lwf (lv : Nat → Int) (Q : Int → im_T) : Option im_T := if lv 5 < 0 then none else some (Q (lv 5))
theorem KB_lw {K : Int → Int} {lv : Nat → Int} {L : Nat → Int → Int} {Q : Int → im_T} (h : KB K lv L Q) : KLW K (lv 5) (lwf lv Q) := by
  have hf := lk_for h.2.1
  unfold lwf
  by_cases c : lv 5 < 0
  · rw [if_pos c]
    exact Or.inl ⟨by omega, rfl⟩
  · rw [if_neg c]
    exact h.2.2.2.2 _ (by omega) hf.2
theorem LOK_hear {lv : Nat → Int} {L : Nat → Int → Int} (h : LOK lv L) (hr : lv 3 < 8) {p o : Int} (hp : 0 ≤ p ∧ p < lv 0) (ho : 0 ≤ o ∧ o ≤ 98) : LOK (pl_U lv 3 (lv 3 + 1)) (pl_U (pl_U L 8 (im_up (L 8) (lv 3) p)) 9 (im_up (L 9) (lv 3) o)) := by
  obtain ⟨a0, a1, a2, a3, a4, a5, b0, b1, b2, b3, b4, b5, b6, b7, b8, b9, c1, c2, c3⟩ := h
  have h8 : ∀ i, 0 ≤ im_up (L 8) (lv 3) p i ∧ im_up (L 8) (lv 3) p i ≤ 9 := fun i => by
    unfold im_up
    split
    · omega
    · exact b8 i
  have h9 : ∀ i, 0 ≤ im_up (L 9) (lv 3) o i ∧ im_up (L 9) (lv 3) o i ≤ 98 := fun i => by
    unfold im_up
    split
    · omega
    · exact b9 i
  refine ⟨a0, a1, a2, ?_, a4, a5, b0, b1, b2, b3, b4, b5, b6, b7, h8, h9, c1, c2, fun i q1 q2 => ?_⟩
  · show 0 ≤ lv 3 + 1 ∧ lv 3 + 1 ≤ 8
    omega
  · have q3 : i < lv 3 + 1 := q2
    show im_up (L 8) (lv 3) p i < lv 0
    unfold im_up
    split
    · exact hp.2
    · exact c3 i q1 (by omega)
theorem LOK_forget {lv : Nat → Int} {L : Nat → Int → Int} (h : LOK lv L) : LOK (pl_U lv 3 0) L := by
  obtain ⟨a0, a1, a2, a3, a4, a5, b0, b1, b2, b3, b4, b5, b6, b7, b8, b9, c1, c2, c3⟩ := h
  refine ⟨a0, a1, a2, ⟨Int.le_refl _, (show (0 : Int) ≤ 8 by decide)⟩, a4, a5, b0, b1, b2, b3, b4, b5, b6, b7, b8, b9, c1, c2, fun i q1 q2 => ?_⟩
  have q3 : i < 0 := q2
  omega
theorem LOK_force {lv : Nat → Int} {L : Nat → Int → Int} (h : LOK lv L) {n : Int} (hn : -1 ≤ n ∧ n < lv 4) : LOK (pl_U lv 5 n) L := by
  obtain ⟨a0, a1, a2, a3, a4, a5, b0, b1, b2, b3, b4, b5, b6, b7, b8, b9, c1, c2, c3⟩ := h
  exact ⟨a0, a1, a2, a3, a4, hn, b0, b1, b2, b3, b4, b5, b6, b7, b8, b9, c1, c2, c3⟩
theorem LOK_terms {lv : Nat → Int} {L : Nat → Int → Int} (h : LOK lv L) {t x : Int} (ht : ti_ok t x = true) : LOK lv (pl_U L 7 (im_up (L 7) t x)) := by
  obtain ⟨a0, a1, a2, a3, a4, a5, b0, b1, b2, b3, b4, b5, b6, b7, b8, b9, c1, c2, c3⟩ := h
  refine ⟨a0, a1, a2, a3, a4, a5, b0, b1, b2, b3, b4, b5, b6, ?_, b8, b9, c1, c2, c3⟩
  have hx : (t = 0 ∧ 0 ≤ x ∧ x ≤ 999) ∨ (t = 1 ∧ 2 ≤ x ∧ x ≤ 99) ∨ (t = 2 ∧ 0 ≤ x ∧ x ≤ 10) ∨ (t = 3 ∧ 0 ≤ x ∧ x ≤ 9) := of_decide_eq_true ht
  show 0 ≤ im_up (L 7) t x 0 ∧ 2 ≤ im_up (L 7) t x 1 ∧ im_up (L 7) t x 1 ≤ 99 ∧ 0 ≤ im_up (L 7) t x 2 ∧ im_up (L 7) t x 2 ≤ 10 ∧ 0 ≤ im_up (L 7) t x 3 ∧ im_up (L 7) t x 3 ≤ 9
  unfold im_up
  rcases hx with ⟨rfl, q1, q2⟩ | ⟨rfl, q1, q2⟩ | ⟨rfl, q1, q2⟩ | ⟨rfl, q1, q2⟩
  · rw [if_pos rfl, if_neg (by decide), if_neg (by decide), if_neg (by decide)]
    omega
  · rw [if_neg (by decide), if_pos rfl, if_neg (by decide), if_neg (by decide)]
    omega
  · rw [if_neg (by decide), if_neg (by decide), if_pos rfl, if_neg (by decide)]
    omega
  · rw [if_neg (by decide), if_neg (by decide), if_neg (by decide), if_pos rfl]
    omega
/-- lands with laws through the short calls -/
theorem KB_hear {K : Int → Int} {lv : Nat → Int} {L : Nat → Int → Int} {Q : Int → im_T} (h : KB K lv L Q) (hr : lv 3 < 8) {p o : Int} (hp : 0 ≤ p ∧ p < lv 0) (ho : 0 ≤ o ∧ o ≤ 98) : KB (kp_hear p o K) (pl_U lv 3 (lv 3 + 1)) (pl_U (pl_U L 8 (im_up (L 8) (lv 3) p)) 9 (im_up (L 9) (lv 3) o)) Q := by
  have h111 : K 111 = lv 3 := h.1.1.2.2.2.1
  have hh := lk_hrd h.2.1
  refine KB_num h (KR_hear h.1 h.2.1 hr p o) (LOK_hear h.2.1 hr hp ho) h.2.2.1 rfl (fun i a b => ?_)
  unfold kp_hear im_up
  rw [h111, if_neg (by omega), if_neg (by omega), if_neg (by omega)]
theorem KB_forget {K : Int → Int} {lv : Nat → Int} {L : Nat → Int → Int} {Q : Int → im_T} (h : KB K lv L Q) : KB (im_up K 111 0) (pl_U lv 3 0) L Q :=
  KB_num h (KR_forget h.1 h.2.1) (LOK_forget h.2.1) h.2.2.1 rfl (fun i a b => im_up_ne _ _ (by omega))
theorem KB_force {K : Int → Int} {lv : Nat → Int} {L : Nat → Int → Int} {Q : Int → im_T} (h : KB K lv L Q) {n : Int} (hn : -1 ≤ n ∧ n < lv 4) : KB (im_up K 113 n) (pl_U lv 5 n) L Q :=
  KB_num h (KR_force h.1 h.2.1 n) (LOK_force h.2.1 hn) h.2.2.1 rfl (fun i a b => im_up_ne _ _ (by omega))
theorem KB_terms {K : Int → Int} {lv : Nat → Int} {L : Nat → Int → Int} {Q : Int → im_T} (h : KB K lv L Q) {t x : Int} (ht : ti_ok t x = true) : K (ti_at t) = L 7 t ∧ KB (im_up K (ti_at t) x) lv (pl_U L 7 (im_up (L 7) t x)) Q := by
  have hx : (t = 0 ∧ 0 ≤ x ∧ x ≤ 999) ∨ (t = 1 ∧ 2 ≤ x ∧ x ≤ 99) ∨ (t = 2 ∧ 0 ≤ x ∧ x ≤ 10) ∨ (t = 3 ∧ 0 ≤ x ∧ x ≤ 9) := of_decide_eq_true ht
  have ht4 : t = 0 ∨ t = 1 ∨ t = 2 ∨ t = 3 := by omega
  have htb : ti_at t = 70 ∨ ti_at t = 107 ∨ ti_at t = 108 ∨ ti_at t = 109 := by rcases ht4 with rfl | rfl | rfl | rfl <;> decide
  refine ⟨(KR_terms h.1 h.2.1 ht4 x).1, KB_num h (KR_terms h.1 h.2.1 ht4 x).2 (LOK_terms h.2.1 ht) ?_ rfl (fun i a b => im_up_ne _ _ (by omega))⟩
  have hd := h.2.2.1
  show im_up (L 7) t x 0 ≤ 999
  unfold im_up
  split
  · omega
  · exact hd
