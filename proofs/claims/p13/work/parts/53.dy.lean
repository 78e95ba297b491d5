/-! a day passes: kept and the land -/
/-- as KR, groups aside -/
def KX (K : Int → Int) (lv : Nat → Int) (L : Nat → Int → Int) : Prop := (K 110 = lv 0 ∧ K 69 = lv 2 ∧ K 111 = lv 3 ∧ K 112 = lv 4 ∧ K 113 = lv 5) ∧ (K 70 = L 7 0 ∧ K 107 = L 7 1 ∧ K 108 = L 7 2 ∧ K 109 = L 7 3) ∧ (∀ p, 0 ≤ p → p < 10 → K (71 + p) = L 0 p ∧ K (81 + p) = L 1 p ∧ K (0 + p) = L 2 p ∧ K (10 + p) = L 3 p) ∧ ∀ k, 0 ≤ k → k < lv 3 → K (91 + 2 * k) = L 8 k ∧ K (91 + 2 * k + 1) = L 9 k
def KG (K : Int → Int) (L : Nat → Int → Int) (g : Int) : Prop := K (20 + 3 * g) = L 4 g ∧ K (20 + 3 * g + 1) = L 5 g ∧ K (20 + 3 * g + 2) = L 6 g
theorem KR_X {K : Int → Int} {lv : Nat → Int} {L : Nat → Int → Int} (h : KR K lv L) : KX K lv L ∧ K 68 = lv 1 ∧ ∀ g, 0 ≤ g → g < lv 1 → KG K L g := ⟨⟨⟨h.1.1, h.1.2.2.1, h.1.2.2.2.1, h.1.2.2.2.2.1, h.1.2.2.2.2.2⟩, h.2.1, h.2.2.1, h.2.2.2.2⟩, h.1.2.1, h.2.2.2.1⟩
theorem KX_R {K : Int → Int} {lv : Nat → Int} {L : Nat → Int → Int} (h : KX K lv L) (h1 : K 68 = lv 1) (h2 : ∀ g, 0 ≤ g → g < lv 1 → KG K L g) : KR K lv L := ⟨⟨h.1.1, h1, h.1.2.1, h.1.2.2.1, h.1.2.2.2.1, h.1.2.2.2.2⟩, h.2.1, h.2.2.1, h2, h.2.2.2⟩
/-- only groups' places change -/
theorem KX_grp {K K' : Int → Int} {lv : Nat → Int} {L L' : Nat → Int → Int} (h : KX K lv L) (hK : ∀ i, (i < 20 ∨ 69 ≤ i) → K' i = K i) (hL : L' 0 = L 0 ∧ L' 1 = L 1 ∧ L' 2 = L 2 ∧ L' 3 = L 3 ∧ L' 7 = L 7 ∧ L' 8 = L 8 ∧ L' 9 = L 9) : KX K' lv L' := by
  obtain ⟨⟨a1, a2, a3, a4, a5⟩, ⟨b1, b2, b3, b4⟩, c, e⟩ := h
  obtain ⟨l0, l1, l2, l3, l7, l8, l9⟩ := hL
  refine ⟨⟨?_, ?_, ?_, ?_, ?_⟩, ⟨?_, ?_, ?_, ?_⟩, fun q q1 q2 => ?_, fun k q1 q2 => ?_⟩
  · rw [hK _ (by omega)]; exact a1
  · rw [hK _ (by omega)]; exact a2
  · rw [hK _ (by omega)]; exact a3
  · rw [hK _ (by omega)]; exact a4
  · rw [hK _ (by omega)]; exact a5
  · rw [hK _ (by omega), l7]; exact b1
  · rw [hK _ (by omega), l7]; exact b2
  · rw [hK _ (by omega), l7]; exact b3
  · rw [hK _ (by omega), l7]; exact b4
  · rw [hK _ (by omega), hK _ (by omega), hK _ (by omega), hK _ (by omega), l0, l1, l2, l3]; exact c q q1 q2
  · rw [hK _ (by omega), hK _ (by omega), l8, l9]; exact e k q1 q2
theorem KX_cnt {K : Int → Int} {lv : Nat → Int} {L : Nat → Int → Int} (h : KX K lv L) {p : Int} (hp : 0 ≤ p ∧ p < 10) (x : Int) : KX (im_up K (0 + p) x) lv (pl_U L 2 (im_up (L 2) p x)) := by
  obtain ⟨⟨a1, a2, a3, a4, a5⟩, ⟨b1, b2, b3, b4⟩, c, e⟩ := h
  refine ⟨⟨?_, ?_, ?_, ?_, ?_⟩, ⟨?_, ?_, ?_, ?_⟩, fun q q1 q2 => ?_, fun k q1 q2 => ?_⟩
  · rw [im_up_ne _ _ (by omega)]; exact a1
  · rw [im_up_ne _ _ (by omega)]; exact a2
  · rw [im_up_ne _ _ (by omega)]; exact a3
  · rw [im_up_ne _ _ (by omega)]; exact a4
  · rw [im_up_ne _ _ (by omega)]; exact a5
  · rw [im_up_ne _ _ (by omega)]; exact b1
  · rw [im_up_ne _ _ (by omega)]; exact b2
  · rw [im_up_ne _ _ (by omega)]; exact b3
  · rw [im_up_ne _ _ (by omega)]; exact b4
  · obtain ⟨c1, c2, c3, c4⟩ := c q q1 q2
    rw [im_up_ne _ _ (by omega), im_up_ne _ _ (show 81 + q ≠ 0 + p by omega), im_up_ne _ _ (show 10 + q ≠ 0 + p by omega)]
    refine ⟨c1, c2, ?_, c4⟩
    show im_up K (0 + p) x (0 + q) = im_up (L 2) p x q
    unfold im_up
    rw [c3]
    by_cases z : q = p
    · rw [if_pos (by omega), if_pos z]
    · rw [if_neg (by omega), if_neg z]
  · rw [im_up_ne _ _ (by omega), im_up_ne _ _ (show 91 + 2 * k + 1 ≠ 0 + p by omega)]
    exact e k q1 q2
theorem KX_sea {K : Int → Int} {lv : Nat → Int} {L : Nat → Int → Int} (h : KX K lv L) (x y : Int) : KX (im_up K 69 x) (pl_U (pl_U lv 2 x) 6 y) L := by
  obtain ⟨⟨a1, a2, a3, a4, a5⟩, ⟨b1, b2, b3, b4⟩, c, e⟩ := h
  refine ⟨⟨?_, im_up_self _ _ _, ?_, ?_, ?_⟩, ⟨?_, ?_, ?_, ?_⟩, fun q q1 q2 => ?_, fun k q1 q2 => ?_⟩
  · rw [im_up_ne _ _ (by omega)]; exact a1
  · rw [im_up_ne _ _ (by omega)]; exact a3
  · rw [im_up_ne _ _ (by omega)]; exact a4
  · rw [im_up_ne _ _ (by omega)]; exact a5
  · rw [im_up_ne _ _ (by omega)]; exact b1
  · rw [im_up_ne _ _ (by omega)]; exact b2
  · rw [im_up_ne _ _ (by omega)]; exact b3
  · rw [im_up_ne _ _ (by omega)]; exact b4
  · rw [im_up_ne _ _ (by omega), im_up_ne _ _ (show 81 + q ≠ 69 by omega), im_up_ne _ _ (show 0 + q ≠ 69 by omega), im_up_ne _ _ (show 10 + q ≠ 69 by omega)]
    exact c q q1 q2
  · rw [im_up_ne _ _ (by omega), im_up_ne _ _ (show 91 + 2 * k + 1 ≠ 69 by omega)]
    exact e k q1 q2
/-- where who arrives is told, of kept alone -/
def kx_arr (b n : Int) (K : Int → Int) : Int → Int := if b = -1 then im_up K 69 (min 99999 (K 69 + n)) else im_up K (0 + b) (min 999 (K (0 + b) + n))
theorem KX_arr {K : Int → Int} {lv : Nat → Int} {L : Nat → Int → Int} (h : KX K lv L) {b n : Int} (hb : -1 ≤ b ∧ b < lv 0 ∧ b < 10) : KX (kx_arr b n K) (pl_arr b n lv L).1 (pl_arr b n lv L).2 ∧ (pl_arr b n lv L).1 6 = (if b = -1 then lv 6 + n else lv 6) := by
  unfold kx_arr pl_arr
  by_cases z : b = -1
  · rw [if_pos z, if_pos z, if_neg (by omega)]
    refine ⟨?_, rfl⟩
    rw [h.1.2.1]
    exact KX_sea h _ _
  · rw [if_neg z, if_neg z, if_pos (by omega)]
    refine ⟨?_, rfl⟩
    rw [(h.2.2.1 b (by omega) (by omega)).2.2.1]
    exact KX_cnt h (by omega) _
theorem kx_arr_g {b n : Int} {K : Int → Int} (hb : -1 ≤ b ∧ b < 10) {i : Int} (hi : (20 ≤ i ∧ i < 69) ∨ 70 ≤ i) : kx_arr b n K i = K i := by
  unfold kx_arr
  split
  · exact im_up_ne _ _ (by omega)
  · exact im_up_ne _ _ (by omega)
/-- how it stands behind k groups: K0 kept before, c0 who came before -/
def DYI (lv : Nat → Int) (L : Nat → Int → Int) (K0 : Int → Int) (c0 : Int) (k : Nat) (K : Int → Int) (left sum c : Int) : Prop := KX K (pl_dy lv L k).1 (pl_dy lv L k).2.1 ∧ K 68 = lv 1 ∧ (∀ g, 0 ≤ g → (g < left ∨ ((k : Int) ≤ g ∧ g < lv 1)) → KG K (pl_dy lv L k).2.1 g) ∧ (∀ i, 71 ≤ i → K i = K0 i) ∧ sum = (pl_dy lv L k).2.2.1 ∧ left = (pl_dy lv L k).2.2.2 ∧ c - c0 = (pl_dy lv L k).1 6
theorem DYI_0 {lv : Nat → Int} {L : Nat → Int → Int} {K : Int → Int} (h : KR K lv L) (c : Int) : DYI lv L K c 0 K 0 0 c := by
  obtain ⟨h1, h2, h3⟩ := KR_X h
  exact ⟨h1, h2, fun g g1 g2 => h3 g g1 (by omega), fun i _ => rfl, rfl, rfl, by show c - c = 0; omega⟩
/-- the place of days less -/
def kd_less (k : Int) (K : Int → Int) : Int → Int := im_up K (20 + 3 * k + 2) (K (20 + 3 * k + 2) - 1)
def kd_copy (k l : Int) (K : Int → Int) : Int → Int := im_up (im_up (im_up K (20 + 3 * l + 0) (K (20 + 3 * k + 0))) (20 + 3 * l + 1) (im_up K (20 + 3 * l + 0) (K (20 + 3 * k + 0)) (20 + 3 * k + 1))) (20 + 3 * l + 2) (im_up (im_up K (20 + 3 * l + 0) (K (20 + 3 * k + 0))) (20 + 3 * l + 1) (im_up K (20 + 3 * l + 0) (K (20 + 3 * k + 0)) (20 + 3 * k + 1)) (20 + 3 * k + 2))
theorem kd_copy_far {k l : Int} {K : Int → Int} {i : Int} (h : i < 20 + 3 * l ∨ 20 + 3 * l + 2 < i) : kd_copy k l K i = K i := by
  unfold kd_copy
  rw [im_up_ne _ _ (by omega), im_up_ne _ _ (by omega), im_up_ne _ _ (by omega)]
theorem kd_copy_at {k l : Int} {K : Int → Int} (h : l ≤ k) : kd_copy k l K (20 + 3 * l) = K (20 + 3 * k) ∧ kd_copy k l K (20 + 3 * l + 1) = K (20 + 3 * k + 1) ∧ kd_copy k l K (20 + 3 * l + 2) = K (20 + 3 * k + 2) := by
  unfold kd_copy
  refine ⟨?_, ?_, ?_⟩
  · rw [im_up_ne _ _ (by omega), im_up_ne _ _ (by omega), Int.add_zero, Int.add_zero, im_up_self]
  · rw [im_up_ne _ _ (by omega), im_up_self]
    by_cases e : k = l
    · subst e; rw [im_up_ne _ _ (by omega)]
    · rw [im_up_ne _ _ (by omega)]
  · rw [im_up_self]
    rw [im_up_ne _ _ (by omega), im_up_ne _ _ (by omega)]
theorem pl_dy_s (lv : Nat → Int) (L : Nat → Int → Int) (k : Nat) : pl_dy lv L (k + 1) = pl_d1 k (pl_dy lv L k) := rfl
theorem DYI_stay {lv : Nat → Int} {L : Nat → Int → Int} {K0 : Int → Int} {c0 : Int} {k : Nat} {K : Int → Int} {left sum c : Int} (h : DYI lv L K0 c0 k K left sum c) (hp : PDI lv L k (pl_dy lv L k)) (hk : (k : Int) < lv 1) (hg : lv 1 ≤ 16) (hlive : 1 ≤ L 6 k) (hz : ¬ kd_less k K (20 + 3 * k + 2) = 0) : DYI lv L K0 c0 (k + 1) (kd_copy k left (kd_less k K)) (left + 1) sum c := by
  obtain ⟨a1, a2, a3, a4, a5, a6, a7⟩ := h
  have hl := hp.2.2.2.2.1
  have e6 := (hp.2.2.2.2.2.2.2.2.2.2.1 k (Int.le_refl _)).2.2
  have hs : pl_dy lv L (k + 1) = pl_d1 k (pl_dy lv L k) := rfl
  unfold DYI
  rw [hs]
  generalize pl_dy lv L k = q at a1 a3 a5 a6 a7 hl e6 ⊢
  have hkk := a3 k (by omega) (by omega)
  have ez : kd_less k K (20 + 3 * k + 2) = q.2.1 6 k - 1 := by
    unfold kd_less
    rw [im_up_self, hkk.2.2]
  have hpos : 0 < q.2.1 6 k - 1 := by omega
  have e1 : pl_d1 k q = (q.1, pl_U (pl_U (pl_U q.2.1 4 (im_up (q.2.1 4) q.2.2.2 (q.2.1 4 k))) 5 (im_up (q.2.1 5) q.2.2.2 (q.2.1 5 k))) 6 (im_up (im_up (q.2.1 6) k (q.2.1 6 k - 1)) q.2.2.2 (q.2.1 6 k - 1)), q.2.2.1, q.2.2.2 + 1) := if_pos hpos
  rw [e1]
  have hlk : left ≤ (k : Int) := by omega
  have hat := kd_copy_at (K := kd_less k K) hlk
  have hless : ∀ i, i ≠ 20 + 3 * (k : Int) + 2 → kd_less k K i = K i := fun i hi => im_up_ne K _ hi
  refine ⟨KX_grp a1 (fun i hi => ?_) ⟨rfl, rfl, rfl, rfl, rfl, rfl, rfl⟩, ?_, fun g g1 g2 => ?_, fun i hi => ?_, a5, by show left + 1 = q.2.2.2 + 1; omega, a7⟩
  · rw [kd_copy_far (by omega), hless i (by omega)]
  · rw [kd_copy_far (by omega), hless _ (by omega)]; exact a2
  · show _ = im_up (q.2.1 4) q.2.2.2 (q.2.1 4 k) g ∧ _ = im_up (q.2.1 5) q.2.2.2 (q.2.1 5 k) g ∧ _ = im_up (im_up (q.2.1 6) k (q.2.1 6 k - 1)) q.2.2.2 (q.2.1 6 k - 1) g
    rw [← a6]
    by_cases e : g = left
    · subst e
      rw [im_up_self, im_up_self, im_up_self, hat.1, hat.2.1, hat.2.2, hless _ (by omega), hless _ (by omega), ez]
      exact ⟨hkk.1, hkk.2.1, rfl⟩
    · have hgk : g ≠ (k : Int) := by omega
      obtain ⟨b1, b2, b3⟩ := a3 g g1 (by omega)
      rw [im_up_ne (q.2.1 4) _ e, im_up_ne (q.2.1 5) _ e, im_up_ne (im_up (q.2.1 6) k (q.2.1 6 k - 1)) _ e, im_up_ne (q.2.1 6) _ hgk, kd_copy_far (by omega), kd_copy_far (by omega), kd_copy_far (by omega), hless _ (by omega), hless _ (by omega), hless _ (by omega)]
      exact ⟨b1, b2, b3⟩
  · rw [kd_copy_far (by omega), hless i (by omega)]; exact a4 i hi
theorem DYI_go {lv : Nat → Int} {L : Nat → Int → Int} {K0 : Int → Int} {c0 : Int} {k : Nat} {K : Int → Int} {left sum c : Int} (h : DYI lv L K0 c0 k K left sum c) (hp : PDI lv L k (pl_dy lv L k)) (hlo : LOK lv L) (hk : (k : Int) < lv 1) (hlive : 1 ≤ L 6 k) (hz : kd_less k K (20 + 3 * k + 2) = 0) : DYI lv L K0 c0 (k + 1) (kx_arr (kd_less k K (71 + kd_less k K (20 + 3 * k))) (kd_less k K (20 + 3 * k + 1)) (kd_less k K)) left (sum + kd_less k K (20 + 3 * k + 1)) (if kd_less k K (71 + kd_less k K (20 + 3 * k)) = -1 then c + kd_less k K (20 + 3 * k + 1) else c) := by
  obtain ⟨a1, a2, a3, a4, a5, a6, a7⟩ := h
  have hg := lk_grp hlo
  have hl := hp.2.2.2.2.1
  have hv0 := hp.1.1
  have hR0 := hp.2.2.2.2.2.1.1
  obtain ⟨e4, e5, e6⟩ := hp.2.2.2.2.2.2.2.2.2.2.1 k (Int.le_refl _)
  have hliv := lk_liv hlo (g := k) (by omega) hk
  have hfb := lk_frm hlo k
  have hs : pl_dy lv L (k + 1) = pl_d1 k (pl_dy lv L k) := rfl
  unfold DYI
  rw [hs]
  generalize pl_dy lv L k = q at a1 a3 a5 a6 a7 hl e4 e5 e6 hv0 hR0 ⊢
  have hkk := a3 k (by omega) (by omega)
  have hless : ∀ i, i ≠ 20 + 3 * (k : Int) + 2 → kd_less k K i = K i := fun i hi => im_up_ne K _ hi
  have ez : kd_less k K (20 + 3 * k + 2) = q.2.1 6 k - 1 := by
    unfold kd_less
    rw [im_up_self, hkk.2.2]
  have ef : kd_less k K (20 + 3 * k) = q.2.1 4 k := (hless _ (by omega)).trans hkk.1
  have en : kd_less k K (20 + 3 * k + 1) = q.2.1 5 k := (hless _ (by omega)).trans hkk.2.1
  have ex1 : KX (kd_less k K) q.1 (pl_U q.2.1 6 (im_up (q.2.1 6) k (q.2.1 6 k - 1))) := KX_grp a1 (fun i hi => hless i (by omega)) ⟨rfl, rfl, rfl, rfl, rfl, rfl, rfl⟩
  have eb : kd_less k K (71 + q.2.1 4 k) = q.2.1 0 (q.2.1 4 k) := (ex1.2.2.1 (q.2.1 4 k) (by omega) (by omega)).1
  have hlow := lk_low hlo (p := q.2.1 4 k) (by omega) (by omega)
  have hbel := lk_bel hlo (q.2.1 4 k)
  rw [← hR0] at hlow hbel
  have hpar := lk_par hlo
  have e1 : pl_d1 k q = ((pl_arr (q.2.1 0 (q.2.1 4 k)) (q.2.1 5 k) q.1 (pl_U q.2.1 6 (im_up (q.2.1 6) k (q.2.1 6 k - 1)))).1, (pl_arr (q.2.1 0 (q.2.1 4 k)) (q.2.1 5 k) q.1 (pl_U q.2.1 6 (im_up (q.2.1 6) k (q.2.1 6 k - 1)))).2, q.2.2.1 + q.2.1 5 k, q.2.2.2) := if_neg (by omega)
  have harr := KX_arr ex1 (b := q.2.1 0 (q.2.1 4 k)) (n := q.2.1 5 k) (by omega)
  have hrow : ∀ j, j ≠ 2 → (pl_arr (q.2.1 0 (q.2.1 4 k)) (q.2.1 5 k) q.1 (pl_U q.2.1 6 (im_up (q.2.1 6) k (q.2.1 6 k - 1)))).2 j = pl_U q.2.1 6 (im_up (q.2.1 6) k (q.2.1 6 k - 1)) j := fun j hj => pl_arr_row _ _ _ _ hj
  rw [e1, ef, en, eb]
  refine ⟨harr.1, ?_, fun g g1 g2 => ?_, fun i hi => ?_, by show sum + q.2.1 5 k = q.2.2.1 + q.2.1 5 k; omega, a6, ?_⟩
  · rw [kx_arr_g (by omega) (by omega), hless _ (by omega)]; exact a2
  · have hgk : g ≠ (k : Int) := by omega
    obtain ⟨b1, b2, b3⟩ := a3 g g1 (by omega)
    unfold KG
    rw [kx_arr_g (by omega) (by omega), kx_arr_g (by omega) (by omega), kx_arr_g (by omega) (by omega), hless _ (by omega), hless _ (by omega), hless _ (by omega)]
    show _ = (pl_arr _ _ _ _).2 4 g ∧ _ = (pl_arr _ _ _ _).2 5 g ∧ _ = (pl_arr _ _ _ _).2 6 g
    rw [hrow 4 (by decide), hrow 5 (by decide), hrow 6 (by decide)]
    refine ⟨b1, b2, ?_⟩
    show _ = im_up (q.2.1 6) k (q.2.1 6 k - 1) g
    rw [im_up_ne (q.2.1 6) _ hgk]
    exact b3
  · rw [kx_arr_g (by omega) (by omega), hless i (by omega)]; exact a4 i hi
  · show _ = (pl_arr _ _ _ _).1 6
    rw [harr.2]
    split <;> omega
/-- the day is over -/
def kd_zero (l : Int) (K : Int → Int) : Nat → Int → Int
  | 0 => K
  | m + 1 => im_up (kd_zero l K m) (20 + (3 * l + (m : Int))) 0
theorem kd_zero_far {l : Int} {K : Int → Int} {i : Int} (h : i < 20 + 3 * l) : ∀ m, kd_zero l K m i = K i
  | 0 => rfl
  | m + 1 => by
    show im_up (kd_zero l K m) (20 + (3 * l + (m : Int))) 0 i = K i
    rw [im_up_ne _ _ (by omega)]
    exact kd_zero_far h m
theorem kd_zero_up {l : Int} {K : Int → Int} {i : Int} : ∀ m : Nat, 20 + 3 * l + m ≤ i → kd_zero l K m i = K i
  | 0, _ => rfl
  | m + 1, h => by
    show im_up (kd_zero l K m) (20 + (3 * l + (m : Int))) 0 i = K i
    rw [im_up_ne _ _ (by omega)]
    exact kd_zero_up m (by omega)
theorem DYI_end {lv : Nat → Int} {L : Nat → Int → Int} {K0 : Int → Int} {c0 : Int} {K : Int → Int} {left sum c : Int} (hlo : LOK lv L) (h : DYI lv L K0 c0 (lv 1).toNat K left sum c) {m : Nat} (hm : 3 * left + (m : Int) = 48) : KR (im_up (im_up (kd_zero left K m) 68 left) 70 (im_up (kd_zero left K m) 68 left 70 + 1)) (pl_day lv L).2.1 (pl_day lv L).2.2 ∧ (∀ i, 71 ≤ i → im_up (im_up (kd_zero left K m) 68 left) 70 (im_up (kd_zero left K m) 68 left 70 + 1) i = K0 i) ∧ sum = (pl_day lv L).1 ∧ c - c0 = (pl_day lv L).2.1 6 := by
  have hg := lk_grp hlo
  have hp := PDI_k hlo (lv 1).toNat (by omega)
  obtain ⟨a1, a2, a3, a4, a5, a6, a7⟩ := h
  have hl := hp.2.2.2.2.1
  have e68 : kd_zero left K m 68 = K 68 := kd_zero_up m (by omega)
  have e70 : im_up (kd_zero left K m) 68 left 70 = K 70 := by
    rw [im_up_ne _ _ (by omega)]
    exact kd_zero_up m (by omega)
  have far : ∀ i, (i < 20 ∨ 69 ≤ i) → i ≠ 70 → im_up (im_up (kd_zero left K m) 68 left) 70 (im_up (kd_zero left K m) 68 left 70 + 1) i = K i := by
    intro i hi h7
    rw [im_up_ne _ _ h7, im_up_ne _ _ (by omega)]
    rcases hi with hi | hi
    · exact kd_zero_far (by omega) m
    · exact kd_zero_up m (by omega)
  unfold pl_day
  generalize pl_dy lv L (lv 1).toNat = q at a1 a3 a5 a6 a7 hl ⊢
  obtain ⟨⟨x1, x2, x3, x4, x5⟩, ⟨b1, b2, b3, b4⟩, cc, e⟩ := a1
  refine ⟨⟨⟨?_, ?_, ?_, ?_, ?_, ?_⟩, ⟨?_, ?_, ?_, ?_⟩, fun p q1 q2 => ?_, fun k q1 q2 => ?_, fun k q1 q2 => ?_⟩, fun i hi => ?_, a5, a7⟩
  · rw [far _ (by omega) (by omega)]; exact x1
  · rw [im_up_ne _ _ (by omega), im_up_self]; exact a6
  · rw [far _ (by omega) (by omega)]; exact x2
  · rw [far _ (by omega) (by omega)]; exact x3
  · rw [far _ (by omega) (by omega)]; exact x4
  · rw [far _ (by omega) (by omega)]; exact x5
  · rw [im_up_self, e70, b1]; show _ = im_up (q.2.1 7) 0 (q.2.1 7 0 + 1) 0; rw [im_up_self]
  · rw [far _ (by omega) (by omega), b2]; show _ = im_up (q.2.1 7) 0 (q.2.1 7 0 + 1) 1; rw [im_up_ne _ _ (by decide)]
  · rw [far _ (by omega) (by omega), b3]; show _ = im_up (q.2.1 7) 0 (q.2.1 7 0 + 1) 2; rw [im_up_ne _ _ (by decide)]
  · rw [far _ (by omega) (by omega), b4]; show _ = im_up (q.2.1 7) 0 (q.2.1 7 0 + 1) 3; rw [im_up_ne _ _ (by decide)]
  · rw [far _ (by omega) (by omega), far _ (by omega) (by omega), far _ (by omega) (by omega), far _ (by omega) (by omega)]
    exact cc p q1 q2
  · have q2' : k < q.2.2.2 := q2
    obtain ⟨g1, g2, g3⟩ := a3 k q1 (by omega)
    have near : ∀ i, 20 ≤ i → i < 20 + 3 * left → im_up (im_up (kd_zero left K m) 68 left) 70 (im_up (kd_zero left K m) 68 left 70 + 1) i = K i := by
      intro i h1 h2
      rw [im_up_ne _ _ (by omega), im_up_ne _ _ (by omega)]
      exact kd_zero_far h2 m
    rw [near _ (by omega) (by omega), near _ (by omega) (by omega), near _ (by omega) (by omega)]
    exact ⟨g1, g2, g3⟩
  · have q2' : k < q.1 3 := q2
    rw [far _ (by omega) (by omega), far _ (by omega) (by omega)]
    exact e k q1 q2'
  · rw [far i (by omega) (by omega)]; exact a4 i hi
