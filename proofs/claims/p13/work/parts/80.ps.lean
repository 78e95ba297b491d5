/-! what can be undone: the class's rows and the reference's -/
def MP (n : Int) (C D : Int → Int) : Prop := (∀ p, 0 ≤ p → p < 10 → C p = D p ∧ C (10 + p) = D (10 + p) ∧ (0 ≤ D p ∧ D p ≤ 999) ∧ (0 ≤ D (10 + p) ∧ D (10 + p) ≤ 99999)) ∧ (C 68 = D 68 ∧ C 69 = D 69 ∧ C 70 = D 70 ∧ C 71 = D 71) ∧ ((0 ≤ D 68 ∧ D 68 ≤ 16) ∧ (0 ≤ D 69 ∧ D 69 ≤ 99999) ∧ (0 ≤ D 70 ∧ D 70 ≤ 999) ∧ (0 ≤ D 71 ∧ D 71 ≤ 3)) ∧ (∀ g, 0 ≤ g → g < 16 → (0 ≤ D (20 + g) ∧ D (20 + g) ≤ 9) ∧ (0 ≤ D (36 + g) ∧ D (36 + g) ≤ 98) ∧ (0 ≤ D (52 + g) ∧ D (52 + g) ≤ 9)) ∧ ∀ g, 0 ≤ g → g < D 68 → (C (20 + 3 * g) = D (20 + g) ∧ C (20 + 3 * g + 1) = D (36 + g) ∧ C (20 + 3 * g + 2) = D (52 + g)) ∧ D (20 + g) < n ∧ 1 ≤ D (36 + g) ∧ 1 ≤ D (52 + g)
theorem MP_same {n : Int} {C D C' D' : Int → Int} (h : MP n C D) (hC : ∀ i, 0 ≤ i → i < 72 → C' i = C i) (hD : ∀ i, 0 ≤ i → i < 72 → D' i = D i) : MP n C' D' := by
  obtain ⟨a, b, c, d, e⟩ := h
  refine ⟨fun p q1 q2 => ?_, ?_, ?_, fun g q1 q2 => ?_, fun g q1 q2 => ?_⟩
  · rw [hC p q1 (by omega), hD p q1 (by omega), hC _ (by omega) (by omega), hD (10 + p) (by omega) (by omega)]
    exact a p q1 q2
  · rw [hC 68 (by decide) (by decide), hC 69 (by decide) (by decide), hC 70 (by decide) (by decide), hC 71 (by decide) (by decide), hD 68 (by decide) (by decide), hD 69 (by decide) (by decide), hD 70 (by decide) (by decide), hD 71 (by decide) (by decide)]
    exact b
  · rw [hD 68 (by decide) (by decide), hD 69 (by decide) (by decide), hD 70 (by decide) (by decide), hD 71 (by decide) (by decide)]
    exact c
  · rw [hD _ (by omega) (by omega), hD (36 + g) (by omega) (by omega), hD (52 + g) (by omega) (by omega)]
    exact d g q1 q2
  · rw [hD 68 (by decide) (by decide)] at q2
    rw [hC _ (by omega) (by omega), hC _ (by omega) (by omega), hC _ (by omega) (by omega), hD _ (by omega) (by omega), hD (36 + g) (by omega) (by omega), hD (52 + g) (by omega) (by omega)]
    exact e g q1 q2
/-- a row that was noted -/
theorem pt_note_at {a kind : Int} {v : Nat → Int} {R : Nat → Int → Int} {rw_ : Int → Int} : ∀ i, 0 ≤ i → i < 72 → pt_note a kind v R rw_ (a + i) = if i < 10 then R 2 i else if i < 20 then R 3 (i - 10) else if i < 36 then R 4 (i - 20) else if i < 52 then R 5 (i - 36) else if i < 68 then R 6 (i - 52) else if i = 68 then v 1 else if i = 69 then v 2 else if i = 70 then R 7 0 else kind := by
  intro i h1 h2
  unfold pt_note
  have cp : ∀ (f g : Int → Int) (dp n : Int) (j : Int), im_cpy f g 0 dp n j = if dp ≤ j ∧ j < dp + n then f (0 + (j - dp)) else g j := fun _ _ _ _ _ => rfl
  by_cases e71 : i = 71
  · subst e71
    rw [if_neg (by decide), if_neg (by decide), if_neg (by decide), if_neg (by decide), if_neg (by decide), if_neg (by decide), if_neg (by decide), if_neg (by decide), show a + 71 = a + 10 + 10 + 16 + 16 + 16 + 3 by omega, im_up_self]
  rw [im_up_ne _ _ (by omega)]
  by_cases e70 : i = 70
  · subst e70
    rw [if_neg (by decide), if_neg (by decide), if_neg (by decide), if_neg (by decide), if_neg (by decide), if_neg (by decide), if_neg (by decide), if_pos rfl, show a + 70 = a + 10 + 10 + 16 + 16 + 16 + 2 by omega, im_up_self]
  rw [im_up_ne _ _ (by omega)]
  by_cases e69 : i = 69
  · subst e69
    rw [if_neg (by decide), if_neg (by decide), if_neg (by decide), if_neg (by decide), if_neg (by decide), if_neg (by decide), if_pos rfl, show a + 69 = a + 10 + 10 + 16 + 16 + 16 + 1 by omega, im_up_self]
  rw [im_up_ne _ _ (by omega)]
  by_cases e68 : i = 68
  · subst e68
    rw [if_neg (by decide), if_neg (by decide), if_neg (by decide), if_neg (by decide), if_neg (by decide), if_pos rfl, show a + 68 = a + 10 + 10 + 16 + 16 + 16 by omega, im_up_self]
  rw [im_up_ne _ _ (by omega), cp, cp, cp, cp, cp]
  by_cases c10 : i < 10
  · rw [if_neg (by omega), if_neg (by omega), if_neg (by omega), if_neg (by omega), if_pos (by omega), if_pos c10]
    congr 1; omega
  by_cases c20 : i < 20
  · rw [if_neg (by omega), if_neg (by omega), if_neg (by omega), if_pos (by omega), if_neg c10, if_pos c20]
    congr 1; omega
  by_cases c36 : i < 36
  · rw [if_neg (by omega), if_neg (by omega), if_pos (by omega), if_neg c10, if_neg c20, if_pos c36]
    congr 1; omega
  by_cases c52 : i < 52
  · rw [if_neg (by omega), if_pos (by omega), if_neg c10, if_neg c20, if_neg c36, if_pos c52]
    congr 1; omega
  · rw [if_pos (by omega), if_neg c10, if_neg c20, if_neg c36, if_neg c52, if_pos (by omega)]
    congr 1; omega
theorem pt_note_far {a kind : Int} {v : Nat → Int} {R : Nat → Int → Int} {rw_ : Int → Int} {i : Int} (h : i < a ∨ a + 72 ≤ i) : pt_note a kind v R rw_ i = rw_ i := by
  unfold pt_note
  have cp : ∀ (f g : Int → Int) (dp n : Int) (j : Int), im_cpy f g 0 dp n j = if dp ≤ j ∧ j < dp + n then f (0 + (j - dp)) else g j := fun _ _ _ _ _ => rfl
  rw [im_up_ne _ _ (by omega), im_up_ne _ _ (by omega), im_up_ne _ _ (by omega), im_up_ne _ _ (by omega), cp, cp, cp, cp, cp, if_neg (by omega), if_neg (by omega), if_neg (by omega), if_neg (by omega), if_neg (by omega)]
/-- a land noted on both sides -/
theorem MP_note {K : Int → Int} {lv : Nat → Int} {L : Nat → Int → Int} (h : KR K lv L) (hlo : LOK lv L) (hd : L 7 0 ≤ 999) {kind : Int} (hk : 0 ≤ kind ∧ kind ≤ 3) {a : Int} {rw_ C : Int → Int} (hC : ∀ i, 0 ≤ i → i < 71 → C i = K i) (hC2 : C 71 = kind) : MP (lv 0) C (fun i => pt_note a kind lv L rw_ (a + i)) := by
  obtain ⟨⟨a1, a2, a3, a4, a5, a6⟩, b, c, d, e⟩ := h
  have hg := lk_grp hlo
  have hs := lk_sea hlo
  have ht := lk_trm hlo
  have at_ := pt_note_at (a := a) (kind := kind) (v := lv) (R := L) (rw_ := rw_)
  have e68 : pt_note a kind lv L rw_ (a + 68) = lv 1 := at_ 68 (by decide) (by decide)
  have e69 : pt_note a kind lv L rw_ (a + 69) = lv 2 := at_ 69 (by decide) (by decide)
  have e70 : pt_note a kind lv L rw_ (a + 70) = L 7 0 := at_ 70 (by decide) (by decide)
  have e71 : pt_note a kind lv L rw_ (a + 71) = kind := at_ 71 (by decide) (by decide)
  refine ⟨fun p q1 q2 => ?_, ?_, ?_, fun g q1 q2 => ?_, fun g q1 q2 => ?_⟩
  · have e1 := at_ p q1 (by omega)
    have e2 := at_ (10 + p) (by omega) (by omega)
    rw [if_pos q2] at e1
    rw [if_neg (by omega), if_pos (by omega), show 10 + p - 10 = p by omega] at e2
    obtain ⟨c1, c2, c3, c4⟩ := c p q1 q2
    have hc1 := lk_cnt hlo p
    have hc2 := lk_wlk hlo p
    dsimp only
    rw [e1, e2, hC p q1 (by omega), hC (10 + p) (by omega) (by omega), ← c4]
    have c3' : K p = L 2 p := by rw [← c3, Int.zero_add]
    rw [c4]
    exact ⟨c3', rfl, hc1, hc2⟩
  · dsimp only
    rw [e68, e69, e70, e71, hC 68 (by decide) (by decide), hC 69 (by decide) (by decide), hC 70 (by decide) (by decide), hC2]
    exact ⟨a2, a3, b.1, rfl⟩
  · dsimp only
    rw [e68, e69, e70, e71]
    exact ⟨hg, hs, ⟨ht.1, hd⟩, hk⟩
  · have e1 := at_ (20 + g) (by omega) (by omega)
    have e2 := at_ (36 + g) (by omega) (by omega)
    have e3 := at_ (52 + g) (by omega) (by omega)
    rw [if_neg (by omega), if_neg (by omega), if_pos (by omega), show 20 + g - 20 = g by omega] at e1
    rw [if_neg (by omega), if_neg (by omega), if_neg (by omega), if_pos (by omega), show 36 + g - 36 = g by omega] at e2
    rw [if_neg (by omega), if_neg (by omega), if_neg (by omega), if_neg (by omega), if_pos (by omega), show 52 + g - 52 = g by omega] at e3
    dsimp only
    rw [e1, e2, e3]
    exact ⟨lk_frm hlo g, lk_siz hlo g, lk_lef hlo g⟩
  · dsimp only at q2 ⊢
    rw [e68] at q2
    have e1 := at_ (20 + g) (by omega) (by omega)
    have e2 := at_ (36 + g) (by omega) (by omega)
    have e3 := at_ (52 + g) (by omega) (by omega)
    rw [if_neg (by omega), if_neg (by omega), if_pos (by omega), show 20 + g - 20 = g by omega] at e1
    rw [if_neg (by omega), if_neg (by omega), if_neg (by omega), if_pos (by omega), show 36 + g - 36 = g by omega] at e2
    rw [if_neg (by omega), if_neg (by omega), if_neg (by omega), if_neg (by omega), if_pos (by omega), show 52 + g - 52 = g by omega] at e3
    obtain ⟨d1, d2, d3⟩ := d g q1 q2
    rw [e1, e2, e3, hC _ (by omega) (by omega), hC _ (by omega) (by omega), hC _ (by omega) (by omega)]
    exact ⟨⟨d1, d2, d3⟩, lk_liv hlo q1 q2⟩
/-- all that can be undone -/
def PSR (n u : Int) (S : Int → Int) (f k : Int) (rw_ : Int → Int) : Prop := ((0 ≤ f ∧ f ≤ 16) ∧ (0 ≤ k ∧ k ≤ 16) ∧ u = k) ∧ ∀ e, 0 ≤ e → e < k → MP n (fun i => S (72 * e + i)) (fun i => rw_ (pt_at f e + i))
theorem PSR_0 (n : Int) (S : Int → Int) {f : Int} (hf : 0 ≤ f ∧ f ≤ 16) (rw_ : Int → Int) : PSR n 0 S f 0 rw_ := ⟨⟨hf, ⟨Int.le_refl _, by decide⟩, rfl⟩, fun e h1 h2 => absurd h1 (by omega)⟩
/-- a note that isn't kept -/
theorem PSR_noted {n u : Int} {S : Int → Int} {f k : Int} {rw_ : Int → Int} (h : PSR n u S f k rw_) (kind : Int) (v : Nat → Int) (R : Nat → Int → Int) : PSR n u S f k (pt_note (pt_at f k) kind v R rw_) := by
  obtain ⟨⟨h1, h2, h3⟩, h4⟩ := h
  refine ⟨⟨h1, h2, h3⟩, fun e q1 q2 => MP_same (h4 e q1 q2) (fun _ _ _ => rfl) (fun i r1 r2 => pt_note_far ?_)⟩
  unfold pt_at
  omega
/-- an act kept on both sides -/
theorem PSR_keep {K : Int → Int} {lv : Nat → Int} {L : Nat → Int → Int} (hr : KR K lv L) (hlo : LOK lv L) (hd : L 7 0 ≤ 999) {kind : Int} (hk : 0 ≤ kind ∧ kind ≤ 3) {v : Nat → Int} {R : Nat → Int → Int} {f k : Int} {rw_ : Int → Int} (h : PSR (lv 0) (v 34) (R 14) f k rw_) (h2 : R 2 = K) : PSR (lv 0) (kp_un v + 1) (kp_keep kind v R) (pt_keep f k).1 (pt_keep f k).2 (pt_note (pt_at f k) kind lv L rw_) := by
  obtain ⟨⟨a1, a2, a3⟩, a4⟩ := h
  have hku : ∀ i, 0 ≤ i → i < 71 → kp_keep kind v R (72 * kp_un v + i) = K i := fun i q1 q2 => by
    unfold kp_keep
    rw [im_up_ne _ _ (by omega), ← h2]
    show (if _ then _ else _) = _
    rw [if_pos (by omega)]
    congr 1
    omega
  have hk71 : kp_keep kind v R (72 * kp_un v + 71) = kind := im_up_self _ _ _
  have hko : ∀ i, i < 72 * kp_un v → kp_keep kind v R i = kp_sh v R i := fun i q => by
    unfold kp_keep
    rw [im_up_ne _ _ (by omega)]
    show (if _ then _ else _) = _
    rw [if_neg (by omega)]
  have hnew := MP_note (a := pt_at f k) (rw_ := rw_) hr hlo hd hk (C := fun i => kp_keep kind v R (72 * kp_un v + i)) hku hk71
  by_cases c : k = 16
  · have e1 : pt_keep f k = ((f + 1) % 17, k) := if_pos (by omega)
    have e2 : kp_un v = 15 := if_pos (by omega)
    have e3 : kp_sh v R = im_cpy (R 14) (R 14) 72 0 1080 := if_pos (by omega)
    rw [e1, e2]
    rw [e2] at hnew hko
    refine ⟨⟨by dsimp only; omega, by dsimp only; omega, by dsimp only; omega⟩, fun e q1 q2 => ?_⟩
    dsimp only at q2 ⊢
    by_cases ce : e = 15
    · subst ce
      have ep : pt_at ((f + 1) % 17) 15 = pt_at f k := by unfold pt_at; omega
      rw [ep]
      exact hnew
    · refine MP_same (a4 (e + 1) (by omega) (by omega)) (fun i r1 r2 => ?_) (fun i r1 r2 => ?_)
      · rw [hko _ (by omega), e3]
        show (if _ then _ else _) = _
        rw [if_pos (by omega)]
        congr 1
        omega
      · have ep : pt_at ((f + 1) % 17) e = pt_at f (e + 1) := by unfold pt_at; omega
        rw [ep]
        refine pt_note_far ?_
        unfold pt_at
        omega
  · have e1 : pt_keep f k = (f, k + 1) := if_neg (by omega)
    have e2 : kp_un v = k := by
      unfold kp_un
      rw [if_neg (by omega)]
      exact a3
    have e3 : kp_sh v R = R 14 := if_neg (by omega)
    rw [e1, e2]
    rw [e2] at hnew hko
    refine ⟨⟨a1, by dsimp only; omega, rfl⟩, fun e q1 q2 => ?_⟩
    dsimp only at q2 ⊢
    by_cases ce : e = k
    · subst ce
      exact hnew
    · refine MP_same (a4 e q1 (by omega)) (fun i r1 r2 => ?_) (fun i r1 r2 => ?_)
      · rw [hko _ (by omega), e3]
      · refine pt_note_far ?_
        unfold pt_at
        omega
/-- undone on both sides -/
theorem PSR_undo {K : Int → Int} {lv : Nat → Int} {L : Nat → Int → Int} (hr : KR K lv L) (hlo : LOK lv L) {u : Int} {S : Int → Int} {f k : Int} {rw_ : Int → Int} (h : PSR (lv 0) u S f k rw_) (h0 : 0 < k) : KR (im_cpy S K (72 * (k - 1)) 0 71) (pt_backv (pt_at f (k - 1)) rw_ lv) (pt_backR (pt_at f (k - 1)) rw_ L) ∧ LOK (pt_backv (pt_at f (k - 1)) rw_ lv) (pt_backR (pt_at f (k - 1)) rw_ L) ∧ (pt_backR (pt_at f (k - 1)) rw_ L) 7 0 ≤ 999 ∧ S (72 * (k - 1) + 71) = rw_ (pt_at f (k - 1) + 10 + 10 + 16 + 16 + 16 + 3) ∧ (0 ≤ S (72 * (k - 1) + 71) ∧ S (72 * (k - 1) + 71) ≤ 3) ∧ PSR (lv 0) (k - 1) S f (k - 1) rw_ := by
  obtain ⟨⟨a1, a2, a3⟩, a4⟩ := h
  obtain ⟨m1, m2, m3, m4, m5⟩ := a4 (k - 1) (by omega) (by omega)
  dsimp only at m1 m2 m3 m4 m5
  have hcp : ∀ i, 0 ≤ i → i < 71 → im_cpy S K (72 * (k - 1)) 0 71 i = S (72 * (k - 1) + i) := fun i q1 q2 => by
    show (if _ then _ else _) = _
    rw [if_pos (by omega)]
    congr 1
    omega
  have hcf : ∀ i, 71 ≤ i → im_cpy S K (72 * (k - 1)) 0 71 i = K i := fun i q => by
    show (if _ then _ else _) = _
    rw [if_neg (by omega)]
  generalize hs : 72 * (k - 1) = s at hcp hcf m1 m2 m3 m4 m5 ⊢
  generalize ha : pt_at f (k - 1) = a at m1 m2 m3 m4 m5 ⊢
  have e68 : rw_ (a + 10 + 10 + 16 + 16 + 16) = rw_ (a + 68) := by congr 1; omega
  have e69 : rw_ (a + 10 + 10 + 16 + 16 + 16 + 1) = rw_ (a + 69) := by congr 1; omega
  have e70 : rw_ (a + 10 + 10 + 16 + 16 + 16 + 2) = rw_ (a + 70) := by congr 1; omega
  have e71 : rw_ (a + 10 + 10 + 16 + 16 + 16 + 3) = rw_ (a + 71) := by congr 1; omega
  have cp : ∀ (g : Int → Int) (sp n : Int) (j : Int), 0 ≤ j → j < n → im_cpy rw_ g sp 0 n j = rw_ (sp + j) := fun g sp n j q1 q2 => by
    show (if _ then _ else _) = _
    rw [if_pos (by omega)]
    congr 1
    omega
  have cpb : ∀ (g : Int → Int) (sp n x y : Int), (∀ i, 0 ≤ i → i < n → x ≤ rw_ (sp + i) ∧ rw_ (sp + i) ≤ y) → (∀ i, x ≤ g i ∧ g i ≤ y) → ∀ i, x ≤ im_cpy rw_ g sp 0 n i ∧ im_cpy rw_ g sp 0 n i ≤ y := fun g sp n x y q1 q2 i => by
    show x ≤ (if _ then _ else _) ∧ (if _ then _ else _) ≤ y
    split
    · have t := q1 (i - 0) (by omega) (by omega)
      exact t
    · exact q2 i
  obtain ⟨⟨k1, k2, k3, k4, k5, k6⟩, kb, kc, kd, ke⟩ := hr
  refine ⟨⟨⟨?_, ?_, ?_, ?_, ?_, ?_⟩, ⟨?_, ?_, ?_, ?_⟩, fun p q1 q2 => ?_, fun g q1 q2 => ?_, fun g q1 q2 => ?_⟩, ?_, ?_, ?_, ?_, ⟨a1, by omega, rfl⟩, fun e q1 q2 => a4 e q1 (by omega)⟩
  · rw [hcf _ (by decide)]; exact k1
  · rw [hcp _ (by decide) (by decide)]
    show _ = rw_ (a + 10 + 10 + 16 + 16 + 16)
    rw [e68]; exact m2.1
  · rw [hcp _ (by decide) (by decide)]
    show _ = rw_ (a + 10 + 10 + 16 + 16 + 16 + 1)
    rw [e69]; exact m2.2.1
  · rw [hcf _ (by decide)]; exact k4
  · rw [hcf _ (by decide)]; exact k5
  · rw [hcf _ (by decide)]; exact k6
  · rw [hcp _ (by decide) (by decide)]
    show _ = im_up (L 7) 0 (rw_ (a + 10 + 10 + 16 + 16 + 16 + 2)) 0
    rw [im_up_self, e70]; exact m2.2.2.1
  · rw [hcf _ (by decide)]
    show _ = im_up (L 7) 0 _ 1
    rw [im_up_ne _ _ (by decide)]; exact kb.2.1
  · rw [hcf _ (by decide)]
    show _ = im_up (L 7) 0 _ 2
    rw [im_up_ne _ _ (by decide)]; exact kb.2.2.1
  · rw [hcf _ (by decide)]
    show _ = im_up (L 7) 0 _ 3
    rw [im_up_ne _ _ (by decide)]; exact kb.2.2.2
  · obtain ⟨c1, c2, c3, c4⟩ := kc p q1 q2
    obtain ⟨n1, n2, n3, n4⟩ := m1 p q1 q2
    rw [hcf _ (by omega), hcf _ (by omega), hcp _ (by omega) (by omega), hcp _ (by omega) (by omega)]
    refine ⟨c1, c2, ?_, ?_⟩
    · show _ = im_cpy rw_ (L 2) a 0 10 p
      rw [cp _ _ _ _ q1 q2, ← n1, Int.zero_add]
    · show _ = im_cpy rw_ (L 3) (a + 10) 0 10 p
      rw [cp _ _ _ _ q1 q2, show a + 10 + p = a + (10 + p) by omega, ← n2]
  · have q2' : g < rw_ (a + 68) := by rw [← e68]; exact q2
    obtain ⟨⟨n1, n2, n3⟩, n4⟩ := m5 g q1 q2'
    rw [hcp _ (by omega) (by omega), hcp _ (by omega) (by omega), hcp _ (by omega) (by omega)]
    refine ⟨?_, ?_, ?_⟩
    · show _ = im_cpy rw_ (L 4) (a + 10 + 10) 0 16 g
      rw [cp _ _ _ _ q1 (by omega), show a + 10 + 10 + g = a + (20 + g) by omega]; exact n1
    · show _ = im_cpy rw_ (L 5) (a + 10 + 10 + 16) 0 16 g
      rw [cp _ _ _ _ q1 (by omega), show a + 10 + 10 + 16 + g = a + (36 + g) by omega]; exact n2
    · show _ = im_cpy rw_ (L 6) (a + 10 + 10 + 16 + 16) 0 16 g
      rw [cp _ _ _ _ q1 (by omega), show a + 10 + 10 + 16 + 16 + g = a + (52 + g) by omega]; exact n3
  · have hh := lk_hrd hlo
    have q2' : g < lv 3 := q2
    rw [hcf _ (by omega), hcf _ (by omega)]
    exact ke g q1 q2
  · obtain ⟨l1, l2, l3, l4, l5, l6, l7, l8, l9, l10, l11, l12, l13, l14, l15, l16, l17, l18, l19⟩ := hlo
    refine ⟨l1, ?_, ?_, l4, l5, l6, l7, l8, ?_, ?_, ?_, ?_, ?_, ?_, l15, l16, l17, fun g q1 q2 => ?_, l19⟩
    · show 0 ≤ rw_ (a + 10 + 10 + 16 + 16 + 16) ∧ rw_ (a + 10 + 10 + 16 + 16 + 16) ≤ 16
      rw [e68]; exact m3.1
    · show 0 ≤ rw_ (a + 10 + 10 + 16 + 16 + 16 + 1) ∧ rw_ (a + 10 + 10 + 16 + 16 + 16 + 1) ≤ 99999
      rw [e69]; exact m3.2.1
    · exact cpb (L 2) a 10 0 999 (fun i r1 r2 => (m1 i r1 r2).2.2.1) l9
    · exact cpb (L 3) (a + 10) 10 0 99999 (fun i r1 r2 => by rw [show a + 10 + i = a + (10 + i) by omega]; exact (m1 i r1 r2).2.2.2) l10
    · exact cpb (L 4) (a + 10 + 10) 16 0 9 (fun i r1 r2 => by rw [show a + 10 + 10 + i = a + (20 + i) by omega]; exact (m4 i r1 r2).1) l11
    · exact cpb (L 5) (a + 10 + 10 + 16) 16 0 98 (fun i r1 r2 => by rw [show a + 10 + 10 + 16 + i = a + (36 + i) by omega]; exact (m4 i r1 r2).2.1) l12
    · exact cpb (L 6) (a + 10 + 10 + 16 + 16) 16 0 9 (fun i r1 r2 => by rw [show a + 10 + 10 + 16 + 16 + i = a + (52 + i) by omega]; exact (m4 i r1 r2).2.2) l13
    · show 0 ≤ im_up (L 7) 0 (rw_ (a + 10 + 10 + 16 + 16 + 16 + 2)) 0 ∧ 2 ≤ im_up (L 7) 0 _ 1 ∧ im_up (L 7) 0 _ 1 ≤ 99 ∧ 0 ≤ im_up (L 7) 0 _ 2 ∧ im_up (L 7) 0 _ 2 ≤ 10 ∧ 0 ≤ im_up (L 7) 0 _ 3 ∧ im_up (L 7) 0 _ 3 ≤ 9
      rw [im_up_self, im_up_ne _ _ (by decide), im_up_ne _ _ (by decide), im_up_ne _ _ (by decide), e70]
      exact ⟨m3.2.2.1.1, l14.2⟩
    · have q2' : g < rw_ (a + 68) := by rw [← e68]; exact q2
      have hg16 := m3.1.2
      obtain ⟨-, n4, n5, n6⟩ := m5 g q1 q2'
      show im_cpy rw_ (L 4) (a + 10 + 10) 0 16 g < lv 0 ∧ 1 ≤ im_cpy rw_ (L 5) (a + 10 + 10 + 16) 0 16 g ∧ 1 ≤ im_cpy rw_ (L 6) (a + 10 + 10 + 16 + 16) 0 16 g
      rw [cp _ _ _ _ q1 (by omega), cp _ _ _ _ q1 (by omega), cp _ _ _ _ q1 (by omega), show a + 10 + 10 + g = a + (20 + g) by omega, show a + 10 + 10 + 16 + g = a + (36 + g) by omega, show a + 10 + 10 + 16 + 16 + g = a + (52 + g) by omega]
      exact ⟨n4, n5, n6⟩
  · show im_up (L 7) 0 (rw_ (a + 10 + 10 + 16 + 16 + 16 + 2)) 0 ≤ 999
    rw [im_up_self, e70]; exact m3.2.2.1.2
  · rw [e71]; exact m2.2.2.2
  · rw [m2.2.2.2]; exact m3.2.2.2
