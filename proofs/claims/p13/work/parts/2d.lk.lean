/-! what holds of lands stays so; the law in force -/
theorem LOK_leave {v : Nat → Int} {R : Nat → Int → Int} (h : LOK v R) {p n : Int} (hn : 0 ≤ n ∧ n ≤ R 2 p) : LOK v (pl_leave p n v R) := by
  unfold pl_leave
  by_cases hh : 0 ≤ p ∧ p < v 0 ∧ p < 10
  · rw [if_pos hh]
    have c := lk_cnt h p
    have k := lk_wlk h p
    obtain ⟨l1, l2, l3, l4, l5, l6, l7, l8, l9, l10, l11, l12, l13, l14, l15, l16, l17, l18, l19⟩ := h
    refine ⟨l1, l2, l3, l4, l5, l6, l7, l8, ?_, ?_, l11, l12, l13, l14, l15, l16, l17, l18, l19⟩
    · exact im_up_b (f := R 2) l9 (by omega)
    · exact im_up_b (f := R 3) l10 (by omega)
  · rw [if_neg hh]
    exact h
theorem LOK_arr {v : Nat → Int} {R : Nat → Int → Int} (h : LOK v R) {p n : Int} (hn : 0 ≤ n) : LOK (pl_arr p n v R).1 (pl_arr p n v R).2 := by
  unfold pl_arr
  have c := lk_cnt h p
  have hs := lk_sea h
  obtain ⟨l1, l2, l3, l4, l5, l6, l7, l8, l9, l10, l11, l12, l13, l14, l15, l16, l17, l18, l19⟩ := h
  by_cases hh : 0 ≤ p ∧ p < v 0 ∧ p < 10
  · rw [if_pos hh]
    exact ⟨l1, l2, l3, l4, l5, l6, l7, l8, im_up_b (f := R 2) l9 (by omega), l10, l11, l12, l13, l14, l15, l16, l17, l18, l19⟩
  · rw [if_neg hh]
    exact ⟨l1, l2, ⟨by show 0 ≤ min 99999 (v 2 + n); omega, by show min 99999 (v 2 + n) ≤ 99999; omega⟩, l4, l5, l6, l7, l8, l9, l10, l11, l12, l13, l14, l15, l16, l17, l18, l19⟩
theorem as_over_le (lw : Option im_T) {v : Nat → Int} {R : Nat → Int → Int} (h : LOK v R) (p ten : Int) : as_over lw p ten R ≤ R 2 p := by
  have ht := as_tens_b lw p ten R
  have hc := lk_cnt h p
  unfold as_over
  have h1 := Int.emod_def (R 2 p) (as_tens lw p ten R)
  have h2 := Int.ediv_nonneg hc.1 (show 0 ≤ as_tens lw p ten R by omega)
  have h3 := Int.mul_nonneg (show 0 ≤ as_tens lw p ten R by omega) h2
  omega
theorem LOK_send (lw : Option im_T) {v : Nat → Int} {R : Nat → Int → Int} (h : LOK v R) (p : Int) : LOK (pl_send lw p v R).2.1 (pl_send lw p v R).2.2 := by
  unfold pl_send
  by_cases h1 : ¬ (0 ≤ p ∧ p < v 0 ∧ p < 10)
  · rw [if_pos h1]; exact h
  rw [if_neg h1]
  by_cases h2 : as_bar lw p 0 R = 1
  · rw [if_pos h2]; exact h
  rw [if_neg h2]
  by_cases h3 : as_over lw p 0 R - as_stay lw p 0 R = 0
  · rw [if_pos h3]; exact h
  rw [if_neg h3]
  by_cases h4 : 16 ≤ v 1
  · rw [if_pos h4]; exact h
  rw [if_neg h4]
  have ho := as_over_b lw p 0 R
  have hs := as_stay_b lw p 0 R
  have hp := as_steps_b lw p 0 R
  have hl := as_over_le lw h p 0
  have hcnt := lk_cnt h p
  have hg := lk_grp h
  refine LOK_leave ?_ ?_
  · obtain ⟨l1, l2, l3, l4, l5, l6, l7, l8, l9, l10, l11, l12, l13, l14, l15, l16, l17, l18, l19⟩ := h
    refine ⟨l1, ⟨by show 0 ≤ v 1 + 1; omega, by show v 1 + 1 ≤ 16; omega⟩, l3, l4, l5, l6, l7, l8, l9, l10, ?_, ?_, ?_, l14, l15, l16, l17, ?_, l19⟩
    · exact im_up_b (f := R 4) l11 (by omega)
    · exact im_up_b (f := R 5) l12 (by omega)
    · exact im_up_b (f := R 6) l13 (by omega)
    · intro g g1 g2
      have g2' : g < v 1 + 1 := g2
      show im_up (R 4) (v 1) p g < v 0 ∧ 1 ≤ im_up (R 5) (v 1) (as_over lw p 0 R - as_stay lw p 0 R) g ∧ 1 ≤ im_up (R 6) (v 1) (as_steps lw p 0 R) g
      by_cases e : g = v 1
      · subst e
        rw [im_up_self, im_up_self, im_up_self]
        exact ⟨by omega, by omega, by omega⟩
      · rw [im_up_ne _ _ e, im_up_ne _ _ e, im_up_ne _ _ e]
        exact l18 g g1 (by omega)
  · show 0 ≤ as_over lw p 0 R - as_stay lw p 0 R ∧ as_over lw p 0 R - as_stay lw p 0 R ≤ R 2 p
    omega
theorem LOK_cnt {v : Nat → Int} {R : Nat → Int → Int} (h : LOK v R) {f : Int → Int} (hf : ∀ p, 0 ≤ f p ∧ f p ≤ 999) : LOK v (pl_U R 2 f) := by
  obtain ⟨l1, l2, l3, l4, l5, l6, l7, l8, l9, l10, l11, l12, l13, l14, l15, l16, l17, l18, l19⟩ := h
  exact ⟨l1, l2, l3, l4, l5, l6, l7, l8, hf, l10, l11, l12, l13, l14, l15, l16, l17, l18, l19⟩
theorem LOK_grow {v : Nat → Int} {R : Nat → Int → Int} (h : LOK v R) (p b : Int) : LOK v (pl_growBy p b v R).2 := by
  unfold pl_growBy
  split
  · exact h
  split
  · exact h
  split
  · exact h
  · exact LOK_cnt h (im_up_b (f := R 2) (lk_cnt h) (by omega))
theorem LOK_lend {v : Nat → Int} {R : Nat → Int → Int} (h : LOK v R) (a b n : Int) : LOK v (pl_lend a b n v R).2 := by
  unfold pl_lend
  split
  · exact h
  split
  · exact h
  split
  · exact h
  · rename_i h1 h2 h3
    have ca := lk_cnt h a
    have cb := lk_cnt h b
    have h4 : ∀ p, 0 ≤ im_up (R 2) a (R 2 a - n) p ∧ im_up (R 2) a (R 2 a - n) p ≤ 999 := im_up_b (f := R 2) (lk_cnt h) (by omega)
    refine LOK_cnt h (im_up_b h4 ?_)
    rw [im_up_at]
    split <;> omega
theorem LOK_act (lw : Option im_T) {v : Nat → Int} {R : Nat → Int → Int} (h : LOK v R) (kind a b n : Int) : LOK (pl_act lw kind a b n v R).2.1 (pl_act lw kind a b n v R).2.2 := by
  unfold pl_act
  split
  · exact LOK_send lw h a
  split
  · split
    · exact (LOK_day h).1
    · exact h
  split
  · exact LOK_lend h a b n
  · exact LOK_grow h a b
theorem LOK_add {v : Nat → Int} {R : Nat → Int → Int} (h : LOK v R) (u c : Int) : LOK (pl_add u c v R).2.1 (pl_add u c v R).2.2 := by
  unfold pl_add
  split
  · exact h
  rename_i h1
  split
  · exact h
  rename_i h2
  have hp := lk_par h
  have hf := lk_for h
  have hd : 0 ≤ pl_ad1 u R ∧ pl_ad1 u R ≤ v 0 := by
    unfold pl_ad1
    split
    · omega
    · have := (lk_low h (p := u) (by omega) (by omega)).2
      have := lk_dep h u
      omega
  obtain ⟨l1, l2, l3, l4, l5, l6, l7, l8, l9, l10, l11, l12, l13, l14, l15, l16, l17, l18, l19⟩ := h
  refine ⟨⟨by show 0 ≤ v 0 + 1; omega, by show v 0 + 1 ≤ 10; omega⟩, l2, l3, l4, l5, l6, ?_, ?_, ?_, ?_, l11, l12, l13, l14, l15, l16, ?_, ?_, ?_⟩
  · exact im_up_b (f := R 0) l7 (by omega)
  · exact im_up_b (f := R 1) l8 (by omega)
  · exact im_up_b (f := R 2) l9 (by omega)
  · exact im_up_b (f := R 3) l10 (by omega)
  · intro p q1 q2
    have q2' : p < v 0 + 1 := q2
    show im_up (R 0) (v 0) u p < p ∧ im_up (R 1) (v 0) (pl_ad1 u R) p ≤ p
    by_cases e : p = v 0
    · subst e
      rw [im_up_self, im_up_self]
      omega
    · rw [im_up_ne _ _ e, im_up_ne _ _ e]
      exact l17 p q1 (by omega)
  · intro g g1 g2
    have := l18 g g1 g2
    show R 4 g < v 0 + 1 ∧ _
    exact ⟨by omega, this.2⟩
  · intro p q1 q2
    have := l19 p q1 q2
    show R 8 p < v 0 + 1
    omega
theorem LOK_take {v v2 : Nat → Int} {R R2 : Nat → Int → Int} (h : LOK v R) (h2 : LOK v2 R2) : LOK (pl_v v v2) (pl_R R R2) := by
  have hg := lk_grp h2
  have hp := lk_par h2
  have hh := lk_hrd h2
  have key : ∀ {f f2 : Int → Int} {a b m : Int}, (∀ i, a ≤ f i ∧ f i ≤ b) → (∀ i, a ≤ f2 i ∧ f2 i ≤ b) → ∀ i, a ≤ im_cpy f2 f 0 0 m i ∧ im_cpy f2 f 0 0 m i ≤ b := by
    intro f f2 a b m q1 q2 i
    rw [im_cpy_at]
    split
    · exact q2 i
    · exact q1 i
  obtain ⟨l1, l2, l3, l4, l5, l6, l7, l8, l9, l10, l11, l12, l13, l14, l15, l16, l17, l18, l19⟩ := h
  obtain ⟨m1, m2, m3, m4, m5, m6, m7, m8, m9, m10, m11, m12, m13, m14, m15, m16, m17, m18, m19⟩ := h2
  have e7 : ∀ i, 0 ≤ i → i < 4 → (pl_R R R2) 7 i = R2 7 i := by
    intro i q1 q2
    show im_cpy (R2 7) (R 7) 0 0 4 i = _
    rw [im_cpy_at, if_pos ⟨q1, q2⟩]
  refine ⟨m1, m2, m3, m4, m5, m6, key l7 m7, key l8 m8, key l9 m9, key l10 m10, key l11 m11, key l12 m12, key l13 m13, ?_, key l15 m15, key l16 m16, ?_, ?_, ?_⟩
  · rw [e7 0 (by decide) (by decide), e7 1 (by decide) (by decide), e7 2 (by decide) (by decide), e7 3 (by decide) (by decide)]
    exact m14
  · intro p q1 q2
    have q2' : p < v2 0 := q2
    show im_cpy (R2 0) (R 0) 0 0 10 p < p ∧ im_cpy (R2 1) (R 1) 0 0 10 p ≤ p
    rw [im_cpy_at, im_cpy_at, if_pos (by omega), if_pos (by omega)]
    exact m17 p q1 q2'
  · intro g q1 q2
    have q2' : g < v2 1 := q2
    show im_cpy (R2 4) (R 4) 0 0 16 g < v2 0 ∧ 1 ≤ im_cpy (R2 5) (R 5) 0 0 16 g ∧ 1 ≤ im_cpy (R2 6) (R 6) 0 0 16 g
    rw [im_cpy_at, im_cpy_at, im_cpy_at, if_pos (by omega), if_pos (by omega), if_pos (by omega)]
    exact m18 g q1 q2'
  · intro p q1 q2
    have q2' : p < v2 3 := q2
    show im_cpy (R2 8) (R 8) 0 0 8 p < v2 0
    rw [im_cpy_at, if_pos (by omega)]
    exact m19 p q1 q2'
/-- the law in force, if there is one, is lw -/
def LWR (v : Nat → Int) (g : Int → Option Nat) (T : List im_T) (lw : Option im_T) : Prop := (v 5 < 0 ∧ lw = none) ∨ (0 ≤ v 5 ∧ ∃ t q, g (v 5) = some t ∧ T[t]? = some q ∧ TXOK q ∧ lw = some q)
section La
variable {ro : ab_R} {T : List im_T} {d : Nat}
theorem c_ask (hd : 4 ≤ d) (hT : T.length < 1000) {v : Nat → Int} {b : Int} (hb : b = 0 ∨ b = 1) {s : Int → Int} (hs : SOK s) {wd : Int → Int} (hwd : WOK wd) {lv : Nat → Int} {R : Nat → Int → Int} {g : Int → Option Nat} (h : LOK lv R) (hday : R 7 0 ≤ 100000) {lw : Option im_T} (hl : LWR lv g T lw) {p ten : Int} (hp : 0 ≤ p ∧ p < lv 0) (hten : 0 ≤ ten ∧ ten ≤ 99) : im_ct ro T d 2 [mr 0, mr 4, .inl p, .inl ten] (CC 0 v b s wd ++ LC 4 lv R g) (fun r w => r = none ∧ ∃ b1 s1 wd1, (b1 = 0 ∨ b1 = 1) ∧ SOK s1 ∧ WOK wd1 ∧ w = CC 0 (as_v lw p ten R) b1 s1 wd1 ++ LC 4 lv R g) := by
  rcases hl with ⟨hf, rfl⟩ | ⟨hf, t, q, hg, hq, hok, rfl⟩
  · exact c_askNo hd hT hb hs hwd h hday hf hp hten
  · exact c_askIs hd hT hb hs hwd h hday hf hg hq hok hp hten
theorem c_send (hd : 5 ≤ d) (hT : T.length < 1000) {v : Nat → Int} {R : Nat → Int → Int} {g : Int → Option Nat} (h : LOK v R) (hday : R 7 0 ≤ 100000) {lw : Option im_T} (hl : LWR v g T lw) {cv : Nat → Int} {b : Int} (hb : b = 0 ∨ b = 1) {s : Int → Int} (hs : SOK s) {wd : Int → Int} (hwd : WOK wd) {p : Int} (hp : im_ir p) : im_ct ro T d 10 [mr 0, .inl p, mr 12] (LC 0 v R g ++ CC 12 cv b s wd) (fun r w => r = some (.inl (pl_send lw p v R).1) ∧ ∃ cv1 b1 s1 wd1, (b1 = 0 ∨ b1 = 1) ∧ SOK s1 ∧ WOK wd1 ∧ w = LC 0 (pl_send lw p v R).2.1 (pl_send lw p v R).2.2 g ++ CC 12 cv1 b1 s1 wd1) := by
  rcases hl with ⟨hf, rfl⟩ | ⟨hf, t, q, hg, hq, hok, rfl⟩
  · exact c_sendNo hd hT h hday hf hb hs hwd hp
  · exact c_sendIs hd hT h hday hf hg hq hok hb hs hwd hp
theorem c_act (hd : 6 ≤ d) (hT : T.length < 1000) {v : Nat → Int} {R : Nat → Int → Int} {g : Int → Option Nat} (h : LOK v R) (hday : R 7 0 ≤ 100000) {lw : Option im_T} (hl : LWR v g T lw) {cv : Nat → Int} {b : Int} (hb : b = 0 ∨ b = 1) {s : Int → Int} (hs : SOK s) {wd : Int → Int} (hwd : WOK wd) {kind a b2 n : Int} (hkd : 0 ≤ kind ∧ kind ≤ 3) (ha : im_ir a) (hb2 : im_ir b2) (hn : im_ir n) : im_ct ro T d 9 [mr 0, .inl kind, .inl a, .inl b2, .inl n, mr 12] (LC 0 v R g ++ CC 12 cv b s wd) (fun r w => r = some (.inl (pl_act lw kind a b2 n v R).1) ∧ ∃ cv1 b1 s1 wd1, (b1 = 0 ∨ b1 = 1) ∧ SOK s1 ∧ WOK wd1 ∧ w = LC 0 (pl_act lw kind a b2 n v R).2.1 (pl_act lw kind a b2 n v R).2.2 g ++ CC 12 cv1 b1 s1 wd1) := by
  rcases hl with ⟨hf, rfl⟩ | ⟨hf, t, q, hg, hq, hok, rfl⟩
  · exact c_actNo hd hT h hday hf hb hs hwd hkd ha hb2 hn
  · exact c_actIs hd hT h hday hf hg hq hok hb hs hwd hkd ha hb2 hn
end La
