/-! orders, by their clauses -/
theorem BT_all {p : Int} (hp : 0 ≤ p ∧ p < 10) : BT 1023 p := by
  obtain ⟨n, rfl⟩ : ∃ n : Nat, p = n := ⟨p.toNat, by omega⟩
  have t := BT_nat (u := 1023) (p := n) (by decide) (by omega)
  refine t.mpr ?_
  have e : n = 0 ∨ n = 1 ∨ n = 2 ∨ n = 3 ∨ n = 4 ∨ n = 5 ∨ n = 6 ∨ n = 7 ∨ n = 8 ∨ n = 9 := by omega
  rcases e with rfl | rfl | rfl | rfl | rfl | rfl | rfl | rfl | rfl | rfl <;> decide
theorem fw_mask (lw : Option im_T) {u : Int} {m : dM} (hm : DPm true m u) (latest done : Int) (v : Nat → Int) (R : Nat → Int → Int) : m (fw lw u latest done v R) = m (fw lw 1023 latest done v R) := by
  refine hm rfl _ _ (fun k h1 h2 => ?_) (fun p h1 h2 h3 => ?_)
  · unfold fw
    by_cases e0 : k = 0
    · rw [if_pos e0, if_pos e0]
    rw [if_neg e0, if_neg e0]
    by_cases e1 : k = 1
    · rw [if_pos e1, if_pos e1]
    rw [if_neg e1, if_neg e1]
    by_cases e2 : k = 2
    · rw [if_pos e2, if_pos e2]
    rw [if_neg e2, if_neg e2]
    by_cases e3 : k = 3
    · rw [if_pos e3, if_pos e3]
    rw [if_neg e3, if_neg e3]
    by_cases e4 : k = 4
    · rw [if_pos e4, if_pos e4]
    rw [if_neg e4, if_neg e4, if_pos h2, if_pos h2]
  · unfold fw
    rw [if_neg (by omega), if_neg (by omega), if_neg (by omega), if_neg (by omega), if_neg (by omega), if_neg (by omega), if_neg (by omega), if_neg (by omega), if_neg (by omega), if_neg (by omega), if_neg (by omega), if_neg (by omega), show 15 + p - 15 = p by omega]
    unfold fw_ovr
    have h4 := BT_all (p := p) ⟨h1, h2⟩
    unfold BT at h3 h4
    by_cases c : 0 ≤ p ∧ p < v 0 ∧ p < 10
    · rw [if_pos ⟨c, h3⟩, if_pos ⟨c, h4⟩]
    · rw [if_neg (fun z => c z.1), if_neg (fun z => c z.1)]
/-- a clause once: does it stop; what is then -/
def rn_1 (lw : Option im_T) (cl : dC) (z : ru_S) : Bool × ru_S :=
  if ¬ ((d_enc (cl.2.2.2.2 (fw lw 1023 z.2.2.1.1 z.2.2.1.2 z.1 z.2.1))).2 = 0 ∧ ¬ (d_enc (cl.2.2.2.2 (fw lw 1023 z.2.2.1.1 z.2.2.1.2 z.1 z.2.1))).1 = 0) then (false, z)
  else if ¬ ((d_enc (cl.2.2.1 (fw lw 1023 z.2.2.1.1 z.2.2.1.2 z.1 z.2.1))).2 = 0 ∧ (d_enc (cl.2.2.2.1 (fw lw 1023 z.2.2.1.1 z.2.2.1.2 z.1 z.2.1))).2 = 0) then (true, z)
  else if (pl_act lw cl.1 (d_enc (cl.2.2.1 (fw lw 1023 z.2.2.1.1 z.2.2.1.2 z.1 z.2.1))).1 (d_enc (cl.2.2.2.1 (fw lw 1023 z.2.2.1.1 z.2.2.1.2 z.1 z.2.1))).1 1 z.1 z.2.1).1 < 0 then (true, (pl_act lw cl.1 (d_enc (cl.2.2.1 (fw lw 1023 z.2.2.1.1 z.2.2.1.2 z.1 z.2.1))).1 (d_enc (cl.2.2.2.1 (fw lw 1023 z.2.2.1.1 z.2.2.1.2 z.1 z.2.1))).1 1 z.1 z.2.1).2.1, (pl_act lw cl.1 (d_enc (cl.2.2.1 (fw lw 1023 z.2.2.1.1 z.2.2.1.2 z.1 z.2.1))).1 (d_enc (cl.2.2.2.1 (fw lw 1023 z.2.2.1.1 z.2.2.1.2 z.1 z.2.1))).1 1 z.1 z.2.1).2.2, z.2.2.1, z.2.2.2.1, pt_note (pt_at z.2.2.2.1.1 z.2.2.2.1.2) cl.1 z.1 z.2.1 z.2.2.2.2)
  else (false, (pl_act lw cl.1 (d_enc (cl.2.2.1 (fw lw 1023 z.2.2.1.1 z.2.2.1.2 z.1 z.2.1))).1 (d_enc (cl.2.2.2.1 (fw lw 1023 z.2.2.1.1 z.2.2.1.2 z.1 z.2.1))).1 1 z.1 z.2.1).2.1, (pl_act lw cl.1 (d_enc (cl.2.2.1 (fw lw 1023 z.2.2.1.1 z.2.2.1.2 z.1 z.2.1))).1 (d_enc (cl.2.2.2.1 (fw lw 1023 z.2.2.1.1 z.2.2.1.2 z.1 z.2.1))).1 1 z.1 z.2.1).2.2, (if cl.1 = 0 then (pl_act lw cl.1 (d_enc (cl.2.2.1 (fw lw 1023 z.2.2.1.1 z.2.2.1.2 z.1 z.2.1))).1 (d_enc (cl.2.2.2.1 (fw lw 1023 z.2.2.1.1 z.2.2.1.2 z.1 z.2.1))).1 1 z.1 z.2.1).1 else z.2.2.1.1, z.2.2.1.2 + 1), pt_keep z.2.2.2.1.1 z.2.2.2.1.2, pt_note (pt_at z.2.2.2.1.1 z.2.2.2.1.2) cl.1 z.1 z.2.1 z.2.2.2.2)
def rn_t (lw : Option im_T) (cl : dC) : Nat → ru_S → Bool × ru_S
  | 0, z => (false, z)
  | n + 1, z => if (rn_1 lw cl z).1 = true then (true, (rn_1 lw cl z).2) else rn_t lw cl n (rn_1 lw cl z).2
def rn_c (lw : Option im_T) : List dC → Int → ru_S → Option Int × ru_S
  | [], _, z => (none, z)
  | cl :: r, c, z => if (rn_t lw cl cl.2.1.toNat z).1 = true then (some c, (rn_t lw cl cl.2.1.toNat z).2) else rn_c lw r (c + 1) (rn_t lw cl cl.2.1.toNat z).2
/-- a text of orders means these clauses, its mask tells whose over they ask -/
def TRO (q : im_T) (Cs : List dC) : Prop := TRL true q Cs ∧ ∀ cl ∈ Cs, (1 ≤ cl.2.1 ∧ cl.2.1 ≤ 20) ∧ (0 ≤ cl.1 ∧ cl.1 ≤ 3) ∧ DPm true cl.2.2.1 q.1.2.2 ∧ DPm true cl.2.2.2.1 q.1.2.2 ∧ DPm true cl.2.2.2.2 q.1.2.2
theorem rn_1_ru {lw : Option im_T} {q : im_T} {Cs : List dC} (h : TRO q Cs) {i : Nat} {cl : dC} (hi : Cs[i]? = some cl) (z : ru_S) : ru_1 lw q (i : Int) z = rn_1 lw cl z := by
  obtain ⟨h1, h2⟩ := h
  obtain ⟨a0, a1, a2, -⟩ := h1.2 i cl hi
  obtain ⟨-, -, m1, m2, m3⟩ := h2 cl (List.mem_of_getElem? hi)
  obtain ⟨b1, b2, b3⟩ := a2 25 rfl (fw lw q.1.2.2 z.2.2.1.1 z.2.2.1.2 z.1 z.2.1)
  have e1 : ru_ev lw q (i : Int) 2 z = d_enc (cl.2.2.1 (fw lw 1023 z.2.2.1.1 z.2.2.1.2 z.1 z.2.1)) := b1.trans (by rw [fw_mask lw m1])
  have e2 : ru_ev lw q (i : Int) 3 z = d_enc (cl.2.2.2.1 (fw lw 1023 z.2.2.1.1 z.2.2.1.2 z.1 z.2.1)) := b2.trans (by rw [fw_mask lw m2])
  have e3 : ru_ev lw q (i : Int) 4 z = d_enc (cl.2.2.2.2 (fw lw 1023 z.2.2.1.1 z.2.2.1.2 z.1 z.2.1)) := b3.trans (by rw [fw_mask lw m3])
  unfold ru_1 rn_1
  rw [e1, e2, e3, a0]
theorem rn_t_ru {lw : Option im_T} {q : im_T} {Cs : List dC} (h : TRO q Cs) {i : Nat} {cl : dC} (hi : Cs[i]? = some cl) : ∀ (n : Nat) (z : ru_S), ru_t lw q (i : Int) n z = rn_t lw cl n z
  | 0, z => rfl
  | n + 1, z => by
    unfold ru_t rn_t
    rw [rn_1_ru h hi, rn_t_ru h hi n]
theorem rn_c_ru {lw : Option im_T} {q : im_T} {Cs : List dC} (h : TRO q Cs) : ∀ (n i : Nat) (z : ru_S), i + n = Cs.length → ru_c lw q n (i : Int) z = rn_c lw (Cs.drop i) (i : Int) z
  | 0, i, z, hn => by
    rw [List.drop_eq_nil_of_le (by omega)]
    rfl
  | n + 1, i, z, hn => by
    have hi : Cs[i]? = some Cs[i] := List.getElem?_eq_getElem (by omega)
    have hd : Cs.drop i = Cs[i] :: Cs.drop (i + 1) := List.drop_eq_getElem_cons (by omega)
    have a1 := (h.1.2 i _ hi).2.1
    have ht := (h.2 _ (List.mem_of_getElem? hi)).1
    have en : ru_n q (i : Int) = Cs[i].2.1.toNat := by
      unfold ru_n
      rw [a1]
      omega
    have ih := fun z => rn_c_ru (lw := lw) h n (i + 1) z (by omega)
    rw [hd]
    unfold ru_c rn_c
    rw [en, rn_t_ru h hi]
    have e : ((i + 1 : Nat) : Int) = (i : Int) + 1 := by omega
    rw [e] at ih
    rw [ih]
/-- a sum that is far off is as good as any -/
def sm (x : Int) : Int := if x < -1000000 ∨ 1000000 < x then 1000000 else x
theorem lend_no {a b : Int} {v : Nat → Int} {R : Nat → Int → Int} (h : ¬ (0 ≤ a ∧ a < v 0 ∧ a < 10) ∨ ¬ (0 ≤ b ∧ b < v 0 ∧ b < 10)) : pl_lend a b 1 v R = (-2, R) := by
  unfold pl_lend
  rw [if_neg (by decide), if_pos h]
theorem send_no2 {lw : Option im_T} {p : Int} {v : Nat → Int} {R : Nat → Int → Int} (h : ¬ (0 ≤ p ∧ p < v 0 ∧ p < 10)) : pl_send lw p v R = (-2, v, R) := by
  unfold pl_send
  rw [if_pos h]
theorem grow_no1 {p b : Int} {v : Nat → Int} {R : Nat → Int → Int} (h : b < -99 ∨ 99 < b) : pl_growBy p b v R = (-1, R) := by
  unfold pl_growBy
  rw [if_pos h]
theorem grow_no2 {p b : Int} {v : Nat → Int} {R : Nat → Int → Int} (h0 : ¬ (b < -99 ∨ 99 < b)) (h : ¬ (0 ≤ p ∧ p < v 0 ∧ p < 10)) : pl_growBy p b v R = (-2, R) := by
  unfold pl_growBy
  rw [if_neg h0, if_pos h]
theorem sm_act (lw : Option im_T) (K a b : Int) (v : Nat → Int) (R : Nat → Int → Int) : pl_act lw K (sm a) (sm b) 1 v R = pl_act lw K a b 1 v R := by
  have ha : sm a = a ∨ ((a < -1000000 ∨ 1000000 < a) ∧ sm a = 1000000) := by
    unfold sm
    split
    · exact Or.inr ⟨by assumption, rfl⟩
    · exact Or.inl rfl
  have hb : sm b = b ∨ ((b < -1000000 ∨ 1000000 < b) ∧ sm b = 1000000) := by
    unfold sm
    split
    · exact Or.inr ⟨by assumption, rfl⟩
    · exact Or.inl rfl
  unfold pl_act
  by_cases k0 : K = 0
  · rw [if_pos k0, if_pos k0]
    rcases ha with e | ⟨e1, e2⟩
    · rw [e]
    · rw [e2]
      rw [send_no2 (by omega), send_no2 (by omega)]
  rw [if_neg k0, if_neg k0]
  by_cases k1 : K = 1
  · rw [if_pos k1, if_pos k1]
  rw [if_neg k1, if_neg k1]
  by_cases k2 : K = 2
  · rw [if_pos k2, if_pos k2]
    have e : pl_lend (sm a) (sm b) 1 v R = pl_lend a b 1 v R := by
      rcases ha with e | ⟨e1, e2⟩
      · rcases hb with f | ⟨f1, f2⟩
        · rw [e, f]
        · rw [e, f2, lend_no (by omega), lend_no (by omega)]
      · rw [e2, lend_no (by omega), lend_no (by omega)]
    rw [e]
  rw [if_neg k2, if_neg k2]
  have e : pl_growBy (sm a) (sm b) v R = pl_growBy a b v R := by
    rcases hb with f | ⟨f1, f2⟩
    · rw [f]
      rcases ha with e | ⟨e1, e2⟩
      · rw [e]
      · rw [e2]
        by_cases c : b < -99 ∨ 99 < b
        · rw [grow_no1 c, grow_no1 c]
        · rw [grow_no2 c (by omega), grow_no2 c (by omega)]
    · rw [f2, grow_no1 (by decide), grow_no1 (by omega)]
  rw [e]
/-! lands alike -/
def LQ (v : Nat → Int) (R : Nat → Int → Int) (v' : Nat → Int) (R' : Nat → Int → Int) : Prop := (∀ j, j < 6 → v j = v' j) ∧ (∀ p, 0 ≤ p → p < 10 → R 0 p = R' 0 p ∧ R 1 p = R' 1 p ∧ R 2 p = R' 2 p ∧ R 3 p = R' 3 p) ∧ (∀ g, 0 ≤ g → g < 16 → R 4 g = R' 4 g ∧ R 5 g = R' 5 g ∧ R 6 g = R' 6 g) ∧ (∀ t, 0 ≤ t → t < 4 → R 7 t = R' 7 t)
theorem LQ_RQ {v v' : Nat → Int} {R R' : Nat → Int → Int} (h : LQ v R v' R') {p : Int} (hp : 0 ≤ p ∧ p < 10) : RQ p R R' := by
  obtain ⟨a, b, c, d⟩ := h
  obtain ⟨b0, b1, b2, b3⟩ := b p hp.1 hp.2
  exact ⟨b0, b1, b2, b3, d 0 (by decide) (by decide), d 1 (by decide) (by decide), d 3 (by decide) (by decide)⟩
theorem LQ_take (sv v : Nat → Int) (sR R : Nat → Int → Int) : LQ (pl_v sv v) (pl_R sR R) v R := by
  refine ⟨fun j hj => ?_, fun p q1 q2 => ?_, fun g q1 q2 => ?_, fun t q1 q2 => ?_⟩
  · have e : j = 0 ∨ j = 1 ∨ j = 2 ∨ j = 3 ∨ j = 4 ∨ j = 5 := by omega
    rcases e with rfl | rfl | rfl | rfl | rfl | rfl <;> rfl
  · have t := pl_R_q sR R p q1 q2
    exact ⟨t.1, t.2.1, t.2.2.1, t.2.2.2.1⟩
  · have e : ∀ f g2 : Int → Int, im_cpy f g2 0 0 16 g = f g := by intro f g2; rw [im_cpy_at, if_pos ⟨q1, q2⟩]
    exact ⟨e _ _, e _ _, e _ _⟩
  · have e : ∀ f g2 : Int → Int, im_cpy f g2 0 0 4 t = f t := by intro f g2; rw [im_cpy_at, if_pos ⟨q1, q2⟩]
    exact e _ _
theorem LQ_cnt {v v' : Nat → Int} {R R' : Nat → Int → Int} (h : LQ v R v' R') {p x : Int} : LQ v (pl_U R 2 (im_up (R 2) p x)) v' (pl_U R' 2 (im_up (R' 2) p x)) := by
  obtain ⟨a, b, c, d⟩ := h
  refine ⟨a, fun q q1 q2 => ?_, c, d⟩
  obtain ⟨b0, b1, b2, b3⟩ := b q q1 q2
  refine ⟨b0, b1, ?_, b3⟩
  show im_up (R 2) p x q = im_up (R' 2) p x q
  unfold im_up
  rw [b2]
theorem LQ_leave {v v' : Nat → Int} {R R' : Nat → Int → Int} (h : LQ v R v' R') (p n : Int) : LQ v (pl_leave p n v R) v' (pl_leave p n v' R') := by
  have e0 := h.1 0 (by decide)
  unfold pl_leave
  rw [← e0]
  split
  · rename_i hp
    obtain ⟨a, b, c, d⟩ := h
    obtain ⟨p0, p1, p2, p3⟩ := b p hp.1 hp.2.2
    refine ⟨a, fun q q1 q2 => ?_, c, d⟩
    obtain ⟨b0, b1, b2, b3⟩ := b q q1 q2
    refine ⟨b0, b1, ?_, ?_⟩
    · show im_up (R 2) p (R 2 p - n) q = im_up (R' 2) p (R' 2 p - n) q
      unfold im_up
      rw [b2, p2]
    · show im_up (R 3) p (min 99999 (R 3 p + n)) q = im_up (R' 3) p (min 99999 (R' 3 p + n)) q
      unfold im_up
      rw [b3, p3]
  · exact h
theorem LQ_arr {v v' : Nat → Int} {R R' : Nat → Int → Int} (h : LQ v R v' R') (p n : Int) : LQ (pl_arr p n v R).1 (pl_arr p n v R).2 (pl_arr p n v' R').1 (pl_arr p n v' R').2 := by
  have e0 := h.1 0 (by decide)
  unfold pl_arr
  rw [← e0]
  split
  · rename_i hp
    have e := (h.2.1 p hp.1 hp.2.2).2.2.1
    have t := LQ_cnt h (p := p) (x := min 999 (R 2 p + n))
    rw [← e]
    exact t
  · obtain ⟨a, b, c, d⟩ := h
    refine ⟨fun j hj => ?_, b, c, d⟩
    show pl_U (pl_U v 2 (min 99999 (v 2 + n))) 6 (v 6 + n) j = pl_U (pl_U v' 2 (min 99999 (v' 2 + n))) 6 (v' 6 + n) j
    have h6 : ¬ j = 6 := by omega
    unfold pl_U
    rw [if_neg h6, if_neg h6]
    by_cases h2 : j = 2
    · rw [if_pos h2, if_pos h2, a 2 (by decide)]
    · rw [if_neg h2, if_neg h2, a j hj]
theorem LQ_send {lw : Option im_T} {v v' : Nat → Int} {R R' : Nat → Int → Int} (h : LQ v R v' R') (p : Int) : (pl_send lw p v R).1 = (pl_send lw p v' R').1 ∧ LQ (pl_send lw p v R).2.1 (pl_send lw p v R).2.2 (pl_send lw p v' R').2.1 (pl_send lw p v' R').2.2 := by
  have e0 := h.1 0 (by decide)
  have e1 := h.1 1 (by decide)
  unfold pl_send
  rw [← e0]
  by_cases hp : 0 ≤ p ∧ p < v 0 ∧ p < 10
  · have hq := LQ_RQ h (p := p) ⟨hp.1, hp.2.2⟩
    have o := as_over_q (lw := lw) (ten := 0) hq
    have s := as_stay_q (lw := lw) (ten := 0) hq
    have t := as_steps_q (lw := lw) (ten := 0) hq
    have b := as_bar_q (lw := lw) (ten := 0) hq
    have c0 : ¬ ¬ (0 ≤ p ∧ p < v 0 ∧ p < 10) := fun z => z hp
    rw [if_neg c0, if_neg c0, ← o, ← s, ← t, ← b, ← e1]
    by_cases c1 : as_bar lw p 0 R = 1
    · rw [if_pos c1, if_pos c1]
      exact ⟨rfl, h⟩
    rw [if_neg c1, if_neg c1]
    by_cases c2 : as_over lw p 0 R - as_stay lw p 0 R = 0
    · rw [if_pos c2, if_pos c2]
      exact ⟨rfl, h⟩
    rw [if_neg c2, if_neg c2]
    by_cases c3 : 16 ≤ v 1
    · rw [if_pos c3, if_pos c3]
      exact ⟨rfl, h⟩
    · rw [if_neg c3, if_neg c3]
      refine ⟨rfl, ?_⟩
      generalize as_over lw p 0 R - as_stay lw p 0 R = wk
      generalize as_steps lw p 0 R = st
      refine LQ_leave ?_ p wk
      obtain ⟨a, b, c, d⟩ := h
      refine ⟨fun j hj => ?_, b, fun g q1 q2 => ?_, d⟩
      · show pl_U v 1 (v 1 + 1) j = pl_U v' 1 (v 1 + 1) j
        unfold pl_U
        rw [a j hj]
      · obtain ⟨c1, c2, c3⟩ := c g q1 q2
        refine ⟨?_, ?_, ?_⟩
        · show im_up (R 4) _ _ g = im_up (R' 4) _ _ g
          unfold im_up
          rw [c1]
        · show im_up (R 5) _ _ g = im_up (R' 5) _ _ g
          unfold im_up
          rw [c2]
        · show im_up (R 6) _ _ g = im_up (R' 6) _ _ g
          unfold im_up
          rw [c3]
  · rw [if_pos hp, if_pos hp]
    exact ⟨rfl, h⟩
theorem LQ_d1 {k : Int} (hk : 0 ≤ k ∧ k < 16) {q q' : pl_Q} (h : LQ q.1 q.2.1 q'.1 q'.2.1) (h2 : q.2.2 = q'.2.2) (h4 : 0 ≤ q.2.1 4 k ∧ q.2.1 4 k ≤ 9) : LQ (pl_d1 k q).1 (pl_d1 k q).2.1 (pl_d1 k q').1 (pl_d1 k q').2.1 ∧ (pl_d1 k q).2.2 = (pl_d1 k q').2.2 := by
  obtain ⟨qv, qR, qa, qs⟩ := q
  obtain ⟨qv', qR', qa', qs'⟩ := q'
  cases h2
  dsimp only at h h4
  obtain ⟨k4, k5, k6⟩ := h.2.2.1 k hk.1 hk.2
  have kb := (h.2.1 (qR 4 k) h4.1 (by omega)).1
  have hg : LQ qv (pl_U qR 6 (im_up (qR 6) k (qR 6 k - 1))) qv' (pl_U qR' 6 (im_up (qR' 6) k (qR' 6 k - 1))) := by
    obtain ⟨a, b, c, d⟩ := h
    refine ⟨a, b, fun g q1 q2 => ?_, d⟩
    obtain ⟨c1, c2, c3⟩ := c g q1 q2
    refine ⟨c1, c2, ?_⟩
    show im_up (qR 6) k (qR 6 k - 1) g = im_up (qR' 6) k (qR' 6 k - 1) g
    unfold im_up
    rw [c3, k6]
  unfold pl_d1
  dsimp only
  by_cases c0 : 0 < qR 6 k - 1
  · have c0' : 0 < qR' 6 k - 1 := by rw [← k6]; exact c0
    rw [if_pos c0, if_pos c0']
    refine ⟨?_, rfl⟩
    obtain ⟨a, b, c, d⟩ := h
    refine ⟨a, b, fun g q1 q2 => ?_, d⟩
    obtain ⟨c1, c2, c3⟩ := c g q1 q2
    refine ⟨?_, ?_, ?_⟩
    · show im_up (qR 4) qs (qR 4 k) g = im_up (qR' 4) qs (qR' 4 k) g
      unfold im_up
      rw [c1, k4]
    · show im_up (qR 5) qs (qR 5 k) g = im_up (qR' 5) qs (qR' 5 k) g
      unfold im_up
      rw [c2, k5]
    · show im_up (im_up (qR 6) k (qR 6 k - 1)) qs (qR 6 k - 1) g = im_up (im_up (qR' 6) k (qR' 6 k - 1)) qs (qR' 6 k - 1) g
      unfold im_up
      rw [k6, c3]
  · have c0' : ¬ 0 < qR' 6 k - 1 := by rw [← k6]; exact c0
    rw [if_neg c0, if_neg c0']
    have t := LQ_arr hg (qR 0 (qR 4 k)) (qR 5 k)
    rw [← k4, ← kb, ← k5]
    exact ⟨t, rfl⟩
theorem LQ_dy {v v' : Nat → Int} {R R' : Nat → Int → Int} (h : LQ v R v' R') (hlo : LOK v R) : ∀ k : Nat, (k : Int) ≤ v 1 → LQ (pl_dy v R k).1 (pl_dy v R k).2.1 (pl_dy v' R' k).1 (pl_dy v' R' k).2.1 ∧ (pl_dy v R k).2.2 = (pl_dy v' R' k).2.2
  | 0, _ => by
    refine ⟨⟨fun j hj => ?_, h.2⟩, rfl⟩
    show pl_U v 6 0 j = pl_U v' 6 0 j
    unfold pl_U
    rw [if_neg (by omega), if_neg (by omega)]
    exact h.1 j hj
  | k + 1, hk => by
    have hg := lk_grp hlo
    obtain ⟨i1, i2⟩ := LQ_dy h hlo k (by omega)
    have hP := PDI_k hlo k (by omega)
    exact LQ_d1 (k := (k : Int)) (by omega) i1 i2 (hP.2.2.2.2.2.2.2.1 (k : Int))
theorem LQ_day {v v' : Nat → Int} {R R' : Nat → Int → Int} (h : LQ v R v' R') (hlo : LOK v R) : (pl_day v R).1 = (pl_day v' R').1 ∧ LQ (pl_day v R).2.1 (pl_day v R).2.2 (pl_day v' R').2.1 (pl_day v' R').2.2 := by
  have hg := lk_grp hlo
  have e1 := h.1 1 (by decide)
  obtain ⟨i1, i2⟩ := LQ_dy h hlo (v 1).toNat (by omega)
  unfold pl_day
  rw [← e1]
  refine ⟨by dsimp only; rw [i2], ?_⟩
  obtain ⟨a, b, c, d⟩ := i1
  refine ⟨fun j hj => ?_, b, c, fun t q1 q2 => ?_⟩
  · show pl_U _ 1 _ j = pl_U _ 1 _ j
    unfold pl_U
    rw [i2, a j hj]
  · show im_up _ 0 _ t = im_up _ 0 _ t
    unfold im_up
    rw [d t q1 q2, d 0 (by decide) (by decide)]
theorem LQ_grow {v v' : Nat → Int} {R R' : Nat → Int → Int} (h : LQ v R v' R') (p b : Int) : (pl_growBy p b v R).1 = (pl_growBy p b v' R').1 ∧ LQ v (pl_growBy p b v R).2 v' (pl_growBy p b v' R').2 := by
  have e0 := h.1 0 (by decide)
  unfold pl_growBy
  rw [← e0]
  by_cases cb : b < -99 ∨ 99 < b
  · rw [if_pos cb, if_pos cb]
    exact ⟨rfl, h⟩
  rw [if_neg cb, if_neg cb]
  by_cases hp : 0 ≤ p ∧ p < v 0 ∧ p < 10
  · have e := (h.2.1 p hp.1 hp.2.2).2.2.1
    have c0 : ¬ ¬ (0 ≤ p ∧ p < v 0 ∧ p < 10) := fun z => z hp
    rw [if_neg c0, if_neg c0, ← e]
    by_cases c1 : R 2 p + b < 0 ∨ 999 < R 2 p + b
    · rw [if_pos c1, if_pos c1]
      exact ⟨rfl, h⟩
    · rw [if_neg c1, if_neg c1]
      exact ⟨rfl, LQ_cnt h⟩
  · rw [if_pos hp, if_pos hp]
    exact ⟨rfl, h⟩
theorem LQ_lend {v v' : Nat → Int} {R R' : Nat → Int → Int} (h : LQ v R v' R') (a b n : Int) : (pl_lend a b n v R).1 = (pl_lend a b n v' R').1 ∧ LQ v (pl_lend a b n v R).2 v' (pl_lend a b n v' R').2 := by
  have e0 := h.1 0 (by decide)
  unfold pl_lend
  rw [← e0]
  by_cases cn : n < 1 ∨ 99 < n
  · rw [if_pos cn, if_pos cn]
    exact ⟨rfl, h⟩
  rw [if_neg cn, if_neg cn]
  by_cases hp : ¬ (0 ≤ a ∧ a < v 0 ∧ a < 10) ∨ ¬ (0 ≤ b ∧ b < v 0 ∧ b < 10)
  · rw [if_pos hp, if_pos hp]
    exact ⟨rfl, h⟩
  · rw [if_neg hp, if_neg hp]
    have ha : 0 ≤ a ∧ a < v 0 ∧ a < 10 := by omega
    have hb : 0 ≤ b ∧ b < v 0 ∧ b < 10 := by omega
    have ea := h.2.1 a ha.1 ha.2.2
    have eb := h.2.1 b hb.1 hb.2.2
    rw [← ea.1, ← eb.1, ← ea.2.2.1, ← eb.2.2.1]
    by_cases c1 : ¬ (R 0 a = b ∨ R 0 b = a) ∨ R 2 a < n ∨ 999 < R 2 b + n
    · rw [if_pos c1, if_pos c1]
      exact ⟨rfl, h⟩
    · rw [if_neg c1, if_neg c1]
      have t := LQ_cnt h (p := a) (x := R 2 a - n)
      have e3 : im_up (R' 2) a (R 2 a - n) b = im_up (R 2) a (R 2 a - n) b := by
        unfold im_up
        rw [eb.2.2.1]
      have t2 := LQ_cnt t (p := b) (x := im_up (R 2) a (R 2 a - n) b + n)
      refine ⟨?_, ?_⟩
      · show im_up (im_up (R 2) a (R 2 a - n)) b (im_up (R 2) a (R 2 a - n) b + n) a = im_up (im_up (R' 2) a (R 2 a - n)) b (im_up (R' 2) a (R 2 a - n) b + n) a
        rw [e3]
        unfold im_up
        rw [ea.2.2.1]
      · show LQ v (pl_U R 2 (im_up (im_up (R 2) a (R 2 a - n)) b (im_up (R 2) a (R 2 a - n) b + n))) v' (pl_U R' 2 (im_up (im_up (R' 2) a (R 2 a - n)) b (im_up (R' 2) a (R 2 a - n) b + n)))
        rw [e3]
        obtain ⟨t1, t3, t4, t5⟩ := t2
        exact ⟨t1, t3, t4, t5⟩
theorem LQ_act {lw : Option im_T} {v v' : Nat → Int} {R R' : Nat → Int → Int} (h : LQ v R v' R') (hlo : LOK v R) (K a b n : Int) : (pl_act lw K a b n v R).1 = (pl_act lw K a b n v' R').1 ∧ LQ (pl_act lw K a b n v R).2.1 (pl_act lw K a b n v R).2.2 (pl_act lw K a b n v' R').2.1 (pl_act lw K a b n v' R').2.2 := by
  have e70 := h.2.2.2 0 (by decide) (by decide)
  unfold pl_act
  by_cases k0 : K = 0
  · rw [if_pos k0, if_pos k0]
    exact LQ_send h a
  rw [if_neg k0, if_neg k0]
  by_cases k1 : K = 1
  · rw [if_pos k1, if_pos k1, ← e70]
    by_cases c : R 7 0 < 999
    · rw [if_pos c, if_pos c]
      exact LQ_day h hlo
    · rw [if_neg c, if_neg c]
      exact ⟨rfl, h⟩
  rw [if_neg k1, if_neg k1]
  by_cases k2 : K = 2
  · rw [if_pos k2, if_pos k2]
    exact LQ_lend h a b n
  · rw [if_neg k2, if_neg k2]
    exact LQ_grow h a b
theorem LQ_sum {v v' : Nat → Int} {R R' : Nat → Int → Int} (h : LQ v R v' R') : ∀ k : Nat, k ≤ 16 → pl_sum (R 5) k = pl_sum (R' 5) k
  | 0, _ => rfl
  | k + 1, hk => by
    have ih := LQ_sum h k (by omega)
    show pl_sum (R 5) k + R 5 (k : Int) = pl_sum (R' 5) k + R' 5 (k : Int)
    rw [ih, (h.2.2.1 (k : Int) (by omega) (by omega)).2.1]
theorem LQ_fw {lw : Option im_T} {v v' : Nat → Int} {R R' : Nat → Int → Int} (h : LQ v R v' R') (hlo : LOK v R) (u la dn : Int) : fw lw u la dn v R = fw lw u la dn v' R' := by
  have hg := lk_grp hlo
  have e0 := h.1 0 (by decide)
  funext i
  unfold fw fw_cnt fw_ovr
  rw [← e0, ← h.1 1 (by decide), ← h.1 2 (by decide), ← h.2.2.2 0 (by decide) (by decide), LQ_sum h (v 1).toNat (by omega)]
  by_cases c1 : 0 ≤ i - 5 ∧ i - 5 < v 0 ∧ i - 5 < 10
  · rw [if_pos c1, if_pos c1, (h.2.1 (i - 5) c1.1 c1.2.2).2.2.1]
    by_cases c2 : (0 ≤ i - 15 ∧ i - 15 < v 0 ∧ i - 15 < 10) ∧ ¬ im_and (im_shr u (i - 15)) 1 = 0
    · rw [if_pos c2, if_pos c2, as_over_q (LQ_RQ h ⟨c2.1.1, c2.1.2.2⟩)]
    · rw [if_neg c2, if_neg c2]
  · rw [if_neg c1, if_neg c1]
    by_cases c2 : (0 ≤ i - 15 ∧ i - 15 < v 0 ∧ i - 15 < 10) ∧ ¬ im_and (im_shr u (i - 15)) 1 = 0
    · rw [if_pos c2, if_pos c2, as_over_q (LQ_RQ h ⟨c2.1.1, c2.1.2.2⟩)]
    · rw [if_neg c2, if_neg c2]
def ZQ (z z' : ru_S) : Prop := LQ z.1 z.2.1 z'.1 z'.2.1 ∧ z.2.2.1 = z'.2.2.1 ∧ LOK z.1 z.2.1
theorem ZQ_1 {lw : Option im_T} {cl : dC} {z z' : ru_S} (h : ZQ z z') : (rn_1 lw cl z).1 = (rn_1 lw cl z').1 ∧ ZQ (rn_1 lw cl z).2 (rn_1 lw cl z').2 := by
  obtain ⟨h1, h2, h3⟩ := h
  have ef := LQ_fw (lw := lw) h1 h3 1023 z.2.2.1.1 z.2.2.1.2
  have e2 : fw lw 1023 z'.2.2.1.1 z'.2.2.1.2 z'.1 z'.2.1 = fw lw 1023 z.2.2.1.1 z.2.2.1.2 z.1 z.2.1 := by rw [ef, h2]
  obtain ⟨a1, a2⟩ := LQ_act (lw := lw) h1 h3 cl.1 (d_enc (cl.2.2.1 (fw lw 1023 z.2.2.1.1 z.2.2.1.2 z.1 z.2.1))).1 (d_enc (cl.2.2.2.1 (fw lw 1023 z.2.2.1.1 z.2.2.1.2 z.1 z.2.1))).1 1
  have a3 := LOK_act lw h3 cl.1 (d_enc (cl.2.2.1 (fw lw 1023 z.2.2.1.1 z.2.2.1.2 z.1 z.2.1))).1 (d_enc (cl.2.2.2.1 (fw lw 1023 z.2.2.1.1 z.2.2.1.2 z.1 z.2.1))).1 1
  unfold rn_1
  rw [e2, ← a1, ← h2]
  split
  · exact ⟨rfl, h1, h2, h3⟩
  split
  · exact ⟨rfl, h1, h2, h3⟩
  split
  · exact ⟨rfl, a2, rfl, a3⟩
  · exact ⟨rfl, a2, rfl, a3⟩
theorem ZQ_t {lw : Option im_T} {cl : dC} : ∀ (n : Nat) {z z' : ru_S}, ZQ z z' → (rn_t lw cl n z).1 = (rn_t lw cl n z').1 ∧ ZQ (rn_t lw cl n z).2 (rn_t lw cl n z').2
  | 0, z, z', h => ⟨rfl, h⟩
  | n + 1, z, z', h => by
    obtain ⟨a1, a2⟩ := ZQ_1 (lw := lw) (cl := cl) h
    unfold rn_t
    rw [← a1]
    split
    · exact ⟨rfl, a2⟩
    · exact ZQ_t n a2
theorem ZQ_c {lw : Option im_T} : ∀ (Cs : List dC) (c : Int) {z z' : ru_S}, ZQ z z' → (rn_c lw Cs c z).1 = (rn_c lw Cs c z').1 ∧ ZQ (rn_c lw Cs c z).2 (rn_c lw Cs c z').2
  | [], c, z, z', h => ⟨rfl, h⟩
  | cl :: r, c, z, z', h => by
    obtain ⟨a1, a2⟩ := ZQ_t (lw := lw) (cl := cl) cl.2.1.toNat h
    unfold rn_c
    rw [← a1]
    split
    · exact ⟨rfl, a2⟩
    · exact ZQ_c r (c + 1) a2
/-- alike lands, as kept sees them -/
theorem KR_LQ {K : Int → Int} {lv lv' : Nat → Int} {L L' : Nat → Int → Int} (h : KR K lv L) (hlo : LOK lv L) (hq : LQ lv' L' lv L) (h8 : ∀ k, 0 ≤ k → k < 8 → L' 8 k = L 8 k ∧ L' 9 k = L 9 k) : KR K lv' L' := by
  obtain ⟨⟨a1, a2, a3, a4, a5, a6⟩, ⟨b1, b2, b3, b4⟩, c, d, e⟩ := h
  obtain ⟨q1, q2, q3, q4⟩ := hq
  have hg := lk_grp hlo
  have hh := lk_hrd hlo
  refine ⟨⟨?_, ?_, ?_, ?_, ?_, ?_⟩, ⟨?_, ?_, ?_, ?_⟩, fun p r1 r2 => ?_, fun k r1 r2 => ?_, fun k r1 r2 => ?_⟩
  · rw [q1 0 (by decide)]; exact a1
  · rw [q1 1 (by decide)]; exact a2
  · rw [q1 2 (by decide)]; exact a3
  · rw [q1 3 (by decide)]; exact a4
  · rw [q1 4 (by decide)]; exact a5
  · rw [q1 5 (by decide)]; exact a6
  · rw [q4 0 (by decide) (by decide)]; exact b1
  · rw [q4 1 (by decide) (by decide)]; exact b2
  · rw [q4 2 (by decide) (by decide)]; exact b3
  · rw [q4 3 (by decide) (by decide)]; exact b4
  · obtain ⟨s0, s1, s2, s3⟩ := q2 p r1 r2
    rw [s0, s1, s2, s3]
    exact c p r1 r2
  · rw [q1 1 (by decide)] at r2
    obtain ⟨s0, s1, s2⟩ := q3 k r1 (by omega)
    rw [s0, s1, s2]
    exact d k r1 r2
  · rw [q1 3 (by decide)] at r2
    obtain ⟨s0, s1⟩ := h8 k r1 (by omega)
    rw [s0, s1]
    exact e k r1 r2
