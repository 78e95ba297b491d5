/-! walks towards any end -/
def im_wg (ro : ab_R) (C : Nat → List Value → ab_W → ab_O → Prop) (own : Nat) (ret : Option FieldType) (code : ab_C) (n : Nat) (T : List im_T) (QO : ab_O → Prop) (x : im_S) : Prop := ab_wp ro C own false ret code QO (im_s n T x)
section ImG
variable {ro : ab_R} {C : Nat → List Value → ab_W → ab_O → Prop} {own : Nat} {ret : Option FieldType} {code : ab_C} {n : Nat} {T : List im_T} {QO : ab_O → Prop}
theorem im_gG (k : Nat) {x y : im_S} {ps : List Prop} (h : im_go own code k x = some (ps, y)) (hp : ab_all ps) (kk : im_wg ro C own ret code n T QO y) : im_wg ro C own ret code n T QO x := by
  induction k generalizing x ps with
  | zero =>
    unfold im_go at h
    cases h
    exact kk
  | succ k ih =>
    obtain ⟨pc, L, st, w⟩ := x
    unfold im_go at h
    split at h
    · rename_i i t hc
      split at h
      · rename_i qs z hn
        split at h
        · rename_i rs u hg
          cases h
          obtain ⟨h1, h2⟩ := ab_all_append hp
          obtain ⟨o, j, hX, hQ⟩ := ih hg h2
          obtain ⟨qs', h3, h4⟩ := im_nx_ok (ro := ro) (n := n) (T := T) hn h1
          exact ⟨o, j + 1, ⟨i, t, hc, Or.inl ⟨qs', _, h3, h4, hX⟩⟩, hQ⟩
        · cases h
      · cases h
    · cases h
theorem im_bG {pc t : Nat} {i : Instr} {L : im_L} {st : List im_V} {w : im_W} {ps : List Prop} {c : Prop} {x y : im_S} (hc : code pc = some (i, t)) (h : im_br i t pc L st w = some (ps, c, x, y)) (hp : ab_all ps) (k1 : c → im_wg ro C own ret code n T QO x) (k2 : ¬ c → im_wg ro C own ret code n T QO y) : im_wg ro C own ret code n T QO (pc, L, st, w) := by
  obtain ⟨c', h1, h2⟩ := im_br_ok (n := n) (T := T) h hp
  exact ax_br hc h1 (fun z => k1 (h2.mp z)) (fun z => k2 (fun q => z (h2.mpr q)))
theorem im_bTG {pc t : Nat} {i : Instr} {L : im_L} {st : List im_V} {w : im_W} {ps : List Prop} {c : Prop} {x y : im_S} (hc : code pc = some (i, t)) (h : im_br i t pc L st w = some (ps, c, x, y)) (hp : ab_all ps) (z : c) (k : im_wg ro C own ret code n T QO x) : im_wg ro C own ret code n T QO (pc, L, st, w) := im_bG hc h hp (fun _ => k) (fun q => absurd z q)
theorem im_bFG {pc t : Nat} {i : Instr} {L : im_L} {st : List im_V} {w : im_W} {ps : List Prop} {c : Prop} {x y : im_S} (hc : code pc = some (i, t)) (h : im_br i t pc L st w = some (ps, c, x, y)) (hp : ab_all ps) (z : ¬ c) (k : im_wg ro C own ret code n T QO y) : im_wg ro C own ret code n T QO (pc, L, st, w) := im_bG hc h hp (fun q => absurd q z) (fun _ => k)
theorem im_swG {pc t tgt : Nat} {d lo hi x : Int} {offs : Array Int} {L : im_L} {r : List im_V} {w : im_W} (hc : code pc = some (.tableswitch d lo hi offs, t)) (hx : im_ir x) (hd : 0 ≤ (pc : Int) + d) (ho : (x < lo ∨ hi < x) ∨ ∃ off, offs[(x - lo).toNat]? = some off ∧ 0 ≤ (pc : Int) + off) (e : im_ts pc d lo hi offs x = tgt) (k : im_wg ro C own ret code n T QO (tgt, L, r, w)) : im_wg ro C own ret code n T QO (pc, L, .inl x :: r, w) := by
  have ex := im_i hx
  subst e
  refine ax_sw (ps := [((Int32.ofInt x).toInt < lo ∨ hi < (Int32.ofInt x).toInt) ∨ ∃ off, offs[((Int32.ofInt x).toInt - lo).toNat]? = some off ∧ 0 ≤ (pc : Int) + off, 0 ≤ (pc : Int) + d]) (x := (im_l n L, im_k n r, im_w n T w, 0, 0)) (im_ts pc d lo hi offs x) hc rfl ?_ ⟨by rw [ex]; exact ho, hd, trivial⟩ k
  unfold ab_ts im_ts
  rw [ex]
  rfl
theorem im_eqsG {x y : im_S} (h : x = y) (k : im_wg ro C own ret code n T QO y) : im_wg ro C own ret code n T QO x := h ▸ k
theorem im_ralG {pc t o m : Nat} {f : Nat → Int32} {L : im_L} {r : List im_V} {w : im_W} (hc : code pc = some (.arraylength, t)) (ho : 1000000 ≤ o) (hro : ro (o - 1000000) = some (m, f)) (hl : w.length < 1000) (hT : T.length < 1000) (k : im_wg ro C own ret code n T QO (pc + 1, L, .inl (m : Int) :: r, w)) : im_wg ro C own ret code n T QO (pc, L, mr o :: r, w) := by
  obtain ⟨q, j, hX, hQ⟩ := k
  refine ⟨q, j + 1, ⟨_, t, hc, Or.inl ⟨[], _, ?_, trivial, hX⟩⟩, hQ⟩
  show (match (im_w n T w)[o]? with
    | some (.inl (t, n, _)) => _
    | none => _
    | _ => none) = _
  rw [im_far ho hl hT]
  show (match (if 1000000 ≤ o then ro (o - 1000000) else none) with
    | some (n, _) => _
    | none => none) = _
  rw [if_pos ho, hro]
  rfl
theorem im_raiG {pc t o m : Nat} {f : Nat → Int32} {i z : Int} {L : im_L} {r : List im_V} {w : im_W} (hc : code pc = some (.iaload, t)) (ho : 1000000 ≤ o) (hro : ro (o - 1000000) = some (m, f)) (hl : w.length < 1000) (hT : T.length < 1000) (hi : 0 ≤ i ∧ i < m ∧ i < 2147483648) (hf : f i.toNat = Int32.ofInt z) (k : im_wg ro C own ret code n T QO (pc + 1, L, .inl z :: r, w)) : im_wg ro C own ret code n T QO (pc, L, .inl i :: mr o :: r, w) := by
  obtain ⟨q, j, hX, hQ⟩ := k
  obtain ⟨g1, g2⟩ := im_ix hi
  refine ⟨q, j + 1, ⟨_, t, hc, Or.inl ⟨[vp_in (Int32.ofInt i) m], _, ?_, ⟨g1, trivial⟩, hX⟩⟩, hQ⟩
  show (match (im_w n T w)[o]? with
    | some (.inl (0, n, .inl f)) => _
    | none => _
    | _ => none) = _
  rw [im_far ho hl hT]
  show (match (if 1000000 ≤ o then ro (o - 1000000) else none) with
    | some (n, f) => _
    | none => none) = _
  rw [if_pos ho, hro]
  show some ([vp_in (Int32.ofInt i) m], pc + 1, im_l n L, Value.int (f (Int32.ofInt i).toNatClampNeg) :: im_k n r, im_w n T w, 0, 0) = _
  rw [g2, hf]
  rfl
theorem im_wgp {Q : Option im_V → im_W → Prop} {x : im_S} (h : im_wp ro C own ret code n T Q x) (k : ∀ v w, w.length = n → Q v w → QO (v.map (im_v n), im_w n T w, 0, 0)) : im_wg ro C own ret code n T QO x := by
  obtain ⟨o, m, hX, v, w, rfl, hl, hq⟩ := h
  exact ⟨_, m, hX, k v w hl hq⟩
end ImG
section ImGC
variable {ro : ab_R} {own d : Nat} {ret : Option FieldType} {code : ab_C} {n : Nat} {T : List im_T} {QO : ab_O → Prop}
theorem im_callG (is : List Nat) {pc t j : Nat} {i : Instr} {L : im_L} {st as as' r : List im_V} {w wc z : im_W} {K : Option im_V → im_W → Prop} (hc : code pc = some (i, t)) (hca : im_ca own i st w = some (j, as, r)) (hct : im_ct ro T d j as' wc K) (h1 : im_rvs is as' = some as) (h2 : im_res is wc = some z) (h3 : im_get w is = some z) (h4 : is.Nodup) (hn : w.length = n) (hl : is.length < 1000) (hT : T.length < 1000)
    (k : ∀ v w1, K v w1 → ∃ v2 z1 w2, im_rvo is v = some v2 ∧ im_res is w1 = some z1 ∧ im_putm is z1 0 w = w2 ∧ im_wg ro (ab_Ev ro ab_codes d) own ret code n T QO (pc + 3, L, v2.toList ++ r, w2)) : im_wg ro (ab_Ev ro ab_codes d) own ret code n T QO (pc, L, st, w) := by
  obtain ⟨v, w1, hE, hw1, hK⟩ := hct
  obtain ⟨v2, z1, w2, g1, g2, g3, kk⟩ := k v w1 hK
  have hwc : wc.length = is.length := by rw [← im_res_len h2, im_get_len h3]
  rw [hwc] at hw1
  rw [← im_puts_m h4 (by rw [im_res_len g2, hw1]) (fun i hi => by
    obtain ⟨p, hp⟩ := List.getElem?_of_mem hi
    exact (im_get_at h3 p i hp).2)] at g3
  subst g3
  obtain ⟨o, m, hX, hQ⟩ := kk
  have hl2 : is.length + 3 * T.length < 100000 := by omega
  rw [hwc] at hE
  have hN : (im_w n T w).length = n + 3 * T.length := by rw [im_w_len, hn]
  refine ⟨o, m + 1, ⟨i, t, hc, Or.inr (Or.inr (Or.inr ⟨j, im_k n as, im_k n r, im_ca_ok hca, is ++ List.range' n (3 * T.length), im_k is.length as', im_w is.length T wc, im_w is.length T w1, v.map (im_v is.length), 0, 0, hE, ?_, ?_, im_nodup hn h3 h4, ?_, ?_⟩))⟩, hQ⟩
  · rw [hN, im_rvs_ok hl2 h1]
  · rw [hN]; exact im_is hn hwc hl2 h2 h3
  · rw [im_w_len]; omega
  · rw [hN, im_put hn hwc hw1 hl2 h3 h4 g2]
    have e : (v.map (im_v is.length)).map (ab_rv (ab_pi (is ++ List.range' n (3 * T.length)) (n + 3 * T.length))) = v2.map (im_v n) := by
      cases v with
      | none => cases g1; rfl
      | some x =>
        unfold im_rvo at g1
        dsimp only at g1
        split at g1
        · rename_i y hy
          cases g1
          show some (ab_rv _ (im_v is.length x)) = some (im_v n y)
          rw [im_rv_ok hl2 hy]
        · cases g1
    rw [e]
    have e2 : (v2.map (im_v n)).toList ++ im_k n r = im_k n (v2.toList ++ r) := by
      cases v2 with
      | none => rfl
      | some x => rfl
    rw [e2]
    exact hX
/-- what a contract says, told of one outcome -/
theorem im_ct_ex {j : Nat} {as : List im_V} {w : im_W} {Q : Option im_V → im_W → Prop} (h : im_ct ro T d j as w Q) : ∃ v w1, im_ct ro T d j as w (fun r w' => r = v ∧ w' = w1) ∧ Q v w1 := by
  obtain ⟨v, w1, h1, h2, h3⟩ := h
  exact ⟨v, w1, ⟨v, w1, h1, h2, rfl, rfl⟩, h3⟩
end ImGC
/-! a call of the class in the world of both; texts may come to be -/
def im_vbN (N : Nat) (v : im_V) : Bool := match v with
  | .inr (.inr (.inl (some k))) => Nat.blt k N
  | _ => true
def im_ebN (N : Nat) (e : im_E) : Prop := match e with
  | .inl (_, fs) => fs.all (im_vbN N) = true
  | .inr (_, _, .inr (.inr g)) => ∀ i k, g i = some k → k < N
  | _ => True
def im_wbN (N : Nat) : im_W → Prop
  | [] => True
  | e :: r => im_ebN N e ∧ im_wbN N r
theorem im_wbN_c {N : Nat} {e : im_E} {r : im_W} (h : im_ebN N e) (h2 : im_wbN N r) : im_wbN N (e :: r) := ⟨h, h2⟩
def im_blk (na nb t : Nat) : List Nat := List.range na ++ List.range' (na + nb) (3 * t)
section Bl
variable {na nb : Nat}
theorem im_blk_len {t : Nat} : (im_blk na nb t).length = na + 3 * t := by unfold im_blk; rw [List.length_append, List.length_range, List.length_range']
theorem im_blk_at {t k : Nat} (h : k < na) : (im_blk na nb t)[k]? = some k := by
  unfold im_blk
  rw [List.getElem?_append_left (by rw [List.length_range]; exact h), List.getElem?_range h]
theorem im_blk_at2 {t x : Nat} (h : x < 3 * t) : (im_blk na nb t)[na + x]? = some (na + nb + x) := by
  unfold im_blk
  rw [List.getElem?_append_right (by rw [List.length_range]; omega), List.length_range, show na + x - na = x by omega, List.getElem?_range' h]
  show some (na + nb + 1 * x) = _
  rw [Nat.one_mul]
theorem im_blk_lo {t k : Nat} (h : k < na) : ab_pi (im_blk na nb t) (na + nb + 3 * t) k = k := by
  unfold ab_pi
  rw [im_blk_len, if_pos (by omega), List.getD_eq_getElem?_getD, im_blk_at h]
  rfl
theorem im_blk_hi {t x : Nat} (h : na + x < 500000) : ab_pi (im_blk na nb t) (na + nb + 3 * t) (na + x) = na + nb + x := by
  unfold ab_pi
  rw [im_blk_len]
  by_cases hx : x < 3 * t
  · rw [if_pos (by omega), List.getD_eq_getElem?_getD, im_blk_at2 hx]
    rfl
  · rw [if_neg (by omega), if_pos h]
    omega
theorem im_blk_nd {t : Nat} : (im_blk na nb t).Nodup := by
  refine List.nodup_append.mpr ⟨List.nodup_range, List.nodup_range', fun a ha b hb e => ?_⟩
  have h1 := List.mem_range.mp ha
  have h2 := (List.mem_range'_1.mp hb).1
  omega
variable {p : Nat → Nat}
theorem im_vBl (hn : na < 100000) (h1 : ∀ k, k < na → p k = k) (h2 : ∀ x, na + x < 500000 → p (na + x) = na + nb + x) : ∀ {v : im_V}, im_vbN na v = true → ab_rv p (im_v na v) = im_v (na + nb) v
  | .inl x, _ => rfl
  | .inr (.inl x), _ => rfl
  | .inr (.inr (.inl none)), _ => rfl
  | .inr (.inr (.inl (some k))), h => by
    have h3 : k < na := Nat.le_of_ble_eq_true h
    show Value.ref (p k) = .ref k
    rw [h1 k h3]
  | .inr (.inr (.inr t)), _ => by
    show Value.ref (p (na + 3 * min t 100000)) = .ref (na + nb + 3 * min t 100000)
    rw [h2 _ (by omega)]
theorem im_kBl (hn : na < 100000) (h1 : ∀ k, k < na → p k = k) (h2 : ∀ x, na + x < 500000 → p (na + x) = na + nb + x) : ∀ {as : List im_V}, as.all (im_vbN na) = true → (im_k na as).map (ab_rv p) = im_k (na + nb) as
  | [], _ => rfl
  | x :: r, h => by
    have h3 : im_vbN na x = true ∧ r.all (im_vbN na) = true := by
      rw [List.all_cons, Bool.and_eq_true] at h
      exact h
    show ab_rv p (im_v na x) :: (im_k na r).map (ab_rv p) = im_v (na + nb) x :: im_k (na + nb) r
    rw [im_vBl hn h1 h2 h3.1, im_kBl hn h1 h2 h3.2]
theorem im_eBl (hn : na < 100000) (h1 : ∀ k, k < na → p k = k) (h2 : ∀ x, na + x < 500000 → p (na + x) = na + nb + x) : ∀ {e : im_E}, im_ebN na e → ab_re p id (im_e na e) = im_e (na + nb) e
  | .inl (c, fs), h => by
    show Sum.inr (c, (im_k na fs).map (ab_rv p)) = Sum.inr (c, im_k (na + nb) fs)
    rw [im_kBl hn h1 h2 h]
  | .inr (t, m, .inl f), _ => by
    have e : ∀ q, im_e q (.inr (t, m, .inl f)) = cond (Nat.beq t 2) (.inl (t, m, .inr (.inl (fun k : Nat => Int64.ofInt (f (k : Int)))))) (.inl (t, m, .inl (fun k : Nat => Int32.ofInt (f (k : Int))))) := fun _ => rfl
    rw [e, e]
    cases Nat.beq t 2 <;> rfl
  | .inr (t, m, .inr (.inl g)), _ => by
    show Sum.inl (t, m, Sum.inr (Sum.inr (Sum.inr (Sum.inr (fun i : Nat => Option.map p ((g (i : Int)).map (fun q => na + 3 * min q 100000))))))) = Sum.inl (t, m, Sum.inr (Sum.inr (Sum.inr (Sum.inr (fun i : Nat => (g (i : Int)).map (fun q => na + nb + 3 * min q 100000))))))
    refine congrArg (fun z => Sum.inl (t, m, Sum.inr (Sum.inr (Sum.inr (Sum.inr z))))) ?_
    funext i
    cases g (i : Int) with
    | none => rfl
    | some q =>
      show some (p (na + 3 * min q 100000)) = some (na + nb + 3 * min q 100000)
      rw [h2 _ (by omega)]
  | .inr (t, m, .inr (.inr g)), h => by
    show Sum.inl (t, m, Sum.inr (Sum.inr (Sum.inr (Sum.inr (fun i : Nat => Option.map p (g (i : Int))))))) = Sum.inl (t, m, Sum.inr (Sum.inr (Sum.inr (Sum.inr (fun i : Nat => g (i : Int))))))
    refine congrArg (fun z => Sum.inl (t, m, Sum.inr (Sum.inr (Sum.inr (Sum.inr z))))) ?_
    funext i
    cases hg : g (i : Int) with
    | none => rfl
    | some q =>
      have h3 : q < na := h (i : Int) q hg
      show some (p q) = some q
      rw [h1 q h3]
theorem im_wBl (hn : na < 100000) (h1 : ∀ k, k < na → p k = k) (h2 : ∀ x, na + x < 500000 → p (na + x) = na + nb + x) : ∀ {w : im_W}, im_wbN na w → (w.map (im_e na)).map (ab_re p id) = w.map (im_e (na + nb))
  | [], _ => rfl
  | e :: r, h => by
    show ab_re p id (im_e na e) :: (r.map (im_e na)).map (ab_re p id) = im_e (na + nb) e :: r.map (im_e (na + nb))
    rw [im_eBl hn h1 h2 h.1, im_wBl hn h1 h2 h.2]
theorem im_tc_app : ∀ (T N : List im_T) (m : Nat), im_tc m (T ++ N) = im_tc m T ++ im_tc (m + 3 * T.length) N
  | [], N, m => rfl
  | t :: r, N, m => by
    have ih := im_tc_app r N (m + 3)
    rw [show m + 3 + 3 * r.length = m + 3 * (t :: r).length by rw [List.length_cons]; omega] at ih
    show _ :: _ :: _ :: im_tc (m + 3) (r ++ N) = _ :: _ :: _ :: (im_tc (m + 3) r ++ _)
    rw [ih]
theorem im_tBl {T : List im_T} (hT : na + 3 * T.length < 500000) (h2 : ∀ x, na + x < 500000 → p (na + x) = na + nb + x) : (im_tc na T).map (ab_re p id) = im_tc (na + nb) T := im_tc_re (p := p) (a := na) (b := na + nb) (T := T) (x := 0) (fun y hy => h2 y (by omega))
theorem im_isBl {w M : im_W} {T : List im_T} (hn : na < 100000) (hT : na + 3 * T.length < 500000) (h1 : ∀ k, k < na → p k = k) (h2 : ∀ x, na + x < 500000 → p (na + x) = na + nb + x) (hw : w.length = na) (hM : M.length = nb) (hb : im_wbN na w) : (im_blk na nb T.length).map (fun i => (im_w (na + nb) T (w ++ M))[i]?) = (im_w na T w).map (fun e => some (ab_re p id e)) := by
  have e1 : (im_w na T w).map (fun e => some (ab_re p id e)) = (w.map (im_e (na + nb)) ++ im_tc (na + nb) T).map some := by
    have e2 : (im_w na T w).map (fun e => some (ab_re p id e)) = ((im_w na T w).map (ab_re p id)).map some := by
      rw [List.map_map]
      rfl
    rw [e2]
    unfold im_w
    rw [List.map_append, im_wBl hn h1 h2 hb, im_tBl hT h2]
  rw [e1]
  have hl : (w ++ M).length = na + nb := by rw [List.length_append, hw, hM]
  apply List.ext_getElem?
  intro q
  rw [List.getElem?_map, List.getElem?_map]
  by_cases hq : q < na
  · rw [im_blk_at hq]
    show some ((im_w (na + nb) T (w ++ M))[q]?) = _
    rw [im_w_old (by omega), List.getElem?_append_left (by omega), List.getElem?_append_left (by rw [List.length_map]; omega), List.getElem?_map, List.getElem?_eq_getElem (by omega : q < w.length)]
    rfl
  · by_cases hq2 : q < na + 3 * T.length
    · obtain ⟨x, rfl⟩ : ∃ x, q = na + x := ⟨q - na, by omega⟩
      rw [im_blk_at2 (by omega)]
      show some ((im_w (na + nb) T (w ++ M))[na + nb + x]?) = _
      have hlt : x < (im_tc (na + nb) T).length := by rw [im_tc_len]; omega
      rw [← hl, im_w_new, hl, List.getElem?_append_right (by rw [List.length_map]; omega), List.length_map, show na + x - w.length = x by omega, List.getElem?_eq_getElem hlt]
      rfl
    · rw [List.getElem?_eq_none (by rw [im_blk_len]; omega), List.getElem?_eq_none (by rw [List.length_append, List.length_map, im_tc_len]; omega)]
      rfl
theorem im_putBl {w w1 M : im_W} {T N : List im_T} (hn : na < 100000) (hT : na + 3 * (T.length + N.length) < 500000) (h1 : ∀ k, k < na → p k = k) (h2 : ∀ x, na + x < 500000 → p (na + x) = na + nb + x) (hw : w.length = na) (hw1 : w1.length = na) (hM : M.length = nb) (hb : im_wbN na w1) : ab_put (im_blk na nb T.length) (im_w na T w).length (im_w (na + nb) T (w ++ M)) (im_w na (T ++ N) w1) p = im_w (na + nb) (T ++ N) (w1 ++ M) := by
  have hl : (w ++ M).length = na + nb := by rw [List.length_append, hw, hM]
  have hl1 : (w1 ++ M).length = na + nb := by rw [List.length_append, hw1, hM]
  have ew : im_w na (T ++ N) w1 = im_w na T w1 ++ im_tc (na + 3 * T.length) N := by
    unfold im_w
    rw [im_tc_app, List.append_assoc]
  have ew2 : im_w (na + nb) (T ++ N) (w1 ++ M) = im_w (na + nb) T (w1 ++ M) ++ im_tc (na + nb + 3 * T.length) N := by
    unfold im_w
    rw [im_tc_app, List.append_assoc]
  have hd : (im_w na T w).length = (im_w na T w1).length := by rw [im_w_len, im_w_len, hw, hw1]
  have et : (im_tc (na + 3 * T.length) N).map (ab_re p id) = im_tc (na + nb + 3 * T.length) N := im_tc_re (p := p) (a := na) (b := na + nb) (T := N) (x := 3 * T.length) (fun y hy => h2 y (by omega))
  unfold ab_put
  rw [ew2, ew, hd, List.drop_left, et]
  congr 1
  apply List.ext_getElem?
  intro i
  rw [ab_mi_get, Nat.zero_add]
  by_cases hi : i < na + nb + 3 * T.length
  · have hwi : i < (im_w (na + nb) T (w ++ M)).length := by rw [im_w_len]; omega
    cases hx : ab_ix (im_blk na nb T.length) i 0 with
    | none =>
      have hni := ab_ix_none hx
      have c1 : ¬ i < na := fun z => hni (List.mem_of_getElem? (im_blk_at z))
      have c2 : i < na + nb := by
        apply Decidable.byContradiction
        intro z
        obtain ⟨x, rfl⟩ : ∃ x, i = na + nb + x := ⟨i - (na + nb), by omega⟩
        exact hni (List.mem_of_getElem? (im_blk_at2 (na := na) (nb := nb) (t := T.length) (x := x) (by omega)))
      rw [List.getElem?_eq_getElem hwi]
      simp only [Option.map_some, hx]
      rw [← List.getElem?_eq_getElem hwi, im_w_old (by omega), im_w_old (by omega), List.getElem?_append_right (by omega), List.getElem?_append_right (by omega), hw, hw1]
    | some j =>
      obtain ⟨j', hj1, hj2⟩ := ab_ix_some hx
      have hj : j = j' := by omega
      subst hj
      rw [List.getElem?_eq_getElem hwi]
      simp only [Option.map_some, hx]
      by_cases hjl : j < na
      · rw [im_blk_at hjl] at hj2
        cases hj2
        rw [List.getElem?_append_left (by rw [im_w_len]; omega), im_w_old (by omega), im_w_old (by omega), List.getElem?_append_left (by omega), List.getElem?_eq_getElem (by omega : i < w1.length)]
        show some (ab_re p id (im_e na w1[i])) = some (im_e (na + nb) w1[i])
        have hbe : ∀ (l : im_W), im_wbN na l → ∀ (q : Nat) (hq : q < l.length), im_ebN na l[q] := by
          intro l
          induction l with
          | nil => intro _ q hq; exact absurd hq (Nat.not_lt_zero _)
          | cons e r ih =>
            intro hl q hq
            cases q with
            | zero => exact hl.1
            | succ q => exact ih hl.2 q (Nat.lt_of_succ_lt_succ hq)
        rw [im_eBl hn h1 h2 (hbe w1 hb i (by omega))]
      · have hj5 := (List.getElem?_eq_some_iff.mp hj2).1
        rw [im_blk_len] at hj5
        obtain ⟨x, rfl⟩ : ∃ x, j = na + x := ⟨j - na, by omega⟩
        rw [im_blk_at2 (by omega)] at hj2
        cases hj2
        have hlt : x < (im_tc na T).length := by rw [im_tc_len]; omega
        have e3 := congrArg (fun l => l[x]?) (im_tBl (p := p) (nb := nb) (T := T) (by omega) h2)
        simp only [List.getElem?_map] at e3
        rw [List.getElem?_append_left (by rw [im_w_len]; omega)]
        rw [show (im_w na T w1)[na + x]? = (im_w na T w1)[w1.length + x]? by rw [hw1], im_w_new, show (im_w (na + nb) T (w1 ++ M))[na + nb + x]? = (im_w (na + nb) T (w1 ++ M))[(w1 ++ M).length + x]? by rw [hl1], im_w_new]
        rw [List.getElem?_eq_getElem hlt] at e3 ⊢
        exact e3
  · rw [List.getElem?_eq_none (by rw [im_w_len]; omega), List.getElem?_eq_none (by rw [im_w_len]; omega)]
    rfl
theorem im_cBl {ro : ab_R} {own d : Nat} {ret : Option FieldType} {code : ab_C} {T N : List im_T} {QO QO' : ab_O → Prop} {pc t j ms : Nat} {i : Instr} {L : im_L} {st as r : List im_V} {w w1 M : im_W} {v : Option im_V} (hc : code pc = some (i, t)) (hca : im_ca own i st (w ++ M) = some (j, as, r)) (hE : ab_Ev ro ab_codes d j (im_k na as) (im_w na T w) (v.map (im_v na), im_w na (T ++ N) w1, 3 * N.length, ms)) (hb : as.all (im_vbN na) = true) (hv : v.toList.all (im_vbN na) = true) (hbw : im_wbN na w) (hbw1 : im_wbN na w1) (hw : w.length = na) (hw1 : w1.length = na) (hM : M.length = nb) (hn : na + nb < 1000) (hT : T.length < 10000) (hN : N.length < 1000)
    (k : im_wg ro (ab_Ev ro ab_codes d) own ret code (na + nb) (T ++ N) QO' (pc + 3, L, v.toList ++ r, w1 ++ M)) (hQ : ∀ v w mc ms', QO' (v, w, mc, ms') → QO (v, w, 3 * N.length + mc, ms + ms')) : im_wg ro (ab_Ev ro ab_codes d) own ret code (na + nb) T QO (pc, L, st, w ++ M) := by
  have hl : (im_w (na + nb) T (w ++ M)).length = na + nb + 3 * T.length := by rw [im_w_len, List.length_append, hw, hM]
  have p1 : ∀ k, k < na → ab_pi (im_blk na nb T.length) (na + nb + 3 * T.length) k = k := fun k h => im_blk_lo h
  have p2 : ∀ x, na + x < 500000 → ab_pi (im_blk na nb T.length) (na + nb + 3 * T.length) (na + x) = na + nb + x := fun x h => im_blk_hi h
  refine ax_call (P := fun o => o = (v.map (im_v na), im_w na (T ++ N) w1, 3 * N.length, ms)) (im_blk na nb T.length) hc (im_ca_ok hca) ⟨_, hE, rfl⟩ ?_ ?_ im_blk_nd ?_ (fun v' w1' mc' ms' e => ?_)
  · rw [hl, im_kBl (by omega) p1 p2 hb]
  · rw [hl]; exact im_isBl (by omega) (by omega) p1 p2 hw hM hbw
  · rw [im_w_len]; omega
  · cases e
    refine ⟨by omega, ?_⟩
    rw [hl, im_putBl (by omega) (by omega) p1 p2 hw hw1 hM hbw1]
    have ev : ((v.map (im_v na)).map (ab_rv (ab_pi (im_blk na nb T.length) (na + nb + 3 * T.length)))).toList ++ im_k (na + nb) r = im_k (na + nb) (v.toList ++ r) := by
      cases v with
      | none => rfl
      | some x =>
        have hx : im_vbN na x = true := by
          have : (im_vbN na x && true) = true := hv
          rw [Bool.and_true] at this
          exact this
        show ab_rv _ (im_v na x) :: im_k (na + nb) r = im_v (na + nb) x :: im_k (na + nb) r
        rw [im_vBl (by omega) p1 p2 hx]
    rw [ev, Nat.zero_add, Nat.zero_add]
    exact ax_shift (Q0 := QO') (a := 3 * N.length) (b := ms) k (fun v2 w2 mc2 ms2 hq => hQ v2 w2 mc2 ms2 hq)
end Bl

