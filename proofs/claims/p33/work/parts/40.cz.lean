/-! the checker is sound: a method whose tables are checked ends, in a world of the same types -/
/-- an answer that is not 0 tells of an argument within what it lies -/
def ck_wit (wa wf : Nat) (as : List Value) (v : Option Value) : Prop := match wa with
  | 0 => True
  | a + 1 => ∀ x : Int32, v = some (.int x) → x.toInt ≠ 0 → ∃ y : Int32, as[a]? = some (.int y) ∧ (ck_w wf).1 ≤ y.toInt ∧ y.toInt ≤ (ck_w wf).2
def ck_ct (ro : ab_R) (sp : Nat → ty_S) (G : Nat → Nat) (F : ab_W → Prop) (fz : List (Nat × Nat)) (C : Nat → List Value → ab_W → ab_O → Prop) (j : Nat) (ga : List ty_A) (gr : Option ty_A) (wa wf : Nat) : Prop := ∀ (as : List Value) (w : ab_W), ty_w sp G w → F w → ck_tys G ga as → ab_cl C j as w (fun v w1 mc ms => mc = 0 ∧ ms = 0 ∧ ty_w sp G w1 ∧ F w1 ∧ ty_same G fz w w1 ∧ ck_res G gr v ∧ ck_wit wa wf as v)
section CkZ
variable {ro : ab_R} {sp : Nat → ty_S} {fb fz pr : List (Nat × Nat)} {G : Nat → Nat} {own n : Nat} {ret : Option FieldType} {rt : Option ty_A} {code : ab_C} {E : List ck_E} {T : List ck_N} {C : Nat → List Value → ab_W → ab_O → Prop} {F : ab_W → Prop}
theorem ck_to_ok {H : ck_H} {m : ck_M} {A : ck_A} {x : Nat × ck_A} {k : Nat} {L L' : ab_L} {st : List Value} {w : ab_W} (h : ck_to n T H m A x k = true) (hl : ck_lcs G A.1 L) (hh : ck_hok H L L') (hm : ck_ms G x.2 L' st w) : ∃ N, T[k]? = some N ∧ N.1 = x.1 ∧ ck_ms G N.2.1 L' st w ∧ ck_mv n N.2.2.1 L' < ck_mv n m L := by
  unfold ck_to at h
  split at h
  · rename_i N e
    rw [Bool.and_eq_true, Bool.and_eq_true] at h
    exact ⟨N, e, Nat.eq_of_beq_eq_true h.1.1, ck_le_ok h.1.2 hm, ck_dec_ok hl hh h.2⟩
  · cases h
theorem ck_psh_ok {gr : Option ty_A} {v : Option Value} {s : List ck_V} {rs : List Value} {L : ab_L} {w : ab_W} {g : ck_T} (h : ck_res G gr v) (hg : ∀ x, v = some x → ck_tag L w g x) (hs : ck_stk G L w s rs) : ck_stk G L w (ck_psh gr g s) (v.toList ++ rs) := by
  match gr, v, h, hg with
  | some t, some x, h, hg => exact ⟨⟨h, hg x rfl⟩, hs⟩
  | none, none, _, _ => exact hs
  | some _, none, h, _ => exact h.elim
  | none, some _, h, _ => exact h.elim
theorem ck_wt_ok {wa wf : Nat} {gs : List ck_T} {as : List Value} {L : ab_L} {w w1 : ab_W} {v : Option Value} (h : ck_wit wa wf as v) (hg : ck_tgs L w gs as) : ∀ x, v = some x → ck_tag L w1 (ck_wt wa wf gs) x := by
  intro x hx
  unfold ck_wt
  split
  · exact trivial
  · rename_i a
    split
    · rename_i k f e
      obtain ⟨u, h1, h2⟩ := ck_tgs_at hg e
      intro y hy hn
      subst hy
      obtain ⟨z, g1, g2⟩ := h y hx hn
      rw [h1] at g1
      cases g1
      exact ⟨z, h2, g2⟩
    · exact trivial
theorem ck_sw_ok {m : ck_M} {A : ck_A} {q : ck_V} {pc : Nat} {lo : Int} {L : ab_L} {st : List Value} {w : ab_W} {x : Int32} (hm : ck_ms G A L st w) (hx : ty_v G q.1 (.int x)) (hg : ck_tag L w q.2 (.int x)) : ∀ (offs : List Int) (ks : List Nat) (i z : Nat), ck_sw n T m A q pc lo i offs ks = true → x.toInt = lo + ((i + z : Nat) : Int) → z < offs.length → ∃ off N, offs[z]? = some off ∧ 0 ≤ (pc : Int) + off ∧ N ∈ T ∧ N.1 = ((pc : Int) + off).toNat ∧ ck_ms G N.2.1 L st w ∧ ck_mv n N.2.2.1 L < ck_mv n m L
  | [], _, _, _, _, _, hz => absurd hz (Nat.not_lt_zero _)
  | _ :: _, [], _, _, h, _, _ => by cases h
  | off :: offs, k :: ks, i, z, h, e, hz => by
    have h : ((decide (lo + (i : Int) < q.1.2.1) || decide (q.1.2.2 < lo + (i : Int)) || (decide (0 ≤ (pc : Int) + off) && ck_to n T (0, 0, 0, 0) m A (((pc : Int) + off).toNat, ck_app A q.2 (0, lo + (i : Int), lo + (i : Int))) k)) && ck_sw n T m A q pc lo (i + 1) offs ks) = true := h
    rw [Bool.and_eq_true] at h
    cases z with
    | zero =>
      have h1 := h.1
      simp only [Bool.or_eq_true, Bool.and_eq_true, decide_eq_true_eq] at h1
      have h2 := hx.2
      rcases h1 with (h1 | h1) | h1
      · omega
      · omega
      · have hv : ty_v G (0, lo + (i : Int), lo + (i : Int)) (.int x) := ⟨rfl, by show lo + (i : Int) ≤ x.toInt; omega, by show x.toInt ≤ lo + (i : Int); omega⟩
        obtain ⟨N, e1, e2, e3, e4⟩ := ck_to_ok h1.2 hm.1 (fun _ => rfl) (ck_app_ok hm hv hg)
        exact ⟨off, N, rfl, h1.1, List.mem_of_getElem? e1, e2, e3, e4⟩
    | succ z =>
      obtain ⟨o, N, e1, e2⟩ := ck_sw_ok hm hx hg offs ks (i + 1) z h.2 (by omega) (by rw [List.length_cons] at hz; omega)
      exact ⟨o, N, e1, e2⟩
theorem ck_lsw_ok {m : ck_M} {A : ck_A} {pc : Nat} {d x : Int} {L : ab_L} {st : List Value} {w : ab_W} (hm : ck_ms G A L st w) (hd : 0 ≤ (pc : Int) + d ∧ ∃ N ∈ T, N.1 = ((pc : Int) + d).toNat ∧ ck_ms G N.2.1 L st w ∧ ck_mv n N.2.2.1 L < ck_mv n m L) : ∀ (ps : List (Int × Int)) (ks : List Nat), ck_lsw n T m A pc ps ks = true → 0 ≤ (pc : Int) + Op.lookupswitch.offset ps d x ∧ ∃ N ∈ T, N.1 = ((pc : Int) + Op.lookupswitch.offset ps d x).toNat ∧ ck_ms G N.2.1 L st w ∧ ck_mv n N.2.2.1 L < ck_mv n m L
  | [], _, _ => hd
  | _ :: _, [], h => by cases h
  | (a, o) :: ps, k :: ks, h => by
    have h : (decide (0 ≤ (pc : Int) + o) && ck_to n T (0, 0, 0, 0) m A (((pc : Int) + o).toNat, A) k && ck_lsw n T m A pc ps ks) = true := h
    simp only [Bool.and_eq_true, decide_eq_true_eq] at h
    show 0 ≤ (pc : Int) + (if a = x then o else Op.lookupswitch.offset ps d x) ∧ ∃ N ∈ T, N.1 = ((pc : Int) + (if a = x then o else Op.lookupswitch.offset ps d x)).toNat ∧ ck_ms G N.2.1 L st w ∧ ck_mv n N.2.2.1 L < ck_mv n m L
    by_cases e : a = x
    · rw [if_pos e]
      obtain ⟨N, e1, e2, e3, e4⟩ := ck_to_ok h.1.2 hm.1 (fun _ => rfl) hm
      exact ⟨h.1.1, N, List.mem_of_getElem? e1, e2, e3, e4⟩
    · rw [if_neg e]
      exact ck_lsw_ok hm hd ps ks h.2
theorem ck_sound (hT : ck_all sp fb own n ret rt code E T = true) (hfz : ∀ q ∈ fz, q ∈ fb) (hpr : ∀ q ∈ pr, q ∈ fb) (hF : ∀ w w', ty_same G pr w w' → F w → F w')
    (hE : ∀ (e j : Nat) (ga : List ty_A) (gr : Option ty_A) (wa wf : Nat), E[e]? = some (j, ga, gr, wa, wf) → ck_ct ro sp G F fz C j ga gr wa wf) (w0 : ab_W) :
    ∀ (s : Nat) (N : ck_N) (L : ab_L) (st : List Value) (w : ab_W), N ∈ T → ck_mv n N.2.2.1 L < (s : Int) → ck_ms G N.2.1 L st w → ty_w sp G w → F w → ty_same G fz w0 w → ab_wp ro C own false ret code (fun o => ∃ v w1, o = (v, w1, 0, 0) ∧ ty_w sp G w1 ∧ F w1 ∧ ty_same G fz w0 w1 ∧ ck_res G rt v) (N.1, L, st, w, 0, 0) := by
  intro s
  induction s with
  | zero =>
    intro N L st w hN hs hm hw hf h0
    have h := List.all_eq_true.mp hT N hN
    unfold ck_node at h
    rw [Bool.and_eq_true, Bool.and_eq_true] at h
    have := ck_pos_ok hm.1 h.1.2
    exact absurd hs (by omega)
  | succ s ih =>
    intro N L st w hN hs hm hw hf h0
    have hnode := List.all_eq_true.mp hT N hN
    unfold ck_node at hnode
    rw [Bool.and_eq_true, Bool.and_eq_true] at hnode
    obtain ⟨hpos, h⟩ := hnode
    obtain ⟨pc, A, m, ks, hint⟩ := N
    dsimp only at h hs hm ⊢
    cases hc : code pc with
    | none => rw [hc] at h; cases h
    | some it =>
      obtain ⟨i, t⟩ := it
      rw [hc] at h
      dsimp only at h
      split at h
      · split at h
        · rename_i pc' A' H k e1
          obtain ⟨ps, L', st', w', g1, g2, g3, g4, g5, g6⟩ := ck_s_all (ro := ro) i t pc A pc' A' H L st w 0 0 e1 hm hw
          obtain ⟨N, f1, f2, f3, f4⟩ := ck_to_ok h hm.1 g6 g3
          have := ih N L' st' w' (List.mem_of_getElem? f1) (by omega) f3 g4 (hF w w' (ty_same_sub g5 hpr) hf) (ty_same_tr h0 (ty_same_sub g5 hfz))
          rw [f2] at this
          exact ax_sw (x := (L', st', w', 0, 0)) pc' hc g1 rfl g2 this
        · cases h
      · split at h
        · rename_i X Y k l e1
          rw [Bool.and_eq_true] at h
          obtain ⟨P, pc1, pc2, st', g1, g2⟩ := ck_br_ok (a := 0) (b := 0) e1 hm
          rcases g2 with ⟨hP, B, hX, hB⟩ | ⟨hP, B, hY, hB⟩
          · have h1 := h.1
            rw [hX] at h1
            obtain ⟨N, f1, f2, f3, f4⟩ := ck_to_ok h1 hm.1 (fun _ => rfl) hB
            have := ih N L st' w (List.mem_of_getElem? f1) (by omega) f3 hw hf h0
            rw [f2] at this
            exact ax_brT hc g1 hP this
          · have h1 := h.2
            rw [hY] at h1
            obtain ⟨N, f1, f2, f3, f4⟩ := ck_to_ok h1 hm.1 (fun _ => rfl) hB
            have := ih N L st' w (List.mem_of_getElem? f1) (by omega) f3 hw hf h0
            rw [f2] at this
            exact ax_brF hc g1 hP this
        · cases h
      · obtain ⟨ps, v, g1, g2, g3⟩ := ck_rt_ok h hm
        exact ax_ret hc g1 g2 ⟨v, w, rfl, hw, hf, h0, g3⟩
      · split at h
        · rename_i d lo hi offs q r k ks' e1
          simp only [Bool.and_eq_true, decide_eq_true_eq] at h
          obtain ⟨⟨⟨⟨b1, b2⟩, b3⟩, b4⟩, b5⟩ := h
          obtain ⟨v, rs, rfl, h2, h3, h4⟩ := ck_one hm e1
          obtain ⟨x, rfl, _⟩ := ty_int h2 (Nat.eq_of_beq_eq_true b1)
          have hm2 := ck_pop_ok hm h4
          have hnx : ab_nx ro own false (.tableswitch d lo hi offs) t pc L (.int x :: rs) w 0 0 = some ([(x.toInt < lo ∨ hi < x.toInt) ∨ ∃ off, offs[(x.toInt - lo).toNat]? = some off ∧ 0 ≤ (pc : Int) + off, 0 ≤ (pc : Int) + d], ab_ts pc d lo hi offs x, L, rs, w, 0, 0) := rfl
          by_cases ho : x.toInt < lo ∨ hi < x.toInt
          · obtain ⟨N, f1, f2, f3, f4⟩ := ck_to_ok b3 hm.1 (fun _ => rfl) hm2
            have := ih N L rs w (List.mem_of_getElem? f1) (by omega) f3 hw hf h0
            rw [f2] at this
            exact ax_sw (x := (L, rs, w, 0, 0)) _ hc hnx (ab_ts_out ho) ⟨Or.inl ho, b2, trivial⟩ this
          · have hz : (x.toInt - lo).toNat < offs.toList.length := by omega
            obtain ⟨off, N, f0, f5, f1, f2, f3, f4⟩ := ck_sw_ok hm2 h2 h3 offs.toList ks' 0 (x.toInt - lo).toNat b5 (by omega) hz
            have f0' : offs[(x.toInt - lo).toNat]? = some off := by
              rw [← Array.getElem?_toList]
              exact f0
            have := ih N L rs w f1 (by omega) f3 hw hf h0
            rw [f2] at this
            refine ax_sw (x := (L, rs, w, 0, 0)) _ hc hnx ?_ ⟨Or.inr ⟨off, f0', f5⟩, b2, trivial⟩ this
            unfold ab_ts
            rw [if_neg ho, f0']
        · rename_i d ps q r k ks' e1
          simp only [Bool.and_eq_true, decide_eq_true_eq] at h
          obtain ⟨⟨⟨⟨b1, b0⟩, b2⟩, b3⟩, b5⟩ := h
          obtain ⟨v, rs, rfl, h2, h3, h4⟩ := ck_one hm e1
          obtain ⟨x, rfl, _⟩ := ty_int h2 (Nat.eq_of_beq_eq_true b1)
          have hm2 := ck_pop_ok hm h4
          obtain ⟨N0, f1, f2, f3, f4⟩ := ck_to_ok b3 hm.1 (fun _ => rfl) hm2
          obtain ⟨g0, N, g1, g2, g3, g4⟩ := ck_lsw_ok (x := x.toInt) hm2 ⟨b2, N0, List.mem_of_getElem? f1, f2, f3, f4⟩ ps.toList ks' b5
          have := ih N L rs w g1 (by omega) g3 hw hf h0
          rw [g2] at this
          exact ax_sw (x := (L, rs, w, 0, 0)) _ hc rfl rfl ⟨b0, g0, trivial⟩ this
        · cases h
      · rename_i e
        split at h
        · rename_i j ga gr wa wf j' ts gs r k e1 e2
          rw [Bool.and_eq_true, Bool.and_eq_true] at h
          obtain ⟨as, rs, g1, g2, g4, g3⟩ := ck_ca_ok e2 hm hw
          have ej := Nat.eq_of_beq_eq_true h.1.1
          subst ej
          refine ax_cl hc g1 (hE e j ga gr wa wf e1 as w hw hf (ck_tys_le h.1.2 g2)) (fun v w1 mc ms hq => ?_)
          obtain ⟨rfl, rfl, q1, q2, q3, q4, q5⟩ := hq
          have hm3 : ck_ms G (A.1, ck_psh gr (ck_wt wa wf gs) (ck_dropA r), []) L (v.toList ++ rs) w1 := ⟨hm.1, ck_psh_ok q4 (ck_wt_ok q5 g4) (ck_dropA_ok g3), fun q hq => by cases hq⟩
          obtain ⟨N, f1, f2, f3, f4⟩ := ck_to_ok h.2 hm.1 (fun _ => rfl) hm3
          have := ih N L (v.toList ++ rs) w1 (List.mem_of_getElem? f1) (by omega) f3 q1 q2 (ty_same_tr h0 q3)
          rw [f2] at this
          exact this
        · cases h
end CkZ
