/-! contracts by hand, on -/
section Ay2
variable {ro : ab_R} {C : Nat → List Value → ab_W → ab_O → Prop} {own : Nat} {ret : Option FieldType} {code : ab_C} {Q : ab_O → Prop}
theorem ay_pf {pc a b t ix ci k o : Nat} {L : ab_L} {r fs : List Value} {w : ab_W} {v : Value} {ps : List Prop} (hc : code pc = some (.putfield ix, t)) (hl : ab_lk (ab_fT own) ix = some (ci, k)) (hfin : ab_fin ci k = false) (hw : w[o]? = some (.inr (ci, fs))) (hk : k < fs.length) (hfit : ab_fit (ab_ty ci k) v = some ps) (hp : ab_all ps) (kk : ab_wp ro C own false ret code Q (pc + 3, L, r, w.set o (.inr (ci, fs.set k v)), a, b)) : ab_wp ro C own false ret code Q (pc, L, v :: .ref o :: r, w, a, b) := by
  have hlt : Nat.blt k fs.length = true := Nat.ble_eq_true_of_le hk
  exact ax_sw (x := (L, r, w.set o (.inr (ci, fs.set k v)), a, b)) (pc + 3) hc (show ab_nx ro own false (.putfield ix) t pc L (v :: .ref o :: r) w a b = some (ps, pc + 3, L, r, w.set o (.inr (ci, fs.set k v)), a, b) by simp only [ab_nx, hl, hw, Nat.beq_refl, hfin, Bool.not_false, Bool.true_or, hlt, Bool.and_self, cond_true, hfit]) rfl hp kk
theorem ay_is {pc a b t o n : Nat} {L : ab_L} {r : List Value} {w : ab_W} {i z : Int32} {f : Nat → Int32} {ini : Bool} (hc : code pc = some (.iastore, t)) (hw : w[o]? = some (.inl (0, n, .inl f))) (hi : vp_in i n) (kk : ab_wp ro C own ini ret code Q (pc + 1, L, r, w.set o (.inl (0, n, .inl (upd f i.toNatClampNeg z))), a, b)) : ab_wp ro C own ini ret code Q (pc, L, .int z :: .int i :: .ref o :: r, w, a, b) :=
  ax_sw (x := (L, r, w.set o (.inl (0, n, .inl (upd f i.toNatClampNeg z))), a, b)) (pc + 1) hc (show ab_nx ro own ini .iastore t pc L (.int z :: .int i :: .ref o :: r) w a b = some ([vp_in i n], pc + 1, L, r, w.set o (.inl (0, n, .inl (upd f i.toNatClampNeg z))), a, b) by simp only [ab_nx, hw]) rfl ⟨hi, trivial⟩ kk
end Ay2
section Hand2
variable {ro : ab_R} {sp : Nat → ty_S} {fz : List (Nat × Nat)} {G : Nat → Nat} {F : ab_W → Prop}
theorem ty_put {w : ab_W} {o ci k nn : Nat} {fs : List Value} {fl : List ty_F} {q : ty_F} {v : Value} (hw : ty_w sp G w) (h : w[o]? = some (.inr (ci, fs))) (hs : sp (G o) = (0, ci, nn, fl)) (hq : fl[k]? = some q) (hv : ty_v G (ty_fa q) v) : ty_w sp G (w.set o (.inr (ci, fs.set k v))) := by
  have hc := hw.1 o _ h
  rw [hs] at hc
  obtain ⟨_, _, h3, h4⟩ := hc
  refine ty_w_set hw ?_
  rw [hs]
  refine ⟨rfl, rfl, by rw [List.length_set]; exact h3, fun j q' hj => ?_⟩
  by_cases e : k = j
  · subst e
    have hj : fl[k]? = some q' := hj
    rw [hq] at hj
    cases hj
    have hlt : k < fs.length := by
      have := (List.getElem?_eq_some_iff.mp hq).1
      have h3 : fs.length = fl.length := h3
      omega
    exact ⟨v, by rw [List.getElem?_set, if_pos rfl, if_pos hlt], hv⟩
  · obtain ⟨v', k1, k2⟩ := h4 j q' hj
    exact ⟨v', by rw [List.getElem?_set, if_neg e]; exact k1, k2⟩
theorem h_X9_lies1 (d : Nat) {l1 l2 h1 h2 : Int} {wf : Nat} (hl : (ck_w wf).1 ≤ l1) (hh : h2 ≤ (ck_w wf).2) : ck_ct ro sp_ G F fz (ab_Ev ro ab_codes (d + 1)) 120 [(0, (-2147483648), 2147483647), (0, l1, l2), (0, h1, h2)] (some (0, 0, 1)) 1 wf := by
  refine ck_hand (d := d) (by decide) (fun as w hw hf has => ?_)
  match as, has with
  | [v0, v1, v2], ⟨g0, g1, g2, _⟩ =>
    obtain ⟨p, rfl, _⟩ := ty_int g0 rfl
    obtain ⟨a, rfl, a1, a2⟩ := ty_int g1 rfl
    obtain ⟨b, rfl, b1, b2⟩ := ty_int g2 rfl
    have a1 : l1 ≤ a.toInt := a1
    have b2 : b.toInt ≤ h2 := b2
    refine ⟨rfl, ?_⟩
    have fin : ∀ (y : Int32), (y = 0 ∨ y = 1) → (y = 1 → (ck_w wf).1 ≤ p.toInt ∧ p.toInt ≤ (ck_w wf).2) → ∃ v w1, ((some (.int y), w, 0, 0) : ab_O) = (v, w1, 0, 0) ∧ ty_w sp_ G w1 ∧ F w1 ∧ ty_same G fz w w1 ∧ ck_res G (some (0, 0, 1)) v ∧ ck_wit 1 wf [.int p, .int a, .int b] v := by
      intro y hy hp
      refine ⟨_, w, rfl, hw, hf, ty_same_rf w, ?_, fun z hz hn => ?_⟩
      · rcases hy with rfl | rfl
        · exact ⟨rfl, by decide, by decide⟩
        · exact ⟨rfl, by decide, by decide⟩
      · cases hz
        rcases hy with rfl | rfl
        · exact absurd (by decide) hn
        · exact ⟨p, rfl, (hp rfl).1, (hp rfl).2⟩
    change ab_wp ro _ 9 false (some .boolean) ab_k_X9_lies _ (0, [some (.int p), some (.int a), some (.int b)], [], w, 0, 0)
    have no : ab_wp ro (ab_Ev ro ab_codes d) 9 false (some .boolean) ab_k_X9_lies (fun o_1 => ∃ v w1, o_1 = (v, w1, 0, 0) ∧ ty_w sp_ G w1 ∧ F w1 ∧ ty_same G fz w w1 ∧ ck_res G (some (0, 0, 1)) v ∧ ck_wit 1 wf [.int p, .int a, .int b] v) (14, [some (.int p), some (.int a), some (.int b)], [], w, 0, 0) := by
      refine ax_go 1 rfl trivial ?_
      exact ax_ret rfl rfl ⟨Or.inl rfl, trivial⟩ (fin 0 (Or.inl rfl) (fun z => absurd z (by decide)))
    refine ax_go 2 rfl trivial ?_
    refine ax_br rfl rfl (fun _ => no) (fun k1 => ?_)
    have k1 : ¬ (p < a) := k1
    rw [Int32.lt_iff_toInt_lt] at k1
    refine ax_go 2 rfl trivial ?_
    refine ax_br rfl rfl (fun _ => no) (fun k2 => ?_)
    have k2 : ¬ (b < p) := k2
    rw [Int32.lt_iff_toInt_lt] at k2
    refine ax_go 2 rfl trivial ?_
    exact ax_ret rfl rfl ⟨Or.inr rfl, trivial⟩ (fin 1 (Or.inr rfl) (fun _ => by omega))
theorem h_X9_lies (d : Nat) {l1 l2 h1 h2 : Int} {wf : Nat} (hl : (ck_w wf).1 ≤ l1) (hh : h2 ≤ (ck_w wf).2) : ck_ct ro sp_ G F fz (ab_Ev ro ab_codes (d + 20)) 120 [(0, (-2147483648), 2147483647), (0, l1, l2), (0, h1, h2)] (some (0, 0, 1)) 1 wf := h_X9_lies1 (d + 19) hl hh
theorem F_put {w : ab_W} {o ci k : Nat} {fs : List Value} {v : Value} (hF : F_ G w) (h : w[o]? = some (.inr (ci, fs))) (hc : ∀ x y : Int32, (fs.set k v)[5]? = some (.int x) → (fs.set k v)[3]? = some (.int y) → x.toInt = 3 → y.toInt ≤ 399) : F_ G (w.set o (.inr (ci, fs.set k v))) := by
  refine ⟨fun j cj gs x y hj hg hx hy e => ?_, fun j f hj hg => ?_⟩
  · rw [List.getElem?_set] at hg
    by_cases z : o = j
    · rw [if_pos z, if_pos (List.getElem?_eq_some_iff.mp h).1] at hg
      cases hg
      exact hc x y hx hy e
    · rw [if_neg z] at hg
      exact hF.1 j cj gs x y hj hg hx hy e
  · rw [List.getElem?_set] at hg
    by_cases z : o = j
    · rw [if_pos z, if_pos (List.getElem?_eq_some_iff.mp h).1] at hg
      cases hg
    · rw [if_neg z] at hg
      exact hF.2 j f hj hg
theorem h_X5_fail (h5 : ck_ok fz 8 5 = true) (h7 : ck_ok fz 8 7 = true) (d : Nat) : ck_ct ro sp_ G (F_ G) fz (ab_Ev ro ab_codes (d + 20)) 60 [(2, 8, 0)] none 0 0 := by
  refine ck_hand (d := d + 19) (by decide) (fun as w hw hf has => ?_)
  match as, has with
  | [v0], ⟨h0, _⟩ =>
    obtain ⟨o, c, rfl, g1, g2, g3⟩ := ck_cell h0 hw rfl rfl
    obtain ⟨ci, fs, rfl, g4, g5, g6⟩ := ty_obj g3 rfl
    have g4 : ci = 5 := g4
    subst g4
    have g1 : G o = 8 := g1
    have g5 : fs.length = 9 := g5
    obtain ⟨n7, a1, a2⟩ := g6 7 _ rfl
    obtain ⟨x7, rfl, _⟩ := ty_int a2 rfl
    obtain ⟨n3, b1, b2⟩ := g6 3 _ rfl
    obtain ⟨x3, rfl, b3, b4⟩ := ty_int b2 rfl
    refine ⟨rfl, ?_⟩
    have fin : ∀ (w' : ab_W) (fs' : List Value), ty_w sp_ G w' → F_ G w' → ty_same G fz w w' → w'[o]? = some (.inr (5, fs')) → fs'.length = 9 → ab_wp ro (ab_Ev ro ab_codes (d + 19)) 5 false none ab_k_X5_fail (fun o_1 => ∃ v w1, o_1 = (v, w1, 0, 0) ∧ ty_w sp_ G w1 ∧ F_ G w1 ∧ ty_same G fz w w1 ∧ ck_res G none v ∧ ck_wit 0 0 [.ref o] v) (16, [some (.ref o)], [], w', 0, 0) := by
      intro w' fs' i1 i2 i3 i4 i5
      refine ax_go 2 rfl trivial ?_
      refine ay_pf rfl rfl (by decide) i4 (by omega) rfl trivial ?_
      refine ax_ret rfl rfl trivial ⟨none, _, rfl, ty_put i1 i4 (by rw [g1]; rfl) rfl ⟨rfl, by decide, by decide⟩, F_put i2 i4 (fun x y hx hy e => ?_), ty_same_tr i3 (ck_same_put i4 h5 (by rw [g1]; rfl)), trivial, trivial⟩
      rw [List.getElem?_set, if_pos rfl, if_pos (by omega)] at hx
      cases hx
      exact absurd e (by decide)
    change ab_wp ro _ 5 false none ab_k_X5_fail _ (0, [some (.ref o)], [], w, 0, 0)
    refine ax_go 1 rfl trivial ?_
    refine ay_gf rfl rfl g2 a1 ?_
    refine ax_go 1 rfl trivial ?_
    refine ax_br rfl rfl (fun _ => fin w fs hw hf (ty_same_rf w) g2 g5) (fun _ => ?_)
    refine ax_go 2 rfl trivial ?_
    refine ay_gf rfl rfl g2 b1 ?_
    refine ay_pf rfl rfl (by decide) g2 (by omega) rfl trivial ?_
    have s1 : ty_same G pr_ w (w.set o (.inr (5, fs.set 7 (.int x3)))) := ck_same_put g2 (s := 8) (by decide) (by rw [g1]; rfl)
    refine fin _ (fs.set 7 (.int x3)) (ty_put hw g2 (by rw [g1]; rfl) rfl (ck_top_ok _)) (F_same s1 hf) (ck_same_put g2 h7 (by rw [g1]; rfl)) ?_ (by rw [List.length_set]; exact g5)
    rw [List.getElem?_set, if_pos rfl, if_pos (List.getElem?_eq_some_iff.mp g2).1]
end Hand2
