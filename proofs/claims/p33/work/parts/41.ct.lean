/-! a method by its tables -/
def ck_e1 (t : ty_A) : List (Option ty_A) := cond (Nat.beq t.1 1) [some t, none] [some t]
def ck_en (n : Nat) (ga : List ty_A) : List (Option ty_A) := ga.flatMap ck_e1 ++ List.replicate (n - (ga.flatMap ck_e1).length) none
def ck_meth (sp : Nat → ty_S) (fb : List (Nat × Nat)) (j : Nat) (ga : List ty_A) (rt : Option ty_A) (E : List ck_E) (T : List ck_N) : Bool := Nat.blt j 240 && !ab_ini j && Nat.beq (ck_en (ab_nL j) ga).length (ab_nL j) && (match T with
  | N :: _ => Nat.beq N.1 0 && ck_le (ck_en (ab_nL j) ga, [], []) N.2.1
  | [] => false) && ck_all sp fb (ab_ow j) (ab_nL j) (ab_ret j) rt (ab_codes j) E T
section CkT
variable {ro : ab_R} {sp : Nat → ty_S} {fb fz pr : List (Nat × Nat)} {G : Nat → Nat} {F : ab_W → Prop}
theorem ck_lcs_cons {t : Option ty_A} {s : List (Option ty_A)} {v : Option Value} {L : ab_L} (h : ∀ a, t = some a → ∃ x, v = some x ∧ ty_v G a x) (hs : ck_lcs G s L) : ck_lcs G (t :: s) (v :: L) := by
  refine ⟨by rw [List.length_cons, List.length_cons, hs.1], fun k a hk => ?_⟩
  cases k with
  | zero =>
    simp only [List.getElem?_cons_zero, Option.some.injEq] at hk
    obtain ⟨x, h1, h2⟩ := h a hk
    exact ⟨x, by rw [h1]; rfl, h2⟩
  | succ k =>
    obtain ⟨x, h1, h2⟩ := hs.2 k a hk
    exact ⟨x, h1, h2⟩
theorem ck_lcs_rep (n : Nat) : ck_lcs G (List.replicate n none) (List.replicate n none) := by
  refine ⟨by rw [List.length_replicate, List.length_replicate], fun k a hk => ?_⟩
  have := List.eq_of_mem_replicate (List.mem_of_getElem? hk)
  cases this
theorem ck_lcs_en {R : List (Option ty_A)} {L : ab_L} (hR : ck_lcs G R L) : ∀ {ga : List ty_A} {as : List Value}, ck_tys G ga as → ck_lcs G (ga.flatMap ck_e1 ++ R) (as.flatMap ab_e1 ++ L)
  | [], [], _ => hR
  | [], _ :: _, h => h.elim
  | _ :: _, [], h => h.elim
  | t :: ts, v :: vs, h => by
    have ih := ck_lcs_en hR h.2
    rw [List.flatMap_cons, List.flatMap_cons, List.append_assoc, List.append_assoc]
    have h1 := h.1
    have one : ∀ (_ : Nat.beq t.1 1 = false) (_ : ab_e1 v = [some v]), ck_lcs G (ck_e1 t ++ (ts.flatMap ck_e1 ++ R)) (ab_e1 v ++ (vs.flatMap ab_e1 ++ L)) := by
      intro e1 e2
      unfold ck_e1
      rw [e1, e2]
      exact ck_lcs_cons (fun a z => by cases z; exact ⟨v, rfl, h1⟩) ih
    cases v with
    | int x => exact one (by rw [h1.1]; rfl) rfl
    | long x =>
      have e1 : Nat.beq t.1 1 = true := by rw [h1.1]; rfl
      unfold ck_e1
      rw [e1]
      exact ck_lcs_cons (fun a z => by cases z; exact ⟨_, rfl, h1⟩) (ck_lcs_cons (fun a z => by cases z) ih)
    | ref k =>
      refine one ?_ rfl
      rcases h1 with h1 | h1
      · rw [h1.1]; rfl
      · rw [h1.1]; rfl
    | null => exact one (by rw [h1.1]; rfl) rfl
    | _ => exact h1.elim
theorem ck_tys_len {ga : List ty_A} {as : List Value} (h : ck_tys G ga as) : (ga.flatMap ck_e1).length = (as.flatMap ab_e1).length := by
  have := (ck_lcs_en (R := []) (L := []) ⟨rfl, fun k a hk => by cases hk⟩ h).1
  rw [List.append_nil, List.append_nil] at this
  exact this
theorem ck_en_ok {n : Nat} {ga : List ty_A} {as : List Value} (h : ck_tys G ga as) : ck_lcs G (ck_en n ga) (ab_en n as) := by
  unfold ck_en ab_en
  rw [ck_tys_len h]
  exact ck_lcs_en (ck_lcs_rep _) h
theorem ck_meth_ok {d j : Nat} {ga : List ty_A} {rt : Option ty_A} {E : List ck_E} {T : List ck_N} (h : ck_meth sp fb j ga rt E T = true) (hfz : ∀ q ∈ fz, q ∈ fb) (hpr : ∀ q ∈ pr, q ∈ fb) (hF : ∀ w w', ty_same G pr w w' → F w → F w')
    (hE : ∀ (e j : Nat) (ga : List ty_A) (gr : Option ty_A) (wa wf : Nat), E[e]? = some (j, ga, gr, wa, wf) → ck_ct ro sp G F fz (ab_Ev ro ab_codes d) j ga gr wa wf) : ck_ct ro sp G F fz (ab_Ev ro ab_codes (d + 1)) j ga rt 0 0 := by
  intro as w hw hf has
  unfold ck_meth at h
  simp only [Bool.and_eq_true] at h
  obtain ⟨⟨⟨⟨h1, h2⟩, h3⟩, h4⟩, h5⟩ := h
  have hj : j < 240 := Nat.le_of_ble_eq_true h1
  have hini : ab_ini j = false := by
    rw [Bool.not_eq_true'] at h2
    exact h2
  split at h4
  · rename_i N T'
    rw [Bool.and_eq_true] at h4
    have hl := ck_en_ok (n := ab_nL j) has
    have hm : ck_ms G N.2.1 (ab_en (ab_nL j) as) [] w := ck_le_ok h4.2 ⟨hl, trivial, fun q hq => by cases hq⟩
    have hlen : (ab_en (ab_nL j) as).length = ab_nL j := by
      rw [← hl.1]
      exact Nat.eq_of_beq_eq_true h3
    have hp := ck_sound h5 hfz hpr hF hE w ((ck_mv (ab_nL j) N.2.2.1 (ab_en (ab_nL j) as)).toNat + 1) N _ [] w List.mem_cons_self (by omega) hm hw hf (ty_same_rf w)
    rw [Nat.eq_of_beq_eq_true h4.1, ← hini] at hp
    obtain ⟨o, k, hX, v, w1, rfl, q1, q2, q3, q4⟩ := hp
    refine ab_cl_id hw (ck_tys_mem has) ⟨hj, hlen, k, hX⟩ q1 q3.1 (fun x hx => ?_) ⟨rfl, rfl, q1, q2, q3, q4, trivial⟩
    subst hx
    cases rt with
    | none => exact q4.elim
    | some t => exact ⟨t, q4⟩
  · cases h4
end CkT
