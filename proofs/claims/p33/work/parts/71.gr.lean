/-! the reference: its two languages as walks over codes; what no type says of its rows -/
section Gr
/-- the code at a place, 0 behind the end -/
def gc (c : Nat → Int) (e p : Nat) : Int := if p < e then c p else 0
def gr_leaf (o : Bool) (v : Int) : Bool := decide (v = 50) || (decide ((cond o 14 9 : Int) ≤ v) && decide (v ≤ (cond o 20 16 : Int)))
/-- a walk: fuel, how many brackets may still be opened, what (0 a part, 1 a term, 2 a sum, 3 and 4 their loops, 5 a comparison or a test in brackets, 6 with "not" ahead, 7 both, 8 its loop, 9 a test, 10 its loop), from where; to where -/
def gr (c : Nat → Int) (e : Nat) (o : Bool) : Nat → Nat → Nat → Nat → Option Nat
  | 0, _, _, _ => none
  | n + 1, b, k, p => match k with
    | 0 => if gc c e p = 191 then (match b with
        | 0 => none
        | b + 1 => (gr c e o n b 2 (p + 1)).bind (fun q => if gc c e q = 193 then some (q + 1) else none))
      else if gr_leaf o (gc c e p) = true then (if o = true ∧ (gc c e p = 14 ∨ gc c e p = 15) then (if gc c e (p + 1) = 50 then some (p + 2) else none) else some (p + 1)) else none
    | 1 => (gr c e o n b 0 p).bind (gr c e o n b 3)
    | 2 => (gr c e o n b 1 p).bind (gr c e o n b 4)
    | 3 => if gc c e p = 142 ∨ gc c e p = 147 ∨ gc c e p = 137 then (gr c e o n b 0 (p + 1)).bind (gr c e o n b 3) else some p
    | 4 => if gc c e p = 143 ∨ gc c e p = 145 then (gr c e o n b 1 (p + 1)).bind (gr c e o n b 4) else some p
    | 5 => if gc c e p = 140 then (match b with
        | 0 => none
        | b + 1 => (gr c e o n b 9 (p + 1)).bind (fun q => if gc c e q = 141 then some (q + 1) else none))
      else (gr c e o n b 2 p).bind (fun q => if gc c e q = 160 ∨ gc c e q = 161 ∨ gc c e q = 162 then gr c e o n b 2 (q + 1) else none)
    | 6 => if gc c e p = 8 then gr c e o n b 6 (p + 1) else gr c e o n b 5 p
    | 7 => (gr c e o n b 6 p).bind (gr c e o n b 8)
    | 8 => if gc c e p = 7 then (gr c e o n b 6 (p + 1)).bind (gr c e o n b 8) else some p
    | 9 => (gr c e o n b 7 p).bind (gr c e o n b 10)
    | _ => if gc c e p = 6 then (gr c e o n b 7 (p + 1)).bind (gr c e o n b 10) else some p
/-- a clause of a law -/
def gcl (c : Nat → Int) (e n p : Nat) : Option Nat := (if c p = 4 then some (p + 1) else gr c e false n 8 2 (p + 1)).bind (fun q => if gc c e q = 5 then gr c e false n 8 9 (q + 1) else some q)
/-- a law -/
def glaw (c : Nat → Int) (e n : Nat) : Nat → Nat → Prop
  | 0, _ => False
  | m + 1, p => if p < e then ∃ q, gcl c e n p = some q ∧ p < q ∧ glaw c e n m (q + 1) else True
def gwf (f : Nat → Int32) (t : Nat) : Prop := ∃ n m, glaw (fun k => (f (121 + k)).toInt) (400 * t + (f (114 + t)).toInt.toNat) n m (400 * t)
/-- a place of what moves -/
def mv_b (i : Nat) (v : Int) : Prop := (i < 10 → 0 ≤ v ∧ v ≤ 999) ∧ (20 ≤ i → i < 68 → i % 3 = 2 → 0 ≤ v ∧ v ≤ 9) ∧ (20 ≤ i → i < 68 → i % 3 = 0 → 0 ≤ v ∧ v ≤ 98) ∧ (i = 68 → 0 ≤ v ∧ v ≤ 16)
def MV (f : Nat → Int32) (b : Nat) : Prop := ∀ i, i < 71 → mv_b i (f (b + i)).toInt
/-- a place of all that is kept -/
def kb (i : Nat) (v : Int) : Prop := mv_b i v ∧ (71 ≤ i → i < 81 → -1 ≤ v ∧ v ≤ 9 ∧ (72 ≤ i → v < (i : Int) - 71)) ∧ (91 ≤ i → i < 107 → i % 2 = 1 → 0 ≤ v ∧ v ≤ 9) ∧ (i = 107 → 2 ≤ v ∧ v ≤ 99) ∧ (i = 110 → 0 ≤ v ∧ v ≤ 10) ∧ (i = 111 → 0 ≤ v ∧ v ≤ 8) ∧ (i = 112 → 0 ≤ v ∧ v ≤ 6) ∧ (i = 113 → -1 ≤ v ∧ v ≤ 5) ∧ (114 ≤ i → i < 121 → 0 ≤ v ∧ v ≤ 400)
def KP (f : Nat → Int32) : Prop := (∀ i, i < 5721 → kb i (f i).toInt) ∧ (0 < (f 110).toInt → (f 71).toInt = -1) ∧ (f 113).toInt < (f 112).toInt ∧ ∀ t : Nat, (t : Int) < (f 112).toInt → gwf f t
variable {G : Nat → Nat} {F : ab_W → Prop}
def FRow (G : Nat → Nat) (s n : Nat) (P : (Nat → Int32) → Prop) (w : ab_W) : Prop := ∀ (k : Nat) (f : Nat → Int32), G k = s → w[k]? = some (.inl (0, n, .inl f)) → P f
theorem FRow_put {s n o : Nat} {P : (Nat → Int32) → Prop} {w w2 : ab_W} {f2 : Nat → Int32} (h : FRow G s n P w) (g2 : w2[o]? = some (.inl (0, n, .inl f2))) (oth : ∀ j, j ≠ o → w2[j]? = w[j]?) (hP : P f2) : FRow G s n P w2 := by
  intro k f hk hc
  by_cases z : k = o
  · subst z
    rw [g2] at hc
    cases hc
    exact hP
  · rw [oth k z] at hc
    exact h k f hk hc
theorem FRow_oth {s n o s' : Nat} {P : (Nat → Int32) → Prop} {w w2 : ab_W} (h : FRow G s n P w) (hG : G o = s') (hs : s ≠ s') (oth : ∀ j, j ≠ o → w2[j]? = w[j]?) : FRow G s n P w2 := by
  intro k f hk hc
  rw [oth k (fun z => hs (by rw [← hk, ← hG, z]))] at hc
  exact h k f hk hc
theorem FRow_same {s n : Nat} {P : (Nat → Int32) → Prop} {w w2 : ab_W} {fz : List (Nat × Nat)} (hm : (s, 999) ∈ fz) (h : ty_same G fz w w2) (hF : FRow G s n P w) : FRow G s n P w2 := by
  intro k f hk hc
  have e := (h.2 k 999 (by rw [hk]; exact hm)).1 rfl
  exact hF k f hk (by rw [← e]; exact hc)
/-- the images that are kept -/
def FImg (G : Nat → Nat) (w : ab_W) : Prop := ∀ (p q : Nat) (f h : Nat → Int32), G p = 33 → w[p]? = some (.inl (0, 11442, .inl f)) → G q = 34 → w[q]? = some (.inl (3, 2, .inl h)) → ∀ k, k < 2 → (h k).toInt ≠ 0 → KP (fun i => f (5721 * k + i))
theorem FImg_oth {o s : Nat} {w w2 : ab_W} (h : FImg G w) (hG : G o = s) (h1 : 33 ≠ s) (h2 : 34 ≠ s) (oth : ∀ j, j ≠ o → w2[j]? = w[j]?) : FImg G w2 := by
  intro p q f hh hp hf hq hg
  rw [oth p (fun z => h1 (by rw [← hp, ← hG, z]))] at hf
  rw [oth q (fun z => h2 (by rw [← hq, ← hG, z]))] at hg
  exact h p q f hh hp hf hq hg
theorem FImg_same {w w2 : ab_W} {fz : List (Nat × Nat)} (h1 : (33, 999) ∈ fz) (h2 : (34, 999) ∈ fz) (h : ty_same G fz w w2) (hF : FImg G w) : FImg G w2 := by
  intro p q f hh hp hf hq hg
  have e := (h.2 p 999 (by rw [hp]; exact h1)).1 rfl
  have e' := (h.2 q 999 (by rw [hq]; exact h2)).1 rfl
  exact hF p q f hh hp (by rw [← e]; exact hf) hq (by rw [← e']; exact hg)
def ML (f : Nat → Int32) : Prop := ∀ i, i < 16 → MV f (72 * i)
def FM (G : Nat → Nat) (w : ab_W) : Prop := FRow G 32 5721 KP w ∧ FRow G 35 142 (fun f => MV f 0 ∧ MV f 71) w ∧ FRow G 44 1152 ML w ∧ FRow G 45 1152 ML w ∧ FImg G w
def prM : List (Nat × Nat) := pr_.filter (fun q => Nat.ble q.1 30)
def F9 (G : Nat → Nat) (F : ab_W → Prop) (w : ab_W) : Prop := FM G w ∧ F w
def prN : List (Nat × Nat) := (32, 999) :: prM
/-- a change that leaves the texts as they are -/
def smt (G : Nat → Nat) (w w' : ab_W) : Prop := ty_same G prM w w' ∧ ∀ (k : Nat) (f : Nat → Int32), G k = 32 → w[k]? = some (.inl (0, 5721, .inl f)) → ∃ f', w'[k]? = some (.inl (0, 5721, .inl f')) ∧ ∀ j, 114 ≤ j → f' j = f j
theorem smt_of {w w' : ab_W} (h : ty_same G prN w w') : smt G w w' := ⟨ty_same_sub h (by decide), fun k f hk hf => ⟨f, by rw [(h.2 k 999 (by rw [hk]; decide)).1 rfl]; exact hf, fun _ _ => rfl⟩⟩
theorem smt_k {w w2 : ab_W} {o : Nat} {f f2 : Nat → Int32} (hn : ty_same G prM w w2) (g : w[o]? = some (.inl (0, 5721, .inl f))) (g2 : w2[o]? = some (.inl (0, 5721, .inl f2))) (oth : ∀ j, j ≠ o → w2[j]? = w[j]?) (ho : ∀ j, 114 ≤ j → f2 j = f j) : smt G w w2 := by
  refine ⟨hn, fun k f' hk hf => ?_⟩
  by_cases z : k = o
  · subst z
    rw [g] at hf
    cases hf
    exact ⟨f2, g2, ho⟩
  · exact ⟨f', by rw [oth k z]; exact hf, fun _ _ => rfl⟩
theorem FM_same {w w' : ab_W} (h : ty_same G pr_ w w') (hf : FM G w) : FM G w' := ⟨FRow_same (by decide) h hf.1, FRow_same (by decide) h hf.2.1, FRow_same (by decide) h hf.2.2.1, FRow_same (by decide) h hf.2.2.2.1, FImg_same (by decide) (by decide) h hf.2.2.2.2⟩
theorem F9_same (hF : ∀ w w', smt G w w' → F w → F w') : ∀ w w', ty_same G pr_ w w' → F9 G F w → F9 G F w' := fun _ _ h hf => ⟨FM_same h hf.1, hF _ _ (smt_of (ty_same_sub h (by decide))) hf.2⟩
theorem F9_sameN (hF : ∀ w w', ty_same G prM w w' → F w → F w') : ∀ w w', ty_same G pr_ w w' → F9 G F w → F9 G F w' := fun _ _ h hf => ⟨FM_same h hf.1, hF _ _ (ty_same_sub h (by decide)) hf.2⟩
theorem FM_k {w w2 : ab_W} {o : Nat} {f2 : Nat → Int32} (hf : FM G w) (hG : G o = 32) (g2 : w2[o]? = some (.inl (0, 5721, .inl f2))) (oth : ∀ j, j ≠ o → w2[j]? = w[j]?) (h : KP f2) : FM G w2 := ⟨FRow_put hf.1 g2 oth h, FRow_oth hf.2.1 hG (by decide) oth, FRow_oth hf.2.2.1 hG (by decide) oth, FRow_oth hf.2.2.2.1 hG (by decide) oth, FImg_oth hf.2.2.2.2 hG (by decide) (by decide) oth⟩
theorem FM_a {w w2 : ab_W} {o : Nat} {f2 : Nat → Int32} (hf : FM G w) (hG : G o = 35) (g2 : w2[o]? = some (.inl (0, 142, .inl f2))) (oth : ∀ j, j ≠ o → w2[j]? = w[j]?) (h : MV f2 0 ∧ MV f2 71) : FM G w2 := ⟨FRow_oth hf.1 hG (by decide) oth, FRow_put hf.2.1 g2 oth h, FRow_oth hf.2.2.1 hG (by decide) oth, FRow_oth hf.2.2.2.1 hG (by decide) oth, FImg_oth hf.2.2.2.2 hG (by decide) (by decide) oth⟩
theorem FM_l {w w2 : ab_W} {o : Nat} {f2 : Nat → Int32} (hf : FM G w) (hG : G o = 44) (g2 : w2[o]? = some (.inl (0, 1152, .inl f2))) (oth : ∀ j, j ≠ o → w2[j]? = w[j]?) (h : ML f2) : FM G w2 := ⟨FRow_oth hf.1 hG (by decide) oth, FRow_oth hf.2.1 hG (by decide) oth, FRow_put hf.2.2.1 g2 oth h, FRow_oth hf.2.2.2.1 hG (by decide) oth, FImg_oth hf.2.2.2.2 hG (by decide) (by decide) oth⟩
theorem FM_L {w w2 : ab_W} {o : Nat} {f2 : Nat → Int32} (hf : FM G w) (hG : G o = 45) (g2 : w2[o]? = some (.inl (0, 1152, .inl f2))) (oth : ∀ j, j ≠ o → w2[j]? = w[j]?) (h : ML f2) : FM G w2 := ⟨FRow_oth hf.1 hG (by decide) oth, FRow_oth hf.2.1 hG (by decide) oth, FRow_oth hf.2.2.1 hG (by decide) oth, FRow_put hf.2.2.2.1 g2 oth h, FImg_oth hf.2.2.2.2 hG (by decide) (by decide) oth⟩
theorem gr_congr {c c' : Nat → Int} {e : Nat} {o : Bool} (h : ∀ p, gc c e p = gc c' e p) : ∀ n b k p, gr c e o n b k p = gr c' e o n b k p := by
  intro n
  induction n with
  | zero => intro b k p; rfl
  | succ n ih =>
    intro b k p
    have i2 : ∀ b k, gr c e o n b k = gr c' e o n b k := fun b k => funext (ih b k)
    unfold gr
    simp only [h, i2]
theorem gcl_congr {c c' : Nat → Int} {e n p : Nat} (h : ∀ p, gc c e p = gc c' e p) (hp : p < e) : gcl c e n p = gcl c' e n p := by
  have e1 : c p = c' p := by
    have := h p
    unfold gc at this
    rw [if_pos hp, if_pos hp] at this
    exact this
  unfold gcl
  simp only [h, e1, gr_congr h]
theorem glaw_congr {c c' : Nat → Int} {e n : Nat} (h : ∀ p, gc c e p = gc c' e p) : ∀ m p, glaw c e n m p → glaw c' e n m p := by
  intro m
  induction m with
  | zero => intro p hp; exact hp
  | succ m ih =>
    intro p hp
    unfold glaw at hp ⊢
    by_cases z : p < e
    · rw [if_pos z] at hp ⊢
      obtain ⟨q, h1, h2, h3⟩ := hp
      exact ⟨q, by rw [← gcl_congr h z]; exact h1, h2, ih _ h3⟩
    · rw [if_neg z]
      trivial
theorem gwf_congr {f f' : Nat → Int32} {t : Nat} (h1 : ∀ k, k < 2800 → f' (121 + k) = f (121 + k)) (h2 : f' (114 + t) = f (114 + t)) (h : gwf f t) (ht : t < 7) (hs : (f (114 + t)).toInt ≤ 400) : gwf f' t := by
  obtain ⟨n, m, h⟩ := h
  refine ⟨n, m, ?_⟩
  rw [h2]
  refine glaw_congr (fun p => ?_) m _ h
  unfold gc
  by_cases z : p < 400 * t + (f (114 + t)).toInt.toNat
  · rw [if_pos z, if_pos z]
    show (f (121 + p)).toInt = (f' (121 + p)).toInt
    rw [h1 p (by omega)]
  · rw [if_neg z, if_neg z]
/-- a place is written that no text, no number of texts or parishes stands on -/
theorem KP_up {f f' : Nat → Int32} {i : Nat} (h : KP f) (ho : ∀ j, j ≠ i → f' j = f j) (hi : kb i (f' i).toInt) (h1 : i < 71 ∨ (72 ≤ i ∧ i ≤ 109) ∨ i = 111) : KP f' := by
  obtain ⟨a, b, c, d⟩ := h
  refine ⟨fun j hj => ?_, ?_, ?_, fun t ht => ?_⟩
  · by_cases z : j = i
    · rw [z]
      exact hi
    · rw [ho j z]
      exact a j hj
  · rw [ho 110 (by omega), ho 71 (by omega)]
    exact b
  · rw [ho 113 (by omega), ho 112 (by omega)]
    exact c
  · rw [ho 112 (by omega)] at ht
    have k112 := (a 112 (by decide)).2.2.2.2.2.2.1 rfl
    have k114 := (a (114 + t) (by omega)).2.2.2.2.2.2.2.2 (by omega) (by omega)
    exact gwf_congr (fun k _ => ho _ (by omega)) (ho _ (by omega)) (d t ht) (by omega) k114.2
/-- a place is written that no text, no number of texts stands on -/
theorem KP_up2 {f f' : Nat → Int32} {i : Nat} (h : KP f) (ho : ∀ j, j ≠ i → f' j = f j) (hi : i < 5721 → kb i (f' i).toInt) (h1 : i ≤ 111 ∨ 2921 ≤ i) (h2 : i = 71 → (f 110).toInt ≤ 0 ∨ (f' i).toInt = -1) (h3 : i = 110 → (f' i).toInt ≤ 0 ∨ (f 71).toInt = -1) : KP f' := by
  obtain ⟨a, b, c, d⟩ := h
  refine ⟨fun j hj => ?_, ?_, ?_, fun t ht => ?_⟩
  · by_cases z : j = i
    · rw [z]
      exact hi (by omega)
    · rw [ho j z]
      exact a j hj
  · by_cases z : i = 110
    · subst z
      rw [ho 71 (by omega)]
      rcases h3 rfl with y | y
      · omega
      · exact fun _ => y
    · rw [ho 110 (fun e => z e.symm)]
      by_cases y : i = 71
      · subst y
        rcases h2 rfl with y | y
        · omega
        · exact fun _ => y
      · rw [ho 71 (fun e => y e.symm)]
        exact b
  · rw [ho 113 (by omega), ho 112 (by omega)]
    exact c
  · rw [ho 112 (by omega)] at ht
    have k112 := (a 112 (by decide)).2.2.2.2.2.2.1 rfl
    have k114 := (a (114 + t) (by omega)).2.2.2.2.2.2.2.2 (by omega) (by omega)
    refine gwf_congr (fun k _ => ho _ (by omega)) (ho _ (by omega)) (d t ht) (by omega) k114.2
theorem KP_113 {f f' : Nat → Int32} (h : KP f) (ho : ∀ j, j ≠ 113 → f' j = f j) (h1 : -1 ≤ (f' 113).toInt) (h2 : (f' 113).toInt < (f 112).toInt) : KP f' := by
  obtain ⟨a, b, c, d⟩ := h
  have k112 := (a 112 (by decide)).2.2.2.2.2.2.1 rfl
  refine ⟨fun j hj => ?_, ?_, ?_, fun t ht => ?_⟩
  · by_cases z : j = 113
    · rw [z]
      exact ⟨⟨fun _ => by omega, fun _ _ _ => by omega, fun _ _ _ => by omega, fun _ => by omega⟩, fun _ _ => by omega, fun _ _ _ => by omega, fun _ => by omega, fun _ => by omega, fun _ => by omega, fun _ => by omega, fun _ => by omega, fun _ _ => by omega⟩
    · rw [ho j z]
      exact a j hj
  · rw [ho 110 (by omega), ho 71 (by omega)]
    exact b
  · rw [ho 112 (by omega)]
    exact h2
  · rw [ho 112 (by omega)] at ht
    have k114 := (a (114 + t) (by omega)).2.2.2.2.2.2.2.2 (by omega) (by omega)
    exact gwf_congr (fun k _ => ho _ (by omega)) (ho _ (by omega)) (d t ht) (by omega) k114.2
theorem KP_ext {f f' : Nat → Int32} (h : KP f) (e : ∀ i, i < 5721 → f' i = f i) : KP f' := by
  obtain ⟨a, b, c, d⟩ := h
  refine ⟨fun j hj => ?_, ?_, ?_, fun t ht => ?_⟩
  · rw [e j hj]
    exact a j hj
  · rw [e 110 (by omega), e 71 (by omega)]
    exact b
  · rw [e 113 (by omega), e 112 (by omega)]
    exact c
  · rw [e 112 (by omega)] at ht
    have k112 := (a 112 (by decide)).2.2.2.2.2.2.1 rfl
    have k114 := (a (114 + t) (by omega)).2.2.2.2.2.2.2.2 (by omega) (by omega)
    exact gwf_congr (fun k _ => e _ (by omega)) (e _ (by omega)) (d t ht) (by omega) k114.2
theorem MV_up {f f' : Nat → Int32} {b i : Nat} (h : MV f b) (ho : ∀ j, j ≠ i → f' j = f j) (hi : ∀ k, k < 71 → i = b + k → mv_b k (f' i).toInt) : MV f' b := by
  intro k hk
  by_cases z : b + k = i
  · rw [z]
    exact hi k hk z.symm
  · rw [ho _ z]
    exact h k hk
theorem ML_up {f f' : Nat → Int32} {i : Nat} (h : ML f) (ho : ∀ j, j ≠ i → f' j = f j) (hi : ∀ r k, r < 16 → k < 71 → i = 72 * r + k → mv_b k (f' i).toInt) : ML f' := fun r hr => MV_up (h r hr) ho (fun k hk e => hi r k hr hk e)
theorem KP_mv {f : Nat → Int32} (h : KP f) : MV f 0 := by
  intro i hi
  rw [Nat.zero_add]
  exact (h.1 i (by omega)).1
/-- all that moves is put back -/
theorem mv_ok {i : Nat} {v : Int} (h : mv_b i v) (hi : i < 71) : kb i v := ⟨h, fun z => by omega, fun z => by omega, fun z => by omega, fun z => by omega, fun z => by omega, fun z => by omega, fun z => by omega, fun z => by omega⟩
theorem mv_cp {i j : Nat} {v : Int} (h : mv_b i v) (h1 : 20 ≤ i) (h2 : i < 68) (h3 : 20 ≤ j) (h4 : j < 68) (h5 : i % 3 = j % 3) : mv_b j v := ⟨fun z => by omega, fun _ _ z => h.2.1 h1 h2 (by omega), fun _ _ z => h.2.2.1 h1 h2 (by omega), fun z => by omega⟩
theorem kb_sg {i : Nat} {v : Int} (h : kb i v) : hx_sg i v [(0, 10, 1, 0, 0, 999), (68, 69, 1, 0, 0, 16), (71, 81, 1, 0, (-1), 9), (107, 108, 1, 0, 2, 99), (110, 111, 1, 0, 0, 10), (111, 112, 1, 0, 0, 8), (112, 113, 1, 0, 0, 6), (113, 114, 1, 0, (-1), 5), (114, 121, 1, 0, 0, 400)] :=
  hx_sg1 (fun _ z _ => h.1.1 z) (hx_sg1 (fun z y _ => h.1.2.2.2 (by omega)) (hx_sg1 (fun z y _ => ⟨(h.2.1 z y).1, (h.2.1 z y).2.1⟩) (hx_sg1 (fun z y _ => h.2.2.2.1 (by omega)) (hx_sg1 (fun z y _ => h.2.2.2.2.1 (by omega)) (hx_sg1 (fun z y _ => h.2.2.2.2.2.1 (by omega)) (hx_sg1 (fun z y _ => h.2.2.2.2.2.2.1 (by omega)) (hx_sg1 (fun z y _ => h.2.2.2.2.2.2.2.1 (by omega)) (hx_sg1 (fun z y _ => h.2.2.2.2.2.2.2.2 z y) hx_sg0))))))))
/-- the images but one -/
def FImgx (G : Nat → Nat) (k0 : Nat) (w : ab_W) : Prop := ∀ (p q : Nat) (f h : Nat → Int32), G p = 33 → w[p]? = some (.inl (0, 11442, .inl f)) → G q = 34 → w[q]? = some (.inl (3, 2, .inl h)) → ∀ k, k < 2 → k ≠ k0 → (h k).toInt ≠ 0 → KP (fun i => f (5721 * k + i))
def F9x (G : Nat → Nat) (F : ab_W → Prop) (k0 : Nat) (w : ab_W) : Prop := (FRow G 32 5721 KP w ∧ FRow G 35 142 (fun f => MV f 0 ∧ MV f 71) w ∧ FRow G 44 1152 ML w ∧ FRow G 45 1152 ML w ∧ FImgx G k0 w) ∧ F w
theorem F9x_of {k0 : Nat} {w : ab_W} (h : F9 G F w) : F9x G F k0 w := ⟨⟨h.1.1, h.1.2.1, h.1.2.2.1, h.1.2.2.2.1, fun p q f hh hp hf hq hg k hk _ hz => h.1.2.2.2.2 p q f hh hp hf hq hg k hk hz⟩, h.2⟩
theorem F9x_put {k0 o i : Nat} {w w2 : ab_W} {f f2 : Nat → Int32} (h : F9x G F k0 w) (hG : G o = 33) (g : w[o]? = some (.inl (0, 11442, .inl f))) (g2 : w2[o]? = some (.inl (0, 11442, .inl f2))) (oth : ∀ j, j ≠ o → w2[j]? = w[j]?) (ho : ∀ j, j ≠ i → f2 j = f j) (hi : 5721 * k0 ≤ i ∧ i < 5721 * k0 + 5721) (hF : F w2) : F9x G F k0 w2 := by
  obtain ⟨⟨h1, h2, h3, h4, h5⟩, _⟩ := h
  refine ⟨⟨FRow_oth h1 hG (by decide) oth, FRow_oth h2 hG (by decide) oth, FRow_oth h3 hG (by decide) oth, FRow_oth h4 hG (by decide) oth, fun p q f' hh hp hf hq hg k hk hne hz => ?_⟩, hF⟩
  rw [oth q (fun z => by rw [z, hG] at hq; cases hq)] at hg
  by_cases z : p = o
  · subst z
    rw [g2] at hf
    cases hf
    refine KP_ext (h5 p q f hh hp g hq hg k hk hne hz) (fun j hj => ho _ (by omega))
  · rw [oth p z] at hf
    exact h5 p q f' hh hp hf hq hg k hk hne hz
theorem F9x_done {k0 o p0 : Nat} {w w2 : ab_W} {f h h2 : Nat → Int32} (hf : F9x G F k0 w) (hk0 : k0 < 2) (hU : ∀ p p', G p = 33 → G p' = 33 → p = p') (hG : G o = 34) (hGp : G p0 = 33) (gp : w[p0]? = some (.inl (0, 11442, .inl f))) (g : w[o]? = some (.inl (3, 2, .inl h))) (g2 : w2[o]? = some (.inl (3, 2, .inl h2))) (oth : ∀ j, j ≠ o → w2[j]? = w[j]?) (ho : ∀ j, j ≠ k0 → h2 j = h j) (hK : KP (fun i => f (5721 * k0 + i))) (hF : F w2) : F9 G F w2 := by
  obtain ⟨⟨h1, h2', h3, h4, h5⟩, _⟩ := hf
  refine ⟨⟨FRow_oth h1 hG (by decide) oth, FRow_oth h2' hG (by decide) oth, FRow_oth h3 hG (by decide) oth, FRow_oth h4 hG (by decide) oth, fun p q f' hh hp hfr hq hg k hk hz => ?_⟩, hF⟩
  rw [oth p (fun z => by rw [z, hG] at hp; cases hp)] at hfr
  by_cases y : k = k0
  · subst y
    obtain rfl := hU p p0 hp hGp
    rw [gp] at hfr
    cases hfr
    exact hK
  · by_cases z : q = o
    · subst z
      rw [g2] at hg
      cases hg
      rw [ho k y] at hz
      exact h5 p q f' h hp hfr hq g k hk y hz
    · rw [oth q z] at hg
      exact h5 p q f' hh hp hfr hq hg k hk y hz
/-- all but what is kept -/
def F9y (G : Nat → Nat) (F : ab_W → Prop) (w : ab_W) : Prop := (FRow G 35 142 (fun f => MV f 0 ∧ MV f 71) w ∧ FRow G 44 1152 ML w ∧ FRow G 45 1152 ML w ∧ FImg G w) ∧ F w
theorem F9y_of {w : ab_W} (h : F9 G F w) : F9y G F w := ⟨h.1.2, h.2⟩
theorem F9y_put {o : Nat} {w w2 : ab_W} (h : F9y G F w) (hG : G o = 32) (oth : ∀ j, j ≠ o → w2[j]? = w[j]?) (hF : F w2) : F9y G F w2 := ⟨⟨FRow_oth h.1.1 hG (by decide) oth, FRow_oth h.1.2.1 hG (by decide) oth, FRow_oth h.1.2.2.1 hG (by decide) oth, FImg_oth h.1.2.2.2 hG (by decide) (by decide) oth⟩, hF⟩
theorem F9y_done {o : Nat} {w : ab_W} {f : Nat → Int32} (h : F9y G F w) (hU : ∀ p p', G p = 32 → G p' = 32 → p = p') (hG : G o = 32) (g : w[o]? = some (.inl (0, 5721, .inl f))) (hK : KP f) : F9 G F w := by
  refine ⟨⟨fun k f' hk hc => ?_, h.1⟩, h.2⟩
  obtain rfl := hU k o hk hG
  rw [g] at hc
  cases hc
  exact hK
end Gr
theorem hx_div {ro : ab_R} {C : Nat → List Value → ab_W → ab_O → Prop} {own : Nat} {ret : Option FieldType} {code : ab_C} {Q : ab_O → Prop} {pc l t : Nat} {L : ab_L} {r : List Value} {w : ab_W} {x y : Int32} (hc : code pc = some (.idiv, t)) (hl : l = pc + 1) (hx : 0 ≤ x.toInt) (hy : 0 < y.toInt) (k : ∀ z : Int32, z.toInt = x.toInt / y.toInt → ab_wp ro C own false ret code Q (l, L, .int z :: r, w, 0, 0)) : ab_wp ro C own false ret code Q (pc, L, .int y :: .int x :: r, w, 0, 0) := by
  subst hl
  have h : ¬ y = 0 := fun z => by rw [z] at hy; exact absurd hy (by decide)
  have bx := ck_i32 x
  have hq0 : 0 ≤ x.toInt / y.toInt := Int.ediv_nonneg hx (by omega)
  have hq1 : x.toInt / y.toInt ≤ x.toInt := Int.ediv_le_self _ hx
  have e1 : (x / y).toInt = x.toInt / y.toInt := by
    rw [Int32.toInt_div, Int.tdiv_eq_ediv_of_nonneg hx, ck_bmod (by omega) (by omega)]
  exact ax_sw (ps := [¬ y = 0]) (x := (L, .int (x / y) :: r, w, 0, 0)) (pc + 1) hc rfl rfl ⟨h, trivial⟩ (k _ e1)
theorem hx_weak {ro : ab_R} {sp : Nat → ty_S} {G : Nat → Nat} {F : ab_W → Prop} {fz : List (Nat × Nat)} {C : Nat → List Value → ab_W → ab_O → Prop} {j : Nat} {ga : List ty_A} {gr : Option ty_A} {P : List Value → ab_W → Prop} {R : List Value → ab_W → Option Value → ab_W → Prop} (h : hx_ct ro sp G F fz C j ga gr P R) (hP : ∀ as w, P as w) : ck_ct ro sp G F fz C j ga gr 0 0 := by
  intro as w hw hf has
  obtain ⟨is, as', wc, v, w1, mc, ms, h1, h2, h3, h4, h5, h6, h7⟩ := h as w hw hf has (hP as w)
  exact ⟨is, as', wc, v, w1, mc, ms, h1, h2, h3, h4, h5, h6, h7.1, h7.2.1, h7.2.2.1, h7.2.2.2.1, h7.2.2.2.2.1, h7.2.2.2.2.2.1, trivial⟩
