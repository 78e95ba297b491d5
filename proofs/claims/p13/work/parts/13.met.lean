/-! every run of the abstract machine is one of the JVM -/
def ab_V (cc : ByteArray) (code : ab_C) : Prop := ∀ (pc : Nat) (i : Instr) (t : Nat), code pc = some (i, t) → ∃ len, decode cc pc = .ok (i, len) ∧ (ab_len i = 0 ∨ ab_len i = len) ∧ ∀ off, ab_off i = some off → (pc : Int) + off = (t : Int)
theorem ab_V_of {cc : ByteArray} {code : ab_C} {N : Nat} (hN : ∀ pc, ¬ pc < N → code pc = none) (h : (List.range N).all (ab_vOk cc code) = true) : ab_V cc code := by
  intro pc i t hc
  by_cases hp : pc < N
  · have h1 := List.all_eq_true.mp h pc (List.mem_range.mpr hp)
    unfold ab_vOk at h1
    rw [hc] at h1
    dsimp only at h1
    split at h1
    · rename_i i' len hd
      simp only [Bool.and_eq_true, decide_eq_true_eq, Bool.or_eq_true] at h1
      obtain ⟨⟨g1, g2⟩, g3⟩ := h1
      subst g1
      refine ⟨len, hd, g2.imp Nat.eq_of_beq_eq_true Nat.eq_of_beq_eq_true, fun off ho => ?_⟩
      rw [ho] at g3
      simpa using g3
    · cases h1
  · rw [hN pc hp] at hc
    cases hc
section AbRun
variable {ro : ab_R} {p : Program} {l : Launch} {e : Env} {R : Room} {s : State} {m : MethodId} {args : Array Value} {below : List Frame} {meth : Method} {c : Code} {own : Nat} {ini : Bool} {cc : ByteArray} {nL : Nat} {D : va_G} {cA : Nat → ClassId} {ad : Nat → Nat} {n0 mcF msF : Nat} {A : Nat → Prop} {Q : State → Prop}
theorem ab_run (K : ab_Ctx ro p R s m args meth c own ini cc nL D cA ad n0 mcF msF A) {d : Nat} (hfr : d + 4 ≤ R.frames) (hlc : 100 * d + 40 ≤ R.locals) {code : ab_C} (hV : ab_V cc code) {C : Nat → List Value → ab_W → ab_O → Prop} (hCl : ∀ j as w o, C j as w o → o.2.1.length = w.length + o.2.2.1) (hCj : ∀ j as w o, C j as w o → j < 240)
    (hCm : ∀ j as w v w1 mc ms, C j as w (v, w1, mc, ms) → w.length + mc < 500000 → ∀ (ad' : Nat → Nat) (hs : Nat), (∀ i, i < mc → ad' (w.length + i) = hs + i) → Met l (ab_y j) (ab_wm j) (ab_rm d mc ms) (ab_Pc ro D cA ad' as w hs) (ab_Qc D cA ad' w hs v w1) mc ms (va_A (ab_rl ad' cA w) hs))
    {ret : Option FieldType} {vF : Option Value} {wF : ab_W} (hret : ∀ (pc : Nat) (i : Instr) (len : Nat) (L : ab_L) (st : List Value) (ps : List Prop), decode cc pc = .ok (i, len) → (ab_len i = 0 ∨ ab_len i = len) → ab_rt ret i st = some (ps, vF) → ab_all ps → ab_WA p l e R s m args below meth c nL D cA ad A Q (pc, L, st, wF, mcF, msF)) :
    ∀ (k pc : Nat) (L : ab_L) (st : List Value) (w : ab_W) (a b : Nat), ab_X ro C own ini ret code (vF, wF, mcF, msF) k (pc, L, st, w, a, b) → L.length = nL → w.length = n0 + a → ab_WA p l e R s m args below meth c nL D cA ad A Q (pc, L, st, w, a, b) := by
  intro k
  induction k with
  | zero => intro pc L st w a b h; exact h.elim
  | succ k ih =>
    intro pc L st w a b h hL hw
    obtain ⟨i, t, hcode, h⟩ := h
    obtain ⟨len, hdg, hlen, htg⟩ := hV pc i t hcode
    rcases h with ⟨ps, ⟨pc', L', st', w', a', b'⟩, h1, h2, h3⟩ | ⟨q, s1, s2, h1, h2⟩ | ⟨ps, v, h1, h2, h3⟩ | ⟨j, as, r, h1, is, as', wc, w1, v, mc, ms, h2, h3, h4, h5, h6, h7⟩
    · obtain ⟨g1, g2, g3, g4⟩ := ab_nx_len h1
      obtain ⟨f1, f2, f3⟩ := ab_X_len hCl _ _ _ _ _ _ _ h3
      intro ls H locs hl hP hS
      exact ab_g_all K i t pc L st w a b ps pc' L' st' w' a' b' len hdg hlen htg h1 h2 hL hw f2 f3 (ih _ _ _ _ _ _ h3 (by omega) (by omega)) ls H locs hl hP hS
    · obtain ⟨⟨g1, g2⟩, ⟨g3, g4⟩⟩ := ab_br_len h1
      refine ab_br_ok K hdg hlen htg h1 ?_
      obtain ⟨pc1, L1, st1, w1, a1, b1⟩ := s1
      obtain ⟨pc2, L2, st2, w2, a2, b2⟩ := s2
      cases g2
      cases g4
      dsimp only at g1 g3
      subst g1
      subst g3
      rcases h2 with ⟨z, h2⟩ | ⟨z, h2⟩
      · exact Or.inl ⟨z, ih _ _ _ _ _ _ h2 hL hw⟩
      · exact Or.inr ⟨z, ih _ _ _ _ _ _ h2 hL hw⟩
    · cases h3
      exact hret pc i len L st ps hdg hlen h1 h2
    · have g := hCl _ _ _ _ h2
      dsimp only at g
      obtain ⟨f1, f2, f3⟩ := ab_X_len hCl _ _ _ _ _ _ _ h7
      dsimp only at f1 f2 f3
      exact ab_call_ok K hfr hlc hdg hlen h1 (hCj _ _ _ _ h2) (hCm _ _ _ _ _ _ _ h2 h6) h3 h4 h5 h6 g hw f2 f3 (ih _ _ _ _ _ _ h7 hL (by rw [ab_put_len]; omega))
/-- a method's own return -/
theorem ab_ret_ok {ret : Option FieldType} (hx : p.tables.exec = Jvm.exec) (hb : c.code = cc) (hr : meth.sig.returnType = ret) (hlocks : meth.locks = false) {w0 wF : ab_W} {vF : Option Value} {pc len a b : Nat} {i : Instr} {L : ab_L} {st : List Value} {ps : List Prop} (hdg : decode cc pc = .ok (i, len)) (hlen : ab_len i = 0 ∨ ab_len i = len) (h : ab_rt ret i st = some (ps, vF)) (hps : ab_all ps) :
    ab_WA p l e R s m args below meth c nL D cA ad (va_A (ab_rl ad cA w0) s.heap.size) (MQ below (ab_Qc D cA ad w0 s.heap.size vF wF) args s a b (va_A (ab_rl ad cA w0) s.heap.size)) (pc, L, st, wF, a, b) := by
  intro ls H locs hl hP hS
  unfold ab_rt at h
  split at h
  · cases h
    have hlen := hlen.resolve_left (by simp [ab_len])
    simp only [ab_len] at hlen
    subst hlen
    exact W.iret hx hb hr (fun t ht hW => ⟨rfl, by rw [ht]; exact hP, hS.F ht⟩) hS.2.2 hdg
  · cases h
    have hlen := hlen.resolve_left (by simp [ab_len])
    simp only [ab_len] at hlen
    subst hlen
    refine W.zret hx hb hr ?_ (fun t ht hW => ⟨rfl, by rw [ht]; exact hP, hS.F ht⟩) hS.2.2 hdg
    rcases hps.1 with z | z
    · subst z; decide
    · subst z; decide
  · cases h
    have hlen := hlen.resolve_left (by simp [ab_len])
    simp only [ab_len] at hlen
    subst hlen
    exact W.lret hx hb hr (fun t ht hW => ⟨rfl, by rw [ht]; exact hP, hS.F ht⟩) hS.2.2 hdg
  · cases h
    have hlen := hlen.resolve_left (by simp [ab_len])
    simp only [ab_len] at hlen
    subst hlen
    exact W.aret hx hb hr (Or.inl ⟨_, rfl⟩) (Or.inr ⟨_, rfl⟩) (fun t ht hW => ⟨rfl, by rw [ht]; exact hP, hS.F ht⟩) hS.2.2 hdg
  · cases h
    have hlen := hlen.resolve_left (by simp [ab_len])
    simp only [ab_len] at hlen
    subst hlen
    exact W.aret hx hb hr (Or.inl ⟨_, rfl⟩) (Or.inl rfl) (fun t ht hW => ⟨rfl, by rw [ht]; exact hP, hS.F ht⟩) hS.2.2 hdg
  · cases h
    have hlen := hlen.resolve_left (by simp [ab_len])
    simp only [ab_len] at hlen
    subst hlen
    exact W.vret hx hb hr (fun t ht hW => ⟨rfl, by rw [ht]; exact hP, hS.F ht⟩) hS.2.2 hdg
  · cases h
end AbRun
theorem ab_en_len (as : List Value) (ad : Nat → Nat) : (lg_sl (as.map (ab_rv ad))).length = (as.flatMap ab_e1).length := by
  induction as with
  | nil => rfl
  | cons v vs ih =>
    rw [List.map_cons, List.flatMap_cons, List.length_append, ← ih]
    cases v <;> simp [lg_sl, ab_rv, ab_e1, Value.category] <;> omega
theorem ab_en_args (ad : Nat → Nat) : ∀ (as : List Value) (i0 k : Nat) (v : Value), (as.flatMap ab_e1)[k]? = some (some v) → (i0 + k, ab_rv ad v) ∈ lv_args i0 (as.map (ab_rv ad)) := by
  intro as
  induction as with
  | nil => intro i0 k v h; cases h
  | cons x xs ih =>
    intro i0 k v h
    rw [List.flatMap_cons] at h
    rw [List.map_cons]
    unfold lv_args
    have two : ∀ (hx : ab_e1 x = [some x, none]) (hc : (ab_rv ad x).category = 2), (i0 + k, ab_rv ad v) ∈ (i0, ab_rv ad x) :: lv_args (if (ab_rv ad x).category = 2 then i0 + 2 else i0 + 1) (xs.map (ab_rv ad)) := by
      intro hx hc
      rw [hx] at h
      rw [if_pos hc]
      match k, h with
      | 0, h =>
        simp only [List.cons_append, List.getElem?_cons_zero, Option.some.injEq] at h
        subst h
        exact List.mem_cons_self
      | 1, h => simp at h
      | k + 2, h =>
        have h' : (xs.flatMap ab_e1)[k]? = some (some v) := h
        have := ih (i0 + 2) k v h'
        rw [show i0 + (k + 2) = i0 + 2 + k by omega]
        exact List.mem_cons_of_mem _ this
    have one : ∀ (hx : ab_e1 x = [some x]) (hc : ¬ (ab_rv ad x).category = 2), (i0 + k, ab_rv ad v) ∈ (i0, ab_rv ad x) :: lv_args (if (ab_rv ad x).category = 2 then i0 + 2 else i0 + 1) (xs.map (ab_rv ad)) := by
      intro hx hc
      rw [hx] at h
      rw [if_neg hc]
      match k, h with
      | 0, h =>
        simp only [List.cons_append, List.getElem?_cons_zero, Option.some.injEq] at h
        subst h
        exact List.mem_cons_self
      | k + 1, h =>
        have h' : (xs.flatMap ab_e1)[k]? = some (some v) := h
        have := ih (i0 + 1) k v h'
        rw [show i0 + (k + 1) = i0 + 1 + k by omega]
        exact List.mem_cons_of_mem _ this
    cases x with
    | long y => exact two rfl rfl
    | double y => exact two rfl rfl
    | int y => exact one rfl (by simp [ab_rv, Value.category])
    | float y => exact one rfl (by simp [ab_rv, Value.category])
    | ref y => exact one rfl (by simp [ab_rv, Value.category])
    | null => exact one rfl (by simp [ab_rv, Value.category])
    | retAddr y => exact one rfl (by simp [ab_rv, Value.category])
theorem ab_en_fl (ad : Nat → Nat) {n : Nat} {as : List Value} : ∀ q ∈ ab_fl ad (ab_en n as), q ∈ lv_args 0 (as.map (ab_rv ad)) := by
  intro q hq
  obtain ⟨v, h1, h2⟩ := ab_fl_mem.mp hq
  unfold ab_en at h1
  by_cases hk : q.1 < (as.flatMap ab_e1).length
  · rw [List.getElem?_append_left hk] at h1
    have := ab_en_args ad as 0 q.1 v h1
    rw [Nat.zero_add, ← h2] at this
    exact this
  · rw [List.getElem?_append_right (by omega)] at h1
    have := List.eq_of_mem_replicate (List.mem_of_getElem? h1)
    cases this
theorem ab_met {ro : ab_R} {codes : Nat → ab_C} (l : Launch) (D : va_G) (cA : Nat → ClassId) (hV : ∀ j, j < 240 → ab_V (ab_b j) (codes j)) : ∀ (d j : Nat) (as : List Value) (w : ab_W) (v : Option Value) (w1 : ab_W) (mc ms : Nat), ab_Ev ro codes d j as w (v, w1, mc, ms) → w.length + mc < 500000 → ∀ (ad : Nat → Nat) (hs : Nat), (∀ i, i < mc → ad (w.length + i) = hs + i) →
    Met l (ab_y j) (ab_wm j) (ab_rm d mc ms) (ab_Pc ro D cA ad as w hs) (ab_Qc D cA ad w hs v w1) mc ms (va_A (ab_rl ad cA w) hs) := by
  intro d
  induction d with
  | zero => intro j as w v w1 mc ms h; exact h.elim
  | succ d ih =>
    intro j as w v w1 mc ms h hbig ad hs hnew
    obtain ⟨hj, hen, k, hX⟩ := h
    obtain ⟨jc, ji, jst, jin, jcl, jow, jm1, jm2, jpd, jpl, jnl⟩ := ab_j_get hj
    refine Met.ofW (cc := ab_b j) (maxL := ab_nL j) (ret := ab_ret j) jpl rfl ?_
    intro p e s m args below meth c s₁ B hml hv
    obtain ⟨rfl, hsz, hP, hD, hK⟩ := hv
    have hx := B.exec
    have hb := B.bytes
    have hr := B.returns
    have hts0 := atoms_spec (ws := ab_wm j) B.pre
    have hown : s.vm.findClass (ab_y j).cls = some m.cls := findClass_of_methodNamed B.named
    have hlocks := B.notSynchronized
    have hin : meth.name = (ab_y j).name := (name_of_methodNamed B.named B.method).1
    subst hsz
    have old : ∀ k, k < w.length → ad k < s.heap.size := fun k hk => (hP k _ (ab_rl_at (List.getElem?_eq_getElem hk))).lt
    have K : ab_Ctx ro p (ab_rm (d + 1) mc ms) s m ((as.map (ab_rv ad)).toArray) meth c (ab_ow j) (ab_ini j) (ab_b j) (ab_nL j) D cA ad w.length mc ms (va_A (ab_rl ad cA w) s.heap.size) := by
      refine ⟨hx, hb, hml, by rw [← jcl]; exact hown, fun w h => hts0 w (List.mem_cons_of_mem _ h), fun hi => by rw [hin]; simpa [ab_ini] using hi, hK, fun k k' h1 h2 e1 => ?_, fun k hk => ?_, hnew, fun q hq => Or.inr hq, ⟨Nat.le_refl _, Nat.le_refl _, by show 4 ≤ d + 1 + 3; omega, by show 100 ≤ 100 * (d + 1); omega⟩, hbig⟩
      · by_cases l1 : k < w.length
        · by_cases l2 : k' < w.length
          · exact hD.1 k k' _ _ (ab_rl_at (List.getElem?_eq_getElem l1)) (ab_rl_at (List.getElem?_eq_getElem l2)) e1
          · have z1 := old k l1
            have z2 := hnew (k' - w.length) (by omega)
            rw [show w.length + (k' - w.length) = k' by omega] at z2
            omega
        · by_cases l2 : k' < w.length
          · have z1 := old k' l2
            have z2 := hnew (k - w.length) (by omega)
            rw [show w.length + (k - w.length) = k by omega] at z2
            omega
          · have z1 := hnew (k - w.length) (by omega)
            have z2 := hnew (k' - w.length) (by omega)
            rw [show w.length + (k - w.length) = k by omega] at z1
            rw [show w.length + (k' - w.length) = k' by omega] at z2
            omega
      · by_cases l1 : k < w.length
        · exact Or.inl ⟨k, _, ab_rl_at (List.getElem?_eq_getElem l1)⟩
        · have z1 := hnew (k - w.length) (by omega)
          rw [show w.length + (k - w.length) = k by omega] at z1
          exact Or.inr (by omega)
    have hlf : (lg_sl (as.map (ab_rv ad))).length ≤ ab_nL j := by
      rw [ab_en_len]
      unfold ab_en at hen
      rw [List.length_append] at hen
      omega
    have hl := lv_entry (as.map (ab_rv ad)) (n := ab_nL j) hlf
    rw [lg_entry_eq]
    generalize (lg_sl (as.map (ab_rv ad)) ++ List.replicate (ab_nL j - (lg_sl (as.map (ab_rv ad))).length) Slot.unset).toArray = ls at hl ⊢
    exact ab_run K (R := ab_rm (d + 1) mc ms) (d := d) (Nat.le_refl _) (by show 100 * d + 40 ≤ 100 * (d + 1); omega) (hV j hj) (fun j as w o h => ab_Ev_len _ _ _ _ _ h) (fun j as w o h => by cases d with
        | zero => exact h.elim
        | succ d => exact h.1) (fun j as w v w1 mc ms h hb ad' hs hn => ih j as w v w1 mc ms h hb ad' hs hn)
      (fun pc i len L st ps hdg hlen h hps => ab_ret_ok hx hb hr hlocks hdg hlen h hps) k 0 (ab_en (ab_nL j) as) [] w 0 0 hX hen rfl ls s.heap [] (ab_lv_weak hl (ab_en_fl ad)) hP va_S.rf
