section AbComb
variable {ro : ab_R} {p : Program} {l : Launch} {e : Env} {R : Room} {s : State} {m : MethodId} {args : Array Value} {below : List Frame} {meth : Method} {c : Code} {own : Nat} {ini : Bool} {cc : ByteArray} {nL : Nat} {D : va_G} {cA : Nat → ClassId} {ad : Nat → Nat} {n0 mcF msF : Nat} {A : Nat → Prop} {Q : State → Prop}
theorem ab_g_all (K : ab_Ctx ro p R s m args meth c own ini cc nL D cA ad n0 mcF msF A) : ∀ i : Instr, ab_G ro p l e R s m args below meth c own ini cc nL D cA ad n0 mcF msF A Q i := by
  intro i
  cases i with
  | iconst n => exact ab_g_iconst n K
  | bipush n => exact ab_g_bipush n K
  | sipush n => exact ab_g_sipush n K
  | lconst n => exact ab_g_lconst n K
  | aconst_null => exact ab_g_aconst_null K
  | iload k => exact ab_g_iload k K
  | iload_n k => exact ab_g_iload_n k K
  | lload k => exact ab_g_lload k K
  | lload_n k => exact ab_g_lload_n k K
  | aload k => exact ab_g_aload k K
  | aload_n k => exact ab_g_aload_n k K
  | istore k => exact ab_g_istore k K
  | istore_n k => exact ab_g_istore_n k K
  | lstore k => exact ab_g_lstore k K
  | lstore_n k => exact ab_g_lstore_n k K
  | astore k => exact ab_g_astore k K
  | astore_n k => exact ab_g_astore_n k K
  | iinc k n => exact ab_g_iinc k n K
  | dup => exact ab_g_dup K
  | dup2 => exact ab_g_dup2 K
  | pop2 => exact ab_g_pop2 K
  | pop => exact ab_g_pop K
  | iadd => exact ab_g_iadd K
  | isub => exact ab_g_isub K
  | imul => exact ab_g_imul K
  | iand => exact ab_g_iand K
  | ior => exact ab_g_ior K
  | ixor => exact ab_g_ixor K
  | ishl => exact ab_g_ishl K
  | ishr => exact ab_g_ishr K
  | ineg => exact ab_g_ineg K
  | ladd => exact ab_g_ladd K
  | lsub => exact ab_g_lsub K
  | lmul => exact ab_g_lmul K
  | iushr => exact ab_g_iushr K
  | i2l => exact ab_g_i2l K
  | l2i => exact ab_g_l2i K
  | i2b => exact ab_g_i2b K
  | i2c => exact ab_g_i2c K
  | idiv => exact ab_g_idiv K
  | irem => exact ab_g_irem K
  | ldiv => exact ab_g_ldiv K
  | lrem => exact ab_g_lrem K
  | lcmp => exact ab_g_lcmp K
  | goto f => exact ab_g_goto f K
  | tableswitch d lo hi offs => exact ab_g_tableswitch d lo hi offs K
  | lookupswitch d pz => exact ab_g_lookupswitch d pz K
  | ldc ix => exact ab_g_ldc ix K
  | ldc_w ix => exact ab_g_ldc_w ix K
  | ldc2_w ix => exact ab_g_ldc2_w ix K
  | getfield ix => exact ab_g_getfield ix K
  | putfield ix => exact ab_g_putfield ix K
  | iaload => exact ab_g_iaload K
  | baload => exact ab_g_baload K
  | laload => exact ab_g_laload K
  | aaload => exact ab_g_aaload K
  | iastore => exact ab_g_iastore K
  | bastore => exact ab_g_bastore K
  | lastore => exact ab_g_lastore K
  | aastore => exact ab_g_aastore K
  | arraylength => exact ab_g_arraylength K
  | getstatic ix => exact ab_g_getstatic ix K
  | new ix => exact ab_g_new ix K
  | newarray t => exact ab_g_newarray t K
  | anewarray ix => exact ab_g_anewarray ix K
  | invokestatic ix => exact ab_g_invokestatic ix K
  | invokespecial ix => exact ab_g_invokespecial ix K
  | invokevirtual ix => exact ab_g_invokevirtual ix K
  | _ =>
    intro tgt pc L st w a b ps pc' L' st' w' a' b' len hdg hlen htg h
    simp only [ab_nx] at h
    cases h
/-- the machine goes through from a state of the abstract machine -/
def ab_WA (p : Program) (l : Launch) (e : Env) (R : Room) (s : State) (m : MethodId) (args : Array Value) (below : List Frame) (meth : Method) (c : Code) (nL : Nat) (D : va_G) (cA : Nat → ClassId) (ad : Nat → Nat) (A : Nat → Prop) (Q : State → Prop) (x : ab_S) : Prop :=
  ∀ (ls : Array Slot) (H : Heap) (locs : List Loc), lv_has ls nL (ab_fl ad x.2.1) → va_P D vwCl (ab_rl ad cA x.2.2.2.1) H → va_S A s.heap H locs → W p l e R s m args below meth c H locs x.2.2.2.2.1 x.2.2.2.2.2 Q (F0 m x.1 ls (x.2.2.1.map (ab_rv ad)))
theorem ab_br_ok (K : ab_Ctx ro p R s m args meth c own ini cc nL D cA ad n0 mcF msF A) {i : Instr} {tgt pc len a b : Nat} {L : ab_L} {st : List Value} {w : ab_W} {d : Prop} {s1 s2 : ab_S} (hdg : decode cc pc = .ok (i, len)) (hlen : ab_len i = 0 ∨ ab_len i = len) (htg : ∀ off, ab_off i = some off → (pc : Int) + off = (tgt : Int))
    (h : ab_br i tgt pc L st w a b = some (d, s1, s2)) (hc : (d ∧ ab_WA p l e R s m args below meth c nL D cA ad A Q s1) ∨ (¬ d ∧ ab_WA p l e R s m args below meth c nL D cA ad A Q s2)) : ab_WA p l e R s m args below meth c nL D cA ad A Q (pc, L, st, w, a, b) := by
  intro ls H locs hl hP hS
  obtain ⟨hx, hbc, hml, hown, hts, hini, hK, hinj, hAd, hnew, hA, hR, hbig⟩ := K
  cases i with
  | ifCond cnd off =>
    have hlen := hlen.resolve_left (by simp [ab_len])
    simp only [ab_len] at hlen
    subst hlen
    cases cnd with
    | eq =>
      simp only [ab_br] at h
      split at h
      · cases h
        exact lv_if_eq hx hbc hdg (htg off rfl) (fun z => hc.elim (fun q => q.2 ls H locs hl hP hS) (fun q => absurd z q.1)) (fun z => hc.elim (fun q => absurd q.1 z) (fun q => q.2 ls H locs hl hP hS))
      · cases h
    | ne =>
      simp only [ab_br] at h
      split at h
      · cases h
        exact lv_if_ne hx hbc hdg (htg off rfl) (fun z => hc.elim (fun q => q.2 ls H locs hl hP hS) (fun q => absurd z q.1)) (fun z => hc.elim (fun q => absurd z q.1) (fun q => q.2 ls H locs hl hP hS))
      · cases h
    | lt =>
      simp only [ab_br] at h
      split at h
      · cases h
        exact lv_if_lt hx hbc hdg (htg off rfl) (fun z => hc.elim (fun q => q.2 ls H locs hl hP hS) (fun q => absurd z q.1)) (fun z => hc.elim (fun q => absurd q.1 z) (fun q => q.2 ls H locs hl hP hS))
      · cases h
    | ge =>
      simp only [ab_br] at h
      split at h
      · cases h
        exact lv_if_ge hx hbc hdg (htg off rfl) (fun z => hc.elim (fun q => q.2 ls H locs hl hP hS) (fun q => absurd z q.1)) (fun z => hc.elim (fun q => absurd q.1 z) (fun q => q.2 ls H locs hl hP hS))
      · cases h
    | gt =>
      simp only [ab_br] at h
      split at h
      · cases h
        exact lv_if_gt hx hbc hdg (htg off rfl) (fun z => hc.elim (fun q => q.2 ls H locs hl hP hS) (fun q => absurd z q.1)) (fun z => hc.elim (fun q => absurd q.1 z) (fun q => q.2 ls H locs hl hP hS))
      · cases h
    | le =>
      simp only [ab_br] at h
      split at h
      · cases h
        exact lv_if_le hx hbc hdg (htg off rfl) (fun z => hc.elim (fun q => q.2 ls H locs hl hP hS) (fun q => absurd z q.1)) (fun z => hc.elim (fun q => absurd q.1 z) (fun q => q.2 ls H locs hl hP hS))
      · cases h
  | if_icmp cnd off =>
    have hlen := hlen.resolve_left (by simp [ab_len])
    simp only [ab_len] at hlen
    subst hlen
    cases cnd with
    | eq =>
      simp only [ab_br] at h
      split at h
      · cases h
        exact lv_icmp_eq hx hbc hdg (htg off rfl) (fun z => hc.elim (fun q => q.2 ls H locs hl hP hS) (fun q => absurd z q.1)) (fun z => hc.elim (fun q => absurd q.1 z) (fun q => q.2 ls H locs hl hP hS))
      · cases h
    | ne =>
      simp only [ab_br] at h
      split at h
      · cases h
        exact lv_icmp_ne hx hbc hdg (htg off rfl) (fun z => hc.elim (fun q => q.2 ls H locs hl hP hS) (fun q => absurd z q.1)) (fun z => hc.elim (fun q => absurd z q.1) (fun q => q.2 ls H locs hl hP hS))
      · cases h
    | lt =>
      simp only [ab_br] at h
      split at h
      · cases h
        exact lv_icmp_lt hx hbc hdg (htg off rfl) (fun z => hc.elim (fun q => q.2 ls H locs hl hP hS) (fun q => absurd z q.1)) (fun z => hc.elim (fun q => absurd q.1 z) (fun q => q.2 ls H locs hl hP hS))
      · cases h
    | ge =>
      simp only [ab_br] at h
      split at h
      · cases h
        exact lv_icmp_ge hx hbc hdg (htg off rfl) (fun z => hc.elim (fun q => q.2 ls H locs hl hP hS) (fun q => absurd z q.1)) (fun z => hc.elim (fun q => absurd q.1 z) (fun q => q.2 ls H locs hl hP hS))
      · cases h
    | gt =>
      simp only [ab_br] at h
      split at h
      · cases h
        exact lv_icmp_gt hx hbc hdg (htg off rfl) (fun z => hc.elim (fun q => q.2 ls H locs hl hP hS) (fun q => absurd z q.1)) (fun z => hc.elim (fun q => absurd q.1 z) (fun q => q.2 ls H locs hl hP hS))
      · cases h
    | le =>
      simp only [ab_br] at h
      split at h
      · cases h
        exact lv_icmp_le hx hbc hdg (htg off rfl) (fun z => hc.elim (fun q => q.2 ls H locs hl hP hS) (fun q => absurd z q.1)) (fun z => hc.elim (fun q => absurd q.1 z) (fun q => q.2 ls H locs hl hP hS))
      · cases h
  | ifnull off =>
    have hlen := hlen.resolve_left (by simp [ab_len])
    simp only [ab_len] at hlen
    subst hlen
    simp only [ab_br] at h
    split at h
    · cases h
      exact lv_ifnull hx hbc hdg (hc.elim (fun q => q.1.elim) (fun q => q.2 ls H locs hl hP hS))
    · cases h
      exact lv_ifnullN hx hbc hdg (htg off rfl) (hc.elim (fun q => q.2 ls H locs hl hP hS) (fun q => absurd trivial q.1))
    · cases h
  | ifnonnull off =>
    have hlen := hlen.resolve_left (by simp [ab_len])
    simp only [ab_len] at hlen
    subst hlen
    simp only [ab_br] at h
    split at h
    · cases h
      exact lv_ifnonnull hx hbc hdg (htg off rfl) (hc.elim (fun q => q.2 ls H locs hl hP hS) (fun q => absurd trivial q.1))
    · cases h
      exact lv_ifnonnullN hx hbc hdg (hc.elim (fun q => q.1.elim) (fun q => q.2 ls H locs hl hP hS))
    · cases h
  | _ =>
    simp only [ab_br] at h
    cases h
end AbComb
theorem ab_nx_len {ro : ab_R} {own : Nat} {ini : Bool} {i : Instr} {tgt pc a b pc' a' b' : Nat} {L L' : ab_L} {st st' : List Value} {w w' : ab_W} {ps : List Prop} (h : ab_nx ro own ini i tgt pc L st w a b = some (ps, pc', L', st', w', a', b')) : L'.length = L.length ∧ w'.length + a = w.length + a' ∧ a ≤ a' ∧ b ≤ b' := by
  cases i <;> simp only [ab_nx, Bool.cond_eq_ite] at h <;> (repeat' split at h) <;> first
    | (cases h; done)
    | (cases h; refine ⟨?_, ?_, ?_, ?_⟩ <;> first | rfl | (exact ab_st1_len _ _ _) | (exact ab_st2_len _ _ _) | (simp only [List.length_set]; done) | (simp only [List.length_append, List.length_cons, List.length_nil]; omega) | omega)
theorem ab_br_len {i : Instr} {tgt pc a b : Nat} {L : ab_L} {st : List Value} {w : ab_W} {d : Prop} {s1 s2 : ab_S} (h : ab_br i tgt pc L st w a b = some (d, s1, s2)) : (s1.2.1 = L ∧ s1.2.2.2 = (w, a, b)) ∧ (s2.2.1 = L ∧ s2.2.2.2 = (w, a, b)) := by
  unfold ab_br at h
  split at h <;> (try split at h) <;> first | (cases h; done) | (cases h; exact ⟨⟨rfl, rfl⟩, ⟨rfl, rfl⟩⟩)
theorem ab_mi_get {α β : Type} (f : Nat → α → β) : ∀ (l : List α) (k i : Nat), (ab_mi f k l)[i]? = (l[i]?).map (f (k + i))
  | [], _, _ => rfl
  | x :: t, k, 0 => rfl
  | x :: t, k, i + 1 => by
    have := ab_mi_get f t (k + 1) i
    rw [show k + (i + 1) = k + 1 + i by omega]
    exact this
theorem ab_mi_len {α β : Type} (f : Nat → α → β) : ∀ (l : List α) (k : Nat), (ab_mi f k l).length = l.length
  | [], _ => rfl
  | x :: t, k => by
    show (ab_mi f (k + 1) t).length + 1 = t.length + 1
    rw [ab_mi_len f t (k + 1)]
theorem ab_put_len (is : List Nat) (n : Nat) (w w1 : ab_W) (p : Nat → Nat) : (ab_put is n w w1 p).length = w.length + (w1.length - n) := by
  unfold ab_put
  rw [List.length_append, ab_mi_len, List.length_map, List.length_drop]
theorem ab_X_len {ro : ab_R} {C : Nat → List Value → ab_W → ab_O → Prop} (hC : ∀ j as w o, C j as w o → o.2.1.length = w.length + o.2.2.1) {own : Nat} {ini : Bool} {ret : Option FieldType} {code : ab_C} {o : ab_O} : ∀ (k pc : Nat) (L : ab_L) (st : List Value) (w : ab_W) (a b : Nat), ab_X ro C own ini ret code o k (pc, L, st, w, a, b) → o.2.1.length + a = w.length + o.2.2.1 ∧ a ≤ o.2.2.1 ∧ b ≤ o.2.2.2 := by
  intro k
  induction k with
  | zero => intro pc L st w a b h; exact h.elim
  | succ k ih =>
    intro pc L st w a b h
    obtain ⟨i, t, hcode, h⟩ := h
    rcases h with ⟨ps, ⟨pc', L', st', w', a', b'⟩, h1, h2, h3⟩ | ⟨d, s1, s2, h1, h2⟩ | ⟨ps, v, h1, h2, h3⟩ | ⟨j, as, r, h1, is, as', wc, w1, v, mc, ms, h2, h3, h4, h5, h6, h7⟩
    · obtain ⟨g1, g2, g3, g4⟩ := ab_nx_len h1
      obtain ⟨f1, f2, f3⟩ := ih _ _ _ _ _ _ h3
      exact ⟨by omega, by omega, by omega⟩
    · obtain ⟨⟨pc1, L1, st1, x1⟩, ⟨pc2, L2, st2, x2⟩⟩ := (⟨s1, s2⟩ : ab_S × ab_S)
      obtain ⟨⟨-, g1⟩, ⟨-, g2⟩⟩ := ab_br_len h1
      rcases h2 with ⟨-, h2⟩ | ⟨-, h2⟩
      · obtain ⟨pc1, L1, st1, x1⟩ := s1
        dsimp only at g1
        subst g1
        exact ih _ _ _ _ _ _ h2
      · obtain ⟨pc1, L1, st1, x1⟩ := s2
        dsimp only at g2
        subst g2
        exact ih _ _ _ _ _ _ h2
    · subst h3
      exact ⟨rfl, Nat.le_refl _, Nat.le_refl _⟩
    · have g := hC _ _ _ _ h2
      dsimp only at g
      obtain ⟨f1, f2, f3⟩ := ih _ _ _ _ _ _ h7
      rw [ab_put_len] at f1
      exact ⟨by omega, by omega, by omega⟩
/-- the locals with which a method begins -/
def ab_e1 (v : Value) : ab_L := match v with
  | .long _ => [some v, none]
  | .double _ => [some v, none]
  | _ => [some v]
def ab_en (n : Nat) (as : List Value) : ab_L := as.flatMap ab_e1 ++ List.replicate (n - (as.flatMap ab_e1).length) none
def ab_Ev (ro : ab_R) (codes : Nat → ab_C) : Nat → Nat → List Value → ab_W → ab_O → Prop
  | 0, _, _, _, _ => False
  | d + 1, j, as, w, o => j < 240 ∧ (ab_en (ab_nL j) as).length = ab_nL j ∧ ∃ k, ab_X ro (ab_Ev ro codes d) (ab_ow j) (ab_ini j) (ab_ret j) (codes j) o k (0, ab_en (ab_nL j) as, [], w, 0, 0)
theorem ab_Ev_len {ro : ab_R} {codes : Nat → ab_C} : ∀ (d j : Nat) (as : List Value) (w : ab_W) (o : ab_O), ab_Ev ro codes d j as w o → o.2.1.length = w.length + o.2.2.1 := by
  intro d
  induction d with
  | zero => intro j as w o h; exact h.elim
  | succ d ih =>
    intro j as w o h
    obtain ⟨-, -, k, h⟩ := h
    have := (ab_X_len (fun j as w o h => ih j as w o h) _ _ _ _ _ _ _ h).1
    omega
