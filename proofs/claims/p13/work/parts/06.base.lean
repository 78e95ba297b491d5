/-! renaming: how worlds, locals and stacks of the abstract machine stand in the heap -/
theorem ab_rl_get (ad : Nat → Nat) (cA : Nat → ClassId) (w : ab_W) (k : Nat) : (ab_rl ad cA w)[k]? = (w[k]?).map (fun e => (ad k, ab_re ad cA e)) := by
  unfold ab_rl
  rw [List.getElem?_mapIdx]
theorem ab_rl_at {ad : Nat → Nat} {cA : Nat → ClassId} {w : ab_W} {k : Nat} {e : va_E} (h : w[k]? = some e) : (ab_rl ad cA w)[k]? = some (ad k, ab_re ad cA e) := by rw [ab_rl_get, h]; rfl
theorem ab_rl_len (ad : Nat → Nat) (cA : Nat → ClassId) (w : ab_W) : (ab_rl ad cA w).length = w.length := by unfold ab_rl; exact List.length_mapIdx
theorem ab_rl_set (ad : Nat → Nat) (cA : Nat → ClassId) (w : ab_W) (k : Nat) (e : va_E) : ab_rl ad cA (w.set k e) = (ab_rl ad cA w).set k (ad k, ab_re ad cA e) := by
  apply List.ext_getElem?
  intro j
  rw [ab_rl_get, List.getElem?_set, List.getElem?_set, ab_rl_get, ab_rl_len]
  by_cases hj : k = j
  · subst hj
    by_cases hk : k < w.length
    · simp [hk]
    · simp [hk]
  · simp [hj]
theorem ab_rl_app (ad : Nat → Nat) (cA : Nat → ClassId) (w : ab_W) (e : va_E) : ab_rl ad cA (w ++ [e]) = ab_rl ad cA w ++ [(ad w.length, ab_re ad cA e)] := by
  unfold ab_rl
  rw [List.mapIdx_append]
  simp
def ab_fl (ad : Nat → Nat) (L : ab_L) : List (Nat × Value) := L.zipIdx.filterMap (fun q => q.1.map (fun v => (q.2, ab_rv ad v)))
theorem ab_fl_mem {ad : Nat → Nat} {L : ab_L} {q : Nat × Value} : q ∈ ab_fl ad L ↔ ∃ v, L[q.1]? = some (some v) ∧ q.2 = ab_rv ad v := by
  unfold ab_fl
  rw [List.mem_filterMap]
  constructor
  · rintro ⟨⟨o, i⟩, h1, h2⟩
    rw [List.mem_zipIdx_iff_getElem?] at h1
    cases o with
    | none => cases h2
    | some v =>
      simp only [Option.map_some, Option.some.injEq] at h2
      subst h2
      exact ⟨v, h1, rfl⟩
  · rintro ⟨v, h1, h2⟩
    exact ⟨(some v, q.1), List.mem_zipIdx_iff_getElem?.mpr h1, by simp [← h2]⟩
theorem ab_lv_weak {ls : Array Slot} {n : Nat} {l l' : List (Nat × Value)} (h : lv_has ls n l) (hs : ∀ q ∈ l', q ∈ l) : lv_has ls n l' := ⟨h.1, h.2.1, fun q hq => h.2.2 q (hs q hq)⟩
theorem ab_ld_get {L : ab_L} {k : Nat} {v : Value} (h : ab_ld L k = some v) : L[k]? = some (some v) := by
  unfold ab_ld at h
  split at h
  · cases h; assumption
  · cases h
theorem ab_fl_ld {ls : Array Slot} {n : Nat} {ad : Nat → Nat} {L : ab_L} {k : Nat} {v : Value} (hl : lv_has ls n (ab_fl ad L)) (h : ab_ld L k = some v) : ls[k]? = some (.val (ab_rv ad v)) := hl.2.2 (k, ab_rv ad v) (ab_fl_mem.mpr ⟨v, ab_ld_get h, rfl⟩)
theorem ab_rv_cat (ad : Nat → Nat) (v : Value) : (ab_rv ad v).category = v.category := by cases v <;> rfl
theorem ab_kill_get {L : ab_L} {k i : Nat} {v : Value} (h : (ab_kill L k)[i]? = some (some v)) : L[i]? = some (some v) ∧ ¬ (i + 1 = k ∧ v.category = 2) := by
  cases k with
  | zero => exact ⟨h, fun q => by omega⟩
  | succ j =>
    unfold ab_kill at h
    have key : ∀ u : Value, (L.set j none)[i]? = some (some v) → L[i]? = some (some v) ∧ ¬ (i + 1 = j + 1 ∧ v.category = 2) := by
      intro u h
      rw [List.getElem?_set] at h
      by_cases hj : j = i
      · subst hj
        by_cases hk : j < L.length
        · simp [hk] at h
        · simp [hk] at h
      · rw [if_neg hj] at h
        exact ⟨h, fun q => hj (by omega)⟩
    dsimp only at h
    split at h
    · exact key .null h
    · exact key .null h
    · rename_i hn1 hn2
      refine ⟨h, fun q => ?_⟩
      have hj : j = i := by omega
      subst hj
      cases v with
      | long x => exact hn1 x h
      | double x => exact hn2 x h
      | _ => simp [Value.category] at q
theorem ab_kill_len (L : ab_L) (k : Nat) : (ab_kill L k).length = L.length := by
  cases k with
  | zero => rfl
  | succ j =>
    unfold ab_kill
    dsimp only
    split <;> simp
theorem ab_st1_len (L : ab_L) (k : Nat) (v : Value) : (ab_st1 L k v).length = L.length := by unfold ab_st1; rw [List.length_set, ab_kill_len]
theorem ab_st2_len (L : ab_L) (k : Nat) (v : Value) : (ab_st2 L k v).length = L.length := by unfold ab_st2; rw [List.length_set, List.length_set, ab_kill_len]
theorem ab_fl_st1 {ls : Array Slot} {n k : Nat} {ad : Nat → Nat} {L : ab_L} {v : Value} (h : lv_has ls n ((k, ab_rv ad v) :: (ab_fl ad L).filter (fun q => !(q.1 == k) && !(q.1 + 1 == k && q.2.category == 2)))) : lv_has ls n (ab_fl ad (ab_st1 L k v)) := by
  refine ab_lv_weak h fun q hq => ?_
  obtain ⟨u, h1, h2⟩ := ab_fl_mem.mp hq
  unfold ab_st1 at h1
  rw [List.getElem?_set] at h1
  by_cases hk : k = q.1
  · rw [if_pos hk] at h1
    split at h1
    · simp only [Option.some.injEq] at h1
      subst h1
      exact List.mem_cons.mpr (Or.inl (Prod.ext hk.symm h2))
    · cases h1
  · rw [if_neg hk] at h1
    obtain ⟨g1, g2⟩ := ab_kill_get h1
    refine List.mem_cons.mpr (Or.inr (List.mem_filter.mpr ⟨ab_fl_mem.mpr ⟨u, g1, h2⟩, ?_⟩))
    have e : q.2.category = u.category := by rw [h2, ab_rv_cat]
    rw [e]
    have n1 : ¬ q.1 = k := fun z => hk z.symm
    simp only [Bool.and_eq_true, Bool.not_eq_true', beq_eq_false_iff_ne, ne_eq, n1, not_false_eq_true, true_and, Bool.and_eq_false_iff]
    by_cases z : q.1 + 1 = k
    · right
      exact fun y => g2 ⟨z, y⟩
    · left
      exact z
theorem ab_fl_st2 {ls : Array Slot} {n k : Nat} {ad : Nat → Nat} {L : ab_L} {v : Value} (h : lv_has ls n ((k, ab_rv ad v) :: (ab_fl ad L).filter (fun q => !(q.1 == k) && (!(q.1 == k + 1) && !(q.1 + 1 == k && q.2.category == 2))))) : lv_has ls n (ab_fl ad (ab_st2 L k v)) := by
  refine ab_lv_weak h fun q hq => ?_
  obtain ⟨u, h1, h2⟩ := ab_fl_mem.mp hq
  unfold ab_st2 at h1
  rw [List.getElem?_set] at h1
  by_cases hk : k = q.1
  · rw [if_pos hk] at h1
    split at h1
    · simp only [Option.some.injEq] at h1
      subst h1
      exact List.mem_cons.mpr (Or.inl (Prod.ext hk.symm h2))
    · cases h1
  · rw [if_neg hk, List.getElem?_set] at h1
    by_cases hk1 : k + 1 = q.1
    · rw [if_pos hk1] at h1
      split at h1 <;> simp at h1
    · rw [if_neg hk1] at h1
      obtain ⟨g1, g2⟩ := ab_kill_get h1
      refine List.mem_cons.mpr (Or.inr (List.mem_filter.mpr ⟨ab_fl_mem.mpr ⟨u, g1, h2⟩, ?_⟩))
      have e : q.2.category = u.category := by rw [h2, ab_rv_cat]
      rw [e]
      have n1 : ¬ q.1 = k := fun z => hk z.symm
      have n2 : ¬ q.1 = k + 1 := fun z => hk1 z.symm
      simp only [Bool.and_eq_true, Bool.not_eq_true', beq_eq_false_iff_ne, ne_eq, n1, n2, not_false_eq_true, true_and, Bool.and_eq_false_iff]
      by_cases z : q.1 + 1 = k
      · right
        exact fun y => g2 ⟨z, y⟩
      · left
        exact z
def ab_tys (cA : Nat → ClassId) : List (ClassId × FieldType) := [(cA 0, .int), (cA 1, .byte), (cA 2, .long), (cA 3, .boolean), (cA 4, .object RX1), (cA 5, .object RX7)]
theorem ab_X_lt {b L : Nat} {xs : Nat → Int32} {U : State} {H : Heap} (h : va_X b L xs U H) : b < H.size := by
  obtain ⟨scr, h1, _⟩ := h
  exact (Array.getElem?_eq_some_iff.mp h1).1
/-- a text's String -/
def js_S (a : Nat) (t : List Int32) (A : Nat → Prop) (U : State) (H : Heap) : Prop := va_O "java/lang/String" a A U H ∧ va_OF "java/lang/String" "coder" "B" (.int 0) a A U H ∧ ∃ v : Nat, va_OF "java/lang/String" "value" "[B" (.ref v) a A U H ∧ va_T .byte v t.length (fun j => .int (t.getD j 0)) A U H
def js_Z (A : Nat → Prop) (U : State) (H : Heap) : Prop := va_Z "java/lang/String" "COMPACT_STRINGS" "Z" (.int 1) A U H ∧ ∃ f : Value, (f = .null ∨ ∃ a : Nat, f = .ref a) ∧ va_Z "jdk/internal/util/Preconditions" "SIOOBE_FORMATTER" "Ljava/util/function/BiFunction;" f A U H
def js_K (ad : Nat → Nat) (A : Nat → Prop) (U : State) : Prop := js_Z A U U.heap ∧ ∀ q ∈ ab_txt, js_S (ad q.1) q.2 A U U.heap
theorem js_S.moved {a : Nat} {t : List Int32} {A : Nat → Prop} {u U : State} {H : Heap} (hvm : u.vm.Alike U.vm) (h : js_S a t A u H) : js_S a t A U H := by
  obtain ⟨h1, h2, v, h3, h4⟩ := h
  exact ⟨va_O.moved hvm h1, va_OF.moved hvm h2, v, va_OF.moved hvm h3, va_T.moved hvm h4⟩
theorem js_S.kept {a : Nat} {t : List Int32} {A : Nat → Prop} {U : State} {H H1 : Heap} (h : js_S a t A U H) (hq : ∀ a : Nat, a < H.size → ¬ A a → H1[a]? = H[a]?) : js_S a t A U H1 := by
  obtain ⟨h1, h2, v, h3, h4⟩ := h
  exact ⟨h1.kept hq, h2.kept hq, v, h3.kept hq, h4.kept hq⟩
theorem js_S.narrow {a : Nat} {t : List Int32} {A B : Nat → Prop} {U : State} {H : Heap} (h : js_S a t A U H) (hAB : ∀ q, B q → A q) : js_S a t B U H := by
  obtain ⟨h1, h2, v, h3, h4⟩ := h
  exact ⟨h1.narrow hAB, h2.narrow hAB, v, h3.narrow hAB, h4.narrow hAB⟩
theorem js_Z.moved {A : Nat → Prop} {u U : State} {H : Heap} (hvm : u.vm.Alike U.vm) (h : js_Z A u H) : js_Z A U H := by
  obtain ⟨h1, f, h2⟩ := h
  exact ⟨va_Z.moved hvm h1, f, h2.1, va_Z.moved hvm h2.2⟩
theorem js_Z.kept {A : Nat → Prop} {U : State} {H H1 : Heap} (h : js_Z A U H) (hq : ∀ a : Nat, a < H.size → ¬ A a → H1[a]? = H[a]?) : js_Z A U H1 := by
  obtain ⟨h1, f, h2⟩ := h
  exact ⟨h1.kept hq, f, h2.1, h2.2.kept hq⟩
theorem js_Z.narrow {A B : Nat → Prop} {U : State} {H : Heap} (h : js_Z A U H) (hAB : ∀ q, B q → A q) : js_Z B U H := by
  obtain ⟨h1, f, h2⟩ := h
  exact ⟨h1.narrow hAB, f, h2.1, h2.2.narrow hAB⟩
/-- what the tables and the old cells say of a state -/
def ab_K (D : va_G) (cA : Nat → ClassId) (ad : Nat → Nat) (A : Nat → Prop) (ro : ab_R) (U : State) : Prop :=
  va_K D vwCl (ab_tys cA) U ∧ (∀ q ∈ ab_nests, va_Nw (.methodLinkNest q.1 q.2.1 q.2.2.1 q.2.2.2) U) ∧ (va_AO RX1 U ∧ va_AO RX7 U) ∧ ((∀ q ∈ ab_strK, vk_R (ab_cn q.2.1) q.2.2.1 q.2.2.2 (ad q.1) U) ∧ js_K ad A U) ∧
  (∀ q ∈ ab_stats, va_Z q.1 q.2.1 q.2.2.1 (.ref (ad (1000000 + q.2.2.2))) A U U.heap) ∧ (∀ (j n : Nat) (f : Nat → Int32), ro j = some (n, f) → va_X (ad (1000000 + j)) n f U U.heap ∧ ¬ A (ad (1000000 + j)))
/-- what holds throughout a method's body -/
def ab_Ctx (ro : ab_R) (p : Program) (R : Room) (s : State) (m : MethodId) (args : Array Value) (meth : Method) (c : Code) (own : Nat) (ini : Bool) (cc : ByteArray) (nL : Nat) (D : va_G) (cA : Nat → ClassId) (ad : Nat → Nat) (n0 mcF msF : Nat) (A : Nat → Prop) : Prop :=
  p.tables.exec = Jvm.exec ∧ c.code = cc ∧ c.maxLocals = nL ∧ s.vm.findClass (ab_cn own) = some m.cls ∧ (∀ w ∈ ab_ws, w.before args s = true) ∧ (ini = true → meth.name = "<init>") ∧ ab_K D cA ad A ro s ∧
  (∀ k k', k < n0 + mcF → k' < n0 + mcF → ad k = ad k' → k = k') ∧ (∀ k, k < n0 + mcF → A (ad k)) ∧ (∀ i, i < mcF → ad (n0 + i) = s.heap.size + i) ∧ (∀ q, s.heap.size ≤ q → A q) ∧ (mcF ≤ R.cells ∧ msF ≤ R.slots ∧ 4 ≤ R.frames ∧ 100 ≤ R.locals) ∧ n0 + mcF < 500000
theorem ab_D {ad : Nat → Nat} {cA : Nat → ClassId} {A : Nat → Prop} {N : Nat} {w : ab_W} (h1 : ∀ k k', k < N → k' < N → ad k = ad k' → k = k') (h2 : ∀ k, k < N → A (ad k)) (hw : w.length ≤ N) : va_D A (ab_rl ad cA w) := by
  have lt : ∀ (i : Nat) (q : Nat × va_E), (ab_rl ad cA w)[i]? = some q → i < N ∧ q.1 = ad i := by
    intro i q h
    rw [ab_rl_get] at h
    cases hi : w[i]? with
    | none => rw [hi] at h; cases h
    | some e =>
      rw [hi] at h
      simp only [Option.map_some, Option.some.injEq] at h
      exact ⟨Nat.lt_of_lt_of_le (List.getElem?_eq_some_iff.mp hi).1 hw, by rw [← h]⟩
  refine ⟨fun i j x y hx hy e => ?_, fun k q hk => ?_⟩
  · obtain ⟨l1, e1⟩ := lt i x hx
    obtain ⟨l2, e2⟩ := lt j y hy
    exact h1 i j l1 l2 (by rw [← e1, ← e2, e])
  · obtain ⟨l1, e1⟩ := lt k q hk
    rw [e1]
    exact h2 k l1
def ab_G (ro : ab_R) (p : Program) (l : Launch) (e : Env) (R : Room) (s : State) (m : MethodId) (args : Array Value) (below : List Frame) (meth : Method) (c : Code) (own : Nat) (ini : Bool) (cc : ByteArray) (nL : Nat) (D : va_G) (cA : Nat → ClassId) (ad : Nat → Nat) (n0 mcF msF : Nat) (A : Nat → Prop) (Q : State → Prop) (i : Instr) : Prop :=
  ∀ (tgt pc : Nat) (L : ab_L) (st : List Value) (w : ab_W) (a b : Nat) (ps : List Prop) (pc' : Nat) (L' : ab_L) (st' : List Value) (w' : ab_W) (a' b' len : Nat), decode cc pc = .ok (i, len) → (ab_len i = 0 ∨ ab_len i = len) → (∀ off, ab_off i = some off → (pc : Int) + off = (tgt : Int)) →
    ab_nx ro own ini i tgt pc L st w a b = some (ps, pc', L', st', w', a', b') → ab_all ps → L.length = nL → w.length = n0 + a → a' ≤ mcF → b' ≤ msF →
    (∀ (ls : Array Slot) (H : Heap) (locs : List Loc), lv_has ls nL (ab_fl ad L') → va_P D vwCl (ab_rl ad cA w') H → va_S A s.heap H locs → W p l e R s m args below meth c H locs a' b' Q (F0 m pc' ls (st'.map (ab_rv ad)))) →
    ∀ (ls : Array Slot) (H : Heap) (locs : List Loc), lv_has ls nL (ab_fl ad L) → va_P D vwCl (ab_rl ad cA w) H → va_S A s.heap H locs → W p l e R s m args below meth c H locs a b Q (F0 m pc ls (st.map (ab_rv ad)))
/-- the heap's size is told by the cells in use -/
theorem ab_size {p : Program} {l : Launch} {e : Env} {R : Room} {s : State} {m : MethodId} {args : Array Value} {below : List Frame} {meth : Method} {c : Code} {H : Heap} {locs : List Loc} {cells slots : Nat} {Q : State → Prop} {g : JFrame} (hlo : s.heap.size + cells ≤ H.size) (k : H.size = s.heap.size + cells → W p l e R s m args below meth c H locs cells slots Q g) : W p l e R s m args below meth c H locs cells slots Q g := by
  intro T hT X
  have h := X.same.2.2.1
  have h2 : T.heap.size ≤ s.heap.size + cells := h
  rw [hT] at h2
  exact k (by omega) T hT X
