/-! calls: a callee's world stands in the caller's; then every run of the abstract machine is one of the JVM -/
theorem ab_rv_comp (f g : Nat → Nat) (v : Value) : ab_rv f (ab_rv g v) = ab_rv (fun k => f (g k)) v := by cases v <;> rfl
theorem ab_rx_comp (f g : Nat → Nat) (x : vp_A) : ab_rx f (ab_rx g x) = ab_rx (fun k => f (g k)) x := by
  obtain ⟨n, x⟩ := x
  rcases x with x | x | x | x | x
  · rfl
  · rfl
  · rfl
  · rfl
  · show (n, _) = (n, _)
    congr 5
    funext i
    simp [Option.map_map, Function.comp_def]
theorem ab_re_comp (f g : Nat → Nat) (cA : Nat → ClassId) (e : va_E) : ab_re f cA (ab_re g id e) = ab_re (fun k => f (g k)) cA e := by
  rcases e with ⟨t, x⟩ | ⟨ci, fs⟩
  · show Sum.inl (cA t, ab_rx f (ab_rx g x)) = Sum.inl (cA t, _)
    rw [ab_rx_comp]
  · show Sum.inr (ci, (fs.map (ab_rv g)).map (ab_rv f)) = Sum.inr (ci, _)
    rw [List.map_map]
    congr 2
    apply List.map_congr_left
    intro v _
    exact ab_rv_comp f g v
theorem ab_pi_lo {is : List Nat} {n k : Nat} (h : k < is.length) : ab_pi is n k = is.getD k 0 := by unfold ab_pi; rw [if_pos h]
theorem ab_pi_mid {is : List Nat} {n i : Nat} (h : is.length + i < 500000) : ab_pi is n (is.length + i) = n + i := by
  unfold ab_pi
  rw [if_neg (by omega), if_pos h]
  omega
theorem ab_pi_hi {is : List Nat} {n k : Nat} (h : is.length < 500000) (hk : 1000000 ≤ k) : ab_pi is n k = k := by
  unfold ab_pi
  rw [if_neg (by omega), if_neg (by omega), if_neg (by omega), if_neg (by omega)]
theorem ab_ix_some : ∀ {is : List Nat} {k i0 i : Nat}, ab_ix is k i0 = some i → ∃ j, i = i0 + j ∧ is[j]? = some k
  | [], _, _, _, h => by cases h
  | x :: t, k, i0, i, h => by
    unfold ab_ix at h
    cases hb : Nat.beq x k with
    | true =>
      rw [hb] at h
      simp only [cond_true, Option.some.injEq] at h
      have := Nat.eq_of_beq_eq_true hb
      subst this
      exact ⟨0, h.symm, rfl⟩
    | false =>
      rw [hb] at h
      obtain ⟨j, h1, h2⟩ := ab_ix_some (is := t) h
      exact ⟨j + 1, by omega, h2⟩
theorem ab_ix_none : ∀ {is : List Nat} {k i0 : Nat}, ab_ix is k i0 = none → k ∉ is
  | [], _, _, _ => List.not_mem_nil
  | x :: t, k, i0, h => by
    unfold ab_ix at h
    cases hb : Nat.beq x k with
    | true => rw [hb] at h; cases h
    | false =>
      rw [hb] at h
      have h1 := ab_ix_none (is := t) h
      intro z
      rcases List.mem_cons.mp z with e | e
      · subst e
        rw [Nat.beq_refl] at hb
        cases hb
      · exact h1 e
/-- a call whose answer is told -/
theorem ab_callg {p : Program} {l : Launch} {e : Env} {R : Room} {s : State} {m : MethodId} {args : Array Value} {below : List Frame} {meth : Method} {c : Code} {H : Heap} {locs : List Loc} {cells slots mc ms : Nat} {Q : State → Prop} {pc : Nat} {ls : Array Slot} {st0 rest : List Value} {Qa : State → Outcome → State → Prop} {free : Addr → Prop} {A0 A1 : Nat → Prop} {H0 : Heap} {v0 : Option Value} {B : Heap → Prop}
    (hr : va_Run p l e R s m args below meth c H locs cells slots mc ms (F0 m pc ls st0) rest Qa free) (hQ : ∀ st oc t, Qa st oc t → oc = .returned v0 ∧ B t.heap ∧ va_F A1 st t) (hS : va_S A0 H0 H locs) (hA : ∀ q, q < H.size → A1 q → A0 q) (hf : ∀ q, free q → A0 q)
    (kk : ∀ (H1 : Heap) (locs1 : List Loc), B H1 → (∀ q : Nat, q < H.size → ¬ A1 q → H1[q]? = H[q]?) → va_S A0 H0 H1 locs1 → W p l e R s m args below meth c H1 locs1 (cells + mc) (slots + ms) Q (F0 m (pc + 3) ls (v0.toList ++ rest))) : W p l e R s m args below meth c H locs cells slots Q (F0 m pc ls st0) := by
  intro T hT X
  obtain ⟨v, st₀, t, T', L, h0, X', hL, e1, e2, hq, st⟩ := hr T hT X
  obtain ⟨hv, hb, hz, hk⟩ := hQ _ _ _ hq
  cases hv
  rw [h0] at hz hk
  obtain ⟨t2, a1, b1⟩ := kk T'.heap (locs ++ L) (by rw [e1]; exact hb) (fun q h1 h2 => by rw [e1]; exact hk q h1 h2)
    ⟨Nat.le_trans hS.1 (by rw [e1]; exact hz), fun q h1 h2 => by rw [e1, hk q (Nat.lt_of_lt_of_le h1 hS.1) (fun z => h2 (hA q (Nat.lt_of_lt_of_le h1 hS.1) z))]; exact hS.2.1 q h1 h2, fun q hq => by
      rcases List.mem_append.mp hq with h | h
      · exact hS.2.2 q h
      · exact hf _ (hL q h)⟩ T' rfl X'
  exact ⟨t2, st t2 a1, b1⟩
def ab_wm (j : Nat) : List Cond := Cond.code (ab_y j) (ab_b j) (ab_nL j) (ab_ret j) :: ab_ws
def ab_rm (d mc ms : Nat) : Room := { frames := d + 3, cells := mc, slots := ms, locals := 100 * d }
def ab_Pc (ro : ab_R) (D : va_G) (cA : Nat → ClassId) (ad : Nat → Nat) (as : List Value) (w : ab_W) (hs : Nat) : Array Value → State → Prop := va_Pc (as.map (ab_rv ad)) (fun U => U.heap.size = hs ∧ va_P D vwCl (ab_rl ad cA w) U.heap ∧ va_D (fun _ => True) (ab_rl ad cA w) ∧ ab_K D cA ad (va_A (ab_rl ad cA w) hs) ro U)
def ab_Qc (D : va_G) (cA : Nat → ClassId) (ad : Nat → Nat) (w : ab_W) (hs : Nat) (v : Option Value) (w1 : ab_W) : Array Value → State → Outcome → State → Prop := fun _ st oc t => oc = .returned (v.map (ab_rv ad)) ∧ va_P D vwCl (ab_rl ad cA w1) t.heap ∧ va_F (va_A (ab_rl ad cA w) hs) st t
/-- every code word is good, and among the words -/
theorem ab_j_ok {j : Nat} (hj : j < 240) : ab_jOk j = true := by
  by_cases h1 : j < 60
  · have := List.all_eq_true.mp ab_j_0 j (List.mem_range.mpr h1)
    rwa [Nat.zero_add] at this
  · by_cases h2 : j < 120
    · have := List.all_eq_true.mp ab_j_60 (j - 60) (List.mem_range.mpr (by omega))
      rwa [show 60 + (j - 60) = j by omega] at this
    · by_cases h3 : j < 180
      · have := List.all_eq_true.mp ab_j_120 (j - 120) (List.mem_range.mpr (by omega))
        rwa [show 120 + (j - 120) = j by omega] at this
      · have := List.all_eq_true.mp ab_j_180 (j - 180) (List.mem_range.mpr (by omega))
        rwa [show 180 + (j - 180) = j by omega] at this
/-- what is known of a method by the tables -/
def ab_jF (j : Nat) : Prop := Cond.code (ab_y j) (ab_b j) (ab_nL j) (ab_ret j) ∈ ab_ws ∧ Cond.initialized (ab_y j).cls ∈ ab_ws ∧ (ab_stc j = true → Cond.static (ab_y j) ∈ ab_ws) ∧ (ab_stc j = false → Cond.instanceMethod (ab_y j) ∈ ab_ws ∧ (ab_ini j = false → Cond.selects (ab_y j).cls (ab_y j) (ab_y j) ∈ ab_ws)) ∧ (ab_y j).cls = ab_cn (ab_ow j) ∧ ab_ow j < 10 ∧ (ab_y j).cls ≠ "java/lang/invoke/MethodHandle" ∧ (ab_y j).cls ≠ "java/lang/invoke/VarHandle" ∧ (parseMethodDescriptor (ab_y j).desc).map (fun d => d.parameters.length) = some (ab_na j) ∧ plainName (ab_y j).cls = true ∧ ab_nL j ≤ 21
theorem ab_j_get {j : Nat} (hj : j < 240) : ab_jF j := by
  have h := ab_j_ok hj
  unfold ab_jOk at h
  split at h
  · rename_i p0 pi ps pv hh
    simp only [Bool.and_eq_true, decide_eq_true_eq] at h
    obtain ⟨⟨⟨⟨⟨⟨⟨⟨⟨h1, h2⟩, h3⟩, h4⟩, h5⟩, h6⟩, h7⟩, h8⟩, h9⟩, h10⟩ := h
    have hcode : Cond.code (ab_y j) (ab_b j) (ab_nL j) (ab_ret j) ∈ ab_ws := by
      cases hw : ab_cw j with
      | none => rw [hw] at h1; cases h1
      | some w =>
        rw [hw] at h1
        cases w with
        | code y b n r =>
          simp only [Bool.and_eq_true, decide_eq_true_eq] at h1
          obtain ⟨⟨⟨k1, k2⟩, k3⟩, k4⟩ := h1
          have hb : ab_b j = b := by unfold ab_b; rw [hw]
          rw [hb, ← k1, ← k2, ← k3]
          unfold ab_cw at hw
          exact List.mem_filter.mpr ⟨List.mem_of_getElem? hw, k4⟩
        | _ => cases h1
    refine ⟨hcode, ab_has_ok h2, fun hs => ?_, fun hs => ?_, h4, h5, h6, h7, h8, h9, h10⟩
    · rw [hs] at h3
      exact ab_has_ok h3
    · rw [hs] at h3
      simp only [Bool.and_eq_true, Bool.or_eq_true] at h3
      refine ⟨ab_has_ok h3.1, fun hi => ?_⟩
      rcases h3.2 with z | z
      · rw [hi] at z; cases z
      · exact ab_has_ok z
  · cases h
theorem ab_ws_good : ∀ w ∈ ab_ws, (w.onTables && w.keeps) = true ∨ ∃ ty, w = .arrayClass ty := fun w hw => good_of_word (List.mem_filter.mp hw).2
theorem ab_good {j : Nat} (hj : j < 240) {Ts : List Cond} (h : ∀ w ∈ ab_ws, w ∈ Ts) : GoodIn Ts (ab_wm j) := by
  intro w hw
  have hm : w ∈ ab_ws := by
    rcases List.mem_cons.mp hw with e | e
    · rw [e]; exact (ab_j_get hj).1
    · exact e
  exact ⟨h w hm, ab_ws_good w hm⟩
theorem ab_K_moved {D : va_G} {cA : Nat → ClassId} {ad : Nat → Nat} {A : Nat → Prop} {ro : ab_R} {u U : State} (hvm : U.vm = u.vm) (hh : U.heap = u.heap) (h : ab_K D cA ad A ro u) : ab_K D cA ad A ro U := by
  obtain ⟨h1, h2, h3, h4, h5, h6⟩ := h
  have ha : u.vm.Alike U.vm := by rw [hvm]; exact Vm.Alike.refl u.vm
  refine ⟨va_K.moved ha h1, fun q hq => va_Nw.same rfl hvm.symm (h2 q hq), ⟨va_AO.moved ha h3.1, va_AO.moved ha h3.2⟩, ⟨fun q hq => vk_R.same hvm (h4.1 q hq), by rw [js_K, hh]; exact ⟨js_Z.moved ha h4.2.1, fun q hq => js_S.moved ha (h4.2.2 q hq)⟩⟩, fun q hq => ?_, fun j n f hj => ?_⟩
  · rw [hh]
    exact va_Z.moved ha (h5 q hq)
  · rw [hh]
    exact ⟨va_X.moved ha (h6 j n f hj).1, (h6 j n f hj).2⟩
/-- what a callee finds -/
theorem ab_K_call {D : va_G} {cA : Nat → ClassId} {ad ad' : Nat → Nat} {A A1 : Nat → Prop} {ro : ab_R} {s U : State} {H : Heap} {locs : List Loc} (hW : s.WarmedH U.vm) (hU : U.heap = H) (hS : va_S A s.heap H locs) (hA : ∀ q, A1 q → A q) (had : ∀ k, 1000000 ≤ k → ad' k = ad k) (h : ab_K D cA ad A ro s) : ab_K D cA ad' A1 ro U := by
  obtain ⟨h1, h2, h3, h4, h5, h6⟩ := h
  refine ⟨va_K.moved hW.alike h1, fun q hq => va_Nw.warmM hW (h2 q hq), ⟨va_AO.moved hW.alike h3.1, va_AO.moved hW.alike h3.2⟩, ⟨fun q hq => ?_, ?_⟩, fun q hq => ?_, fun j n f hj => ?_⟩
  · rw [had _ (by have := ab_sK_ge q hq; omega)]
    exact vk_R.warm hW (h4.1 q hq)
  · rw [js_K, hU]
    refine ⟨((js_Z.moved hW.alike h4.2.1).kept (fun a h1 h2 => hS.2.1 a h1 h2)).narrow hA, fun q hq => ?_⟩
    rw [had _ (by have := ab_tx_ge q hq; omega)]
    exact ((js_S.moved hW.alike (h4.2.2 q hq)).kept (fun a h1 h2 => hS.2.1 a h1 h2)).narrow hA
  · rw [had _ (by omega), hU]
    exact ((va_Z.moved hW.alike (h5 q hq)).kept (fun a h1 h2 => hS.2.1 a h1 h2)).narrow hA
  · obtain ⟨g1, g2⟩ := h6 j n f hj
    rw [had _ (by omega), hU]
    exact ⟨va_X.kept (va_X.moved hW.alike g1) (hS.2.1 _ (ab_X_lt g1) g2), fun z => g2 (hA _ z)⟩
