/-! calls, and the soundness of whole runs -/
theorem ab_ini_ret : (List.range 240).all (fun j => !ab_ini j || decide (ab_ret j = none)) = true := by decide +kernel
theorem ab_ini_none {j : Nat} (hj : j < 240) (h : ab_ini j = true) : ab_ret j = none := by
  have := List.all_eq_true.mp ab_ini_ret j (List.mem_range.mpr hj)
  rw [h] at this
  simpa using this
theorem ab_m_get {o ix j n kind : Nat} (h : ab_lk (ab_mT o) ix = some (j, n, kind)) : n = ab_na j ∧ ((kind = 0 ∧ Cond.methodLink (ab_cn o) ix (ab_y j) ∈ ab_ws ∧ ab_stc j = false ∧ ab_ini j = false) ∨ (kind = 1 ∧ Cond.methodLink (ab_cn o) ix (ab_y j) ∈ ab_ws ∧ ab_stc j = false ∧ ab_ini j = true) ∨ (kind = 2 ∧ Cond.methodLink (ab_cn o) ix (ab_y j) ∈ ab_ws ∧ ab_stc j = true) ∨
    (kind = 3 ∧ (∃ ho, (ab_cn o, ix, ab_y j, ho) ∈ ab_nests) ∧ ab_stc j = false ∧ ab_ini j = true) ∨ (kind = 4 ∧ (∃ ho, (ab_cn o, ix, ab_y j, ho) ∈ ab_nests) ∧ ab_stc j = true)) := by
  obtain ⟨p, hp⟩ := ab_m_ok h
  unfold ab_mOk at hp
  simp only [Bool.and_eq_true, decide_eq_true_eq] at hp
  obtain ⟨⟨-, h2⟩, h3⟩ := hp
  refine ⟨h2, ?_⟩
  have nest : (ab_nests.any (fun t => t.1 == ab_cn o && t.2.1 == ix && decide (t.2.2.1 = ab_y j))) = true → ∃ ho, (ab_cn o, ix, ab_y j, ho) ∈ ab_nests := by
    intro hn
    obtain ⟨⟨x, y, z, u⟩, g1, g2⟩ := List.any_eq_true.mp hn
    simp only [Bool.and_eq_true, beq_iff_eq, decide_eq_true_eq] at g2
    obtain ⟨⟨e1, e2⟩, e3⟩ := g2
    subst e1; subst e2; subst e3
    exact ⟨u, g1⟩
  split at h3
  · simp only [Bool.and_eq_true, Bool.not_eq_true'] at h3
    exact Or.inl ⟨rfl, ab_has_ok h3.1.1, h3.1.2, h3.2⟩
  · simp only [Bool.and_eq_true, Bool.not_eq_true'] at h3
    exact Or.inr (Or.inl ⟨rfl, ab_has_ok h3.1.1, h3.1.2, h3.2⟩)
  · simp only [Bool.and_eq_true] at h3
    exact Or.inr (Or.inr (Or.inl ⟨rfl, ab_has_ok h3.1, h3.2⟩))
  · simp only [Bool.and_eq_true, Bool.not_eq_true'] at h3
    exact Or.inr (Or.inr (Or.inr (Or.inl ⟨rfl, nest h3.1.1, h3.1.2, h3.2⟩)))
  · simp only [Bool.and_eq_true] at h3
    exact Or.inr (Or.inr (Or.inr (Or.inr ⟨rfl, nest h3.1, h3.2⟩)))
  · cases h3
theorem ab_nodup {l : List Nat} (h : l.Nodup) {i j : Nat} (hi : i < l.length) (hj : j < l.length) (e : l[i] = l[j]) : i = j := by
  have h2 := List.pairwise_iff_getElem.mp h
  rcases Nat.lt_trichotomy i j with z | z | z
  · exact absurd e (h2 i j hi hj z)
  · exact z
  · exact absurd e.symm (h2 j i hj hi z)
theorem ab_stk (ad : Nat → Nat) (st : List Value) (n : Nat) : st.map (ab_rv ad) = (((st.take n).reverse).map (ab_rv ad)).reverse ++ (st.drop n).map (ab_rv ad) := by
  rw [List.map_reverse, List.reverse_reverse, ← List.map_append, List.take_append_drop]
section AbCall
variable {ro : ab_R} {p : Program} {l : Launch} {e : Env} {R : Room} {s : State} {m : MethodId} {args : Array Value} {below : List Frame} {meth : Method} {c : Code} {own : Nat} {ini : Bool} {cc : ByteArray} {nL : Nat} {D : va_G} {cA : Nat → ClassId} {ad : Nat → Nat} {n0 mcF msF : Nat} {A : Nat → Prop} {Q : State → Prop}
theorem ab_call_ok (K : ab_Ctx ro p R s m args meth c own ini cc nL D cA ad n0 mcF msF A) {d : Nat} (hfr : d + 4 ≤ R.frames) (hlc : 100 * d + 40 ≤ R.locals) {i : Instr} {len pc a b : Nat} {L : ab_L} {st : List Value} {w : ab_W} (hdg : decode cc pc = .ok (i, len)) (hlen : ab_len i = 0 ∨ ab_len i = len) {j : Nat} {as r : List Value} (h : ab_ca own i st w = some (j, as, r))
    {is : List Nat} {as' : List Value} {wc w1 : ab_W} {v : Option Value} {mc ms : Nat} (hj : j < 240)
    (hM : ∀ (ad' : Nat → Nat) (hs : Nat), (∀ i, i < mc → ad' (wc.length + i) = hs + i) → Met l (ab_y j) (ab_wm j) (ab_rm d mc ms) (ab_Pc ro D cA ad' as' wc hs) (ab_Qc D cA ad' wc hs v w1) mc ms (va_A (ab_rl ad' cA wc) hs))
    (h3 : as = as'.map (ab_rv (ab_pi is w.length))) (h4 : is.map (fun i => w[i]?) = wc.map (fun e => some (ab_re (ab_pi is w.length) id e))) (h5 : is.Nodup) (h6 : wc.length + mc < 500000) (hw1 : w1.length = wc.length + mc) (hw : w.length = n0 + a) (ha : a + mc ≤ mcF) (hb : b + ms ≤ msF)
    (kk : ab_WA p l e R s m args below meth c nL D cA ad A Q (pc + 3, L, (v.map (ab_rv (ab_pi is w.length))).toList ++ r, ab_put is wc.length w w1 (ab_pi is w.length), a + mc, b + ms)) : ab_WA p l e R s m args below meth c nL D cA ad A Q (pc, L, st, w, a, b) := by
  intro ls H locs hl hP hS
  obtain ⟨hx, hbc, hml, hown, hts, hini, hK, hinj, hAd, hnew, hA, hR, hbig⟩ := K
  have hlo := ab_lo hnew hw (by omega) hP hS
  refine ab_size hlo fun hsz => ?_
  have hil : is.length = wc.length := by
    have := congrArg List.length h4
    simpa using this
  generalize hpi : ab_pi is w.length = pi at h3 h4 kk
  obtain ⟨ad', had'⟩ : ∃ f : Nat → Nat, f = fun k => ad (pi k) := ⟨_, rfl⟩
  have hcell : ∀ (k : Nat) (x : va_E), wc[k]? = some x → k < is.length ∧ w[is.getD k 0]? = some (ab_re pi id x) ∧ pi k = is.getD k 0 ∧ is.getD k 0 < w.length := by
    intro k x hk
    have hkl : k < wc.length := (List.getElem?_eq_some_iff.mp hk).1
    have hki : k < is.length := by omega
    have h := congrArg (fun l => l[k]?) h4
    simp only [List.getElem?_map, hk, Option.map_some] at h
    rw [List.getElem?_eq_getElem hki] at h
    simp only [Option.map_some, Option.some.injEq] at h
    have hg : is.getD k 0 = is[k] := by rw [List.getD_eq_getElem?_getD, List.getElem?_eq_getElem hki]; rfl
    rw [hg]
    exact ⟨hki, h, by rw [← hpi, ab_pi_lo hki, hg], (List.getElem?_eq_some_iff.mp h).1⟩
  have hP' : va_P D vwCl (ab_rl ad' cA wc) H := by
    intro k q hk
    rw [ab_rl_get] at hk
    cases hx1 : wc[k]? with
    | none => rw [hx1] at hk; cases hk
    | some x =>
      rw [hx1] at hk
      simp only [Option.map_some, Option.some.injEq] at hk
      obtain ⟨g1, g2, g3, g4⟩ := hcell k x hx1
      have g5 := hP _ _ (ab_rl_at (ad := ad) (cA := cA) g2)
      rw [ab_re_comp] at g5
      rw [← hk, had']
      dsimp only
      rw [g3]
      exact g5
  have hD' : va_D (fun _ => True) (ab_rl ad' cA wc) := by
    refine ⟨fun i j x y hx hy hxy => ?_, fun _ _ _ => trivial⟩
    rw [ab_rl_get] at hx hy
    cases hx1 : wc[i]? with
    | none => rw [hx1] at hx; cases hx
    | some x1 =>
      cases hy1 : wc[j]? with
      | none => rw [hy1] at hy; cases hy
      | some y1 =>
        rw [hx1] at hx
        rw [hy1] at hy
        simp only [Option.map_some, Option.some.injEq] at hx hy
        obtain ⟨g1, g2, g3, g4⟩ := hcell i x1 hx1
        obtain ⟨f1, f2, f3, f4⟩ := hcell j y1 hy1
        rw [← hx, ← hy, had'] at hxy
        dsimp only at hxy
        rw [g3, f3] at hxy
        have e1 := hinj _ _ (by omega) (by omega) hxy
        rw [List.getD_eq_getElem?_getD, List.getElem?_eq_getElem g1, List.getD_eq_getElem?_getD, List.getElem?_eq_getElem f1] at e1
        exact ab_nodup h5 g1 f1 e1
  have hA1 : ∀ q, va_A (ab_rl ad' cA wc) H.size q → A q := by
    intro q hq
    rcases hq with ⟨k, x, hk⟩ | hq
    · rw [ab_rl_get] at hk
      cases hx1 : wc[k]? with
      | none => rw [hx1] at hk; cases hk
      | some x1 =>
        rw [hx1] at hk
        simp only [Option.map_some, Option.some.injEq] at hk
        obtain ⟨g1, g2, g3, g4⟩ := hcell k x1 hx1
        have e1 : q = ad (is.getD k 0) := by
          have := congrArg Prod.fst hk
          dsimp only at this
          rw [← this, had']
          dsimp only
          rw [g3]
        rw [e1]
        exact hAd _ (by omega)
    · exact hA q (Nat.le_trans hS.1 hq)
  have hnew' : ∀ i, i < mc → ad' (wc.length + i) = H.size + i := by
    intro i hi
    rw [had']
    dsimp only
    rw [← hil, ← hpi, ab_pi_mid (by omega), hw, Nat.add_assoc, hnew (a + i) (by omega), hsz]
    exact (Nat.add_assoc _ _ _).symm
  have hMet := hM ad' H.size hnew'
  have hblind : FrameBlind (ab_Pc ro D cA ad' as' wc H.size) := by
    intro a U g mk q
    obtain ⟨q0, q1, q2, q3, q4⟩ := q
    exact ⟨q0, q1, q2, q3, ab_K_moved rfl rfl q4⟩
  have hpre : ∀ (av : Array Value), av = (as.map (ab_rv ad)).toArray → ∀ U : State, U.heap = H → s.WarmedH U.vm → ab_Pc ro D cA ad' as' wc H.size av U := by
    intro av hav U hU hW
    refine ⟨?_, by rw [hU], by rw [hU]; exact hP', hD', ab_K_call hW hU hS hA1 (fun k hk => ?_) hK⟩
    · rw [hav, h3, List.map_map]
      congr 1
      apply List.map_congr_left
      intro x _
      rw [Function.comp_apply, ab_rv_comp, had']
    · rw [had']
      dsimp only
      rw [← hpi, ab_pi_hi (by omega) hk]
  -- what comes behind the call
  have go : ∀ (av : Array Value), va_Run p l e R s m args below meth c H locs a b mc ms (F0 m pc ls (st.map (ab_rv ad))) (r.map (ab_rv ad)) (ab_Qc D cA ad' wc H.size v w1 av) (va_A (ab_rl ad' cA wc) H.size) → W p l e R s m args below meth c H locs a b Q (F0 m pc ls (st.map (ab_rv ad))) := by
    intro av hr
    refine ab_callg (A1 := va_A (ab_rl ad' cA wc) H.size) (v0 := v.map (ab_rv ad')) (B := fun Hp => va_P D vwCl (ab_rl ad' cA w1) Hp) hr (fun st oc t h => h) hS (fun q _ h => hA1 q h) hA1 (fun H1 locs1 g1 g2 g3 => ?_)
    have h7 := kk ls H1 locs1 hl ?_ g3
    · have e1 : ((v.map (ab_rv pi)).toList ++ r).map (ab_rv ad) = (v.map (ab_rv ad')).toList ++ r.map (ab_rv ad) := by
        rw [List.map_append, had']
        congr 1
        cases v with
        | none => rfl
        | some x => simp only [Option.map_some, Option.toList_some, List.map_cons, List.map_nil, ab_rv_comp]
      dsimp only at h7
      rw [e1] at h7
      exact h7
    · intro k q hk
      rw [ab_rl_get] at hk
      dsimp only at hk
      unfold ab_put at hk
      by_cases hkl : k < w.length
      · rw [List.getElem?_append_left (by rw [ab_mi_len]; exact hkl), ab_mi_get, Nat.zero_add, List.getElem?_eq_getElem hkl] at hk
        simp only [Option.map_some, Option.some.injEq] at hk
        have keep : k ∉ is → va_at D vwCl (ad k, ab_re ad cA w[k]) H1 := by
          intro hni
          have g5 := hP _ _ (ab_rl_at (ad := ad) (cA := cA) (List.getElem?_eq_getElem hkl))
          refine g5.kept (g2 (ad k) g5.lt ?_)
          intro z
          rcases z with ⟨k2, x, hk2⟩ | z
          · rw [ab_rl_get] at hk2
            cases hx1 : wc[k2]? with
            | none => rw [hx1] at hk2; cases hk2
            | some x1 =>
              rw [hx1] at hk2
              simp only [Option.map_some, Option.some.injEq] at hk2
              obtain ⟨f1, f2, f3, f4⟩ := hcell k2 x1 hx1
              have e1 := congrArg Prod.fst hk2
              dsimp only at e1
              rw [had'] at e1
              dsimp only at e1
              rw [f3] at e1
              have e2 := hinj _ _ (by omega) (by omega) e1
              apply hni
              rw [← e2, List.getD_eq_getElem?_getD, List.getElem?_eq_getElem f1]
              exact List.getElem_mem f1
          · have := g5.lt
            dsimp only at this
            omega
        cases hix : ab_ix is k 0 with
        | none =>
          rw [hix] at hk
          rw [← hk]
          exact keep (ab_ix_none hix)
        | some i0 =>
          rw [hix] at hk
          obtain ⟨j0, e0, hj0⟩ := ab_ix_some hix
          rw [Nat.zero_add] at e0
          subst e0
          have hil0 : i0 < is.length := (List.getElem?_eq_some_iff.mp hj0).1
          have hi1 : i0 < w1.length := by omega
          dsimp only at hk
          rw [List.getElem?_eq_getElem hi1] at hk
          dsimp only at hk
          have g5 := g1 i0 _ (ab_rl_at (ad := ad') (cA := cA) (List.getElem?_eq_getElem hi1))
          rw [ab_re_comp] at hk
          rw [← hk]
          have e3 : ad' i0 = ad k := by
            rw [had']
            dsimp only
            rw [← hpi, ab_pi_lo hil0, List.getD_eq_getElem?_getD, hj0]
            rfl
          rw [e3, had'] at g5
          exact g5
      · rw [List.getElem?_append_right (by rw [ab_mi_len]; omega), ab_mi_len, List.getElem?_map, List.getElem?_drop] at hk
        cases hx1 : w1[wc.length + (k - w.length)]? with
        | none => rw [hx1] at hk; cases hk
        | some x1 =>
          rw [hx1] at hk
          simp only [Option.map_some, Option.some.injEq] at hk
          have g5 := g1 _ _ (ab_rl_at (ad := ad') (cA := cA) hx1)
          have hlt : wc.length + (k - w.length) < w1.length := (List.getElem?_eq_some_iff.mp hx1).1
          rw [ab_re_comp] at hk
          rw [← hk]
          have e3 : ad' (wc.length + (k - w.length)) = ad k := by
            rw [had']
            dsimp only
            rw [← hpi, ← hil, ab_pi_mid (by omega)]
            congr 1
            omega
          rw [e3, had'] at g5
          exact g5
  obtain ⟨jc, ji, jst, jin, jcl, jow, jm1, jm2, jpd, jpl, jnl⟩ := ab_j_get hj
  have hG : GoodIn ab_ws (ab_wm j) := ab_good hj (fun _ h => h)
  have hroom : (ab_rm d mc ms).frames + 1 ≤ R.frames ∧ 8 + (ab_nL j + 11) + (ab_rm d mc ms).locals ≤ R.locals := ⟨hfr, by show 8 + (ab_nL j + 11) + 100 * d ≤ R.locals; omega⟩
  have hf : a + mc ≤ R.cells ∧ b + ms ≤ R.slots := ⟨by omega, by omega⟩
  have hCB : ∀ (ix : Nat), Cond.methodLink (ab_cn own) ix (ab_y j) ∈ ab_ws → CallB R s args (ab_cn own) ix (ab_y j) (ab_b j) (ab_nL j) (ab_ret j) (ab_wm j) (ab_rm d mc ms) mc ms (ab_na j) := fun ix hlk => callB_of (ab_na j) hts hG rfl rfl rfl (hts _ ji) (hts _ hlk) ⟨jm1, jm2, jpd⟩ hroom
  have hCN : ∀ (ix : Nat) (ho : String), (ab_cn own, ix, ab_y j, ho) ∈ ab_nests → va_CN R s args (ab_cn own) ix (ab_y j) ho (ab_b j) (ab_nL j) (ab_ret j) (ab_wm j) (ab_rm d mc ms) mc ms (ab_na j) := fun ix ho hn => va_cnB (ab_na j) hts hG rfl rfl rfl (hK.2.1 _ hn) (hts _ ji) ⟨jm1, jm2, jpd⟩ hroom
  have hroom8 : ∀ st0 : List Value, Nat.ble (ab_sum r) 8 = true → 2 * (F0 m pc ls st0).monitorRoom + ((r.map (ab_rv ad)).map fun v => v.category).sum ≤ 8 := fun st0 hb => lv_room (by rw [ab_sumMap]; exact Nat.le_of_ble_eq_true hb)
  unfold ab_ca at h
  split at h
  · -- virtual
    rename_i ix
    have hlen := hlen.resolve_left (by simp [ab_len])
    simp only [ab_len] at hlen
    subst hlen
    split at h
    · rename_i j' n hmt
      split at h
      · rename_i q r' hdr
        split at h
        · rename_i ci fs hwq
          cases hb1 : (Nat.beq (st.take n).length n && Nat.ble (ab_sum r') 8 && Nat.beq ci (ab_ow j')) with
          | false => rw [hb1] at h; cases h
          | true =>
            rw [hb1, cond_true] at h
            cases h
            simp only [Bool.and_eq_true] at hb1
            obtain ⟨⟨b1, b2⟩, b3⟩ := hb1
            have e1 := Nat.eq_of_beq_eq_true b1
            have e2 := Nat.eq_of_beq_eq_true b3
            obtain ⟨hn, hk⟩ := ab_m_get hmt
            rcases hk with ⟨-, hlk, hs1, hi1⟩ | ⟨z, -⟩ | ⟨z, -⟩ | ⟨z, -⟩ | ⟨z, -⟩ <;> first | (exfalso; omega) | skip
            obtain ⟨y1, y2⟩ := jin hs1
            have hst : st.map (ab_rv ad) = (((st.take n).reverse).map (ab_rv ad)).reverse ++ .ref (ad q) :: r.map (ab_rv ad) := by
              rw [ab_stk ad st n, hdr]
              rfl
            refine go _ (va_runV (As := ((st.take n).reverse).map (ab_rv ad)) (b := ad q) (C := (ab_y j).cls) (n := ab_na j) ⟨hx, hbc, hml, hown, hts⟩ hMet ⟨hCB ix hlk, hts _ y1, hts _ (y2 hi1)⟩ ⟨hblind, ?_, hpre _ rfl⟩ rfl (by rw [List.length_map, List.length_reverse, e1, hn]) hl.1 hst (hroom8 _ b2) hdg hf)
            subst e2
            have hcl : ∃ T N, vwCl[ab_ow j]? = some ((ab_y j).cls, T, N) := by
              rw [jcl]
              match ab_ow j, jow with
              | 0, _ => exact ⟨_, _, rfl⟩
              | 1, _ => exact ⟨_, _, rfl⟩
              | 2, _ => exact ⟨_, _, rfl⟩
              | 3, _ => exact ⟨_, _, rfl⟩
              | 4, _ => exact ⟨_, _, rfl⟩
              | 5, _ => exact ⟨_, _, rfl⟩
              | 6, _ => exact ⟨_, _, rfl⟩
              | 7, _ => exact ⟨_, _, rfl⟩
              | 8, _ => exact ⟨_, _, rfl⟩
              | 9, _ => exact ⟨_, _, rfl⟩
              | z + 10, hz => exact absurd hz (by omega)
            obtain ⟨T, N, hcl⟩ := hcl
            exact va_recv hK.1 hP hcl (ab_rl_at hwq)
        · cases h
      · cases h
    · cases h
  · -- special
    rename_i ix
    have hlen := hlen.resolve_left (by simp [ab_len])
    simp only [ab_len] at hlen
    subst hlen
    split at h
    · rename_i j' n hmt
      split at h
      · rename_i q r' hdr
        cases hb1 : (Nat.beq (st.take n).length n && Nat.ble (ab_sum r') 8) with
        | false => rw [hb1] at h; cases h
        | true =>
          rw [hb1, cond_true] at h
          cases h
          simp only [Bool.and_eq_true] at hb1
          obtain ⟨b1, b2⟩ := hb1
          have e1 := Nat.eq_of_beq_eq_true b1
          obtain ⟨hn, hk⟩ := ab_m_get hmt
          rcases hk with ⟨z, -⟩ | ⟨-, hlk, hs1, hi1⟩ | ⟨z, -⟩ | ⟨z, -⟩ | ⟨z, -⟩ <;> first | (exfalso; omega) | skip
          obtain ⟨y1, -⟩ := jin hs1
          have hst : st.map (ab_rv ad) = (((st.take n).reverse).map (ab_rv ad)).reverse ++ .ref (ad q) :: r.map (ab_rv ad) := by
            rw [ab_stk ad st n, hdr]
            rfl
          have hcb := hCB ix hlk
          rw [ab_ini_none hj hi1] at hcb
          exact go _ (va_runI (As := ((st.take n).reverse).map (ab_rv ad)) (b := ad q) (n := ab_na j) ⟨hx, hbc, hml, hown, hts⟩ hMet ⟨hcb, by simpa [ab_ini] using hi1, hts _ y1⟩ ⟨hblind, hpre _ rfl⟩ rfl (by rw [List.length_map, List.length_reverse, e1, hn]) hl.1 hst (hroom8 _ b2) hdg hf)
      · cases h
    · rename_i j' n hmt
      split at h
      · rename_i q r' hdr
        cases hb1 : (Nat.beq (st.take n).length n && Nat.ble (ab_sum r') 8) with
        | false => rw [hb1] at h; cases h
        | true =>
          rw [hb1, cond_true] at h
          cases h
          simp only [Bool.and_eq_true] at hb1
          obtain ⟨b1, b2⟩ := hb1
          have e1 := Nat.eq_of_beq_eq_true b1
          obtain ⟨hn, hk⟩ := ab_m_get hmt
          rcases hk with ⟨z, -⟩ | ⟨z, -⟩ | ⟨z, -⟩ | ⟨-, ⟨ho, hlk⟩, hs1, hi1⟩ | ⟨z, -⟩ <;> first | (exfalso; omega) | skip
          obtain ⟨y1, -⟩ := jin hs1
          have hst : st.map (ab_rv ad) = (((st.take n).reverse).map (ab_rv ad)).reverse ++ .ref (ad q) :: r.map (ab_rv ad) := by
            rw [ab_stk ad st n, hdr]
            rfl
          have hcb := hCN ix ho hlk
          rw [ab_ini_none hj hi1] at hcb
          exact go _ (va_runIN (As := ((st.take n).reverse).map (ab_rv ad)) (b := ad q) (n := ab_na j) ⟨hx, hbc, hml, hown, hts⟩ hMet ⟨hcb, by simpa [ab_ini] using hi1, hts _ y1⟩ ⟨hblind, hpre _ rfl⟩ rfl (by rw [List.length_map, List.length_reverse, e1, hn]) hl.1 hst (hroom8 _ b2) hdg hf)
      · cases h
    · cases h
  · -- static
    rename_i ix
    have hlen := hlen.resolve_left (by simp [ab_len])
    simp only [ab_len] at hlen
    subst hlen
    split at h
    · rename_i j' n hmt
      cases hb1 : (Nat.beq (st.take n).length n && Nat.ble (ab_sum (st.drop n)) 8) with
      | false => rw [hb1] at h; cases h
      | true =>
        rw [hb1, cond_true] at h
        cases h
        simp only [Bool.and_eq_true] at hb1
        obtain ⟨b1, b2⟩ := hb1
        have e1 := Nat.eq_of_beq_eq_true b1
        obtain ⟨hn, hk⟩ := ab_m_get hmt
        rcases hk with ⟨z, -⟩ | ⟨z, -⟩ | ⟨-, hlk, hs1⟩ | ⟨z, -⟩ | ⟨z, -⟩ <;> first | (exfalso; omega) | skip
        exact go _ (va_runS (As := ((st.take n).reverse).map (ab_rv ad)) (n := ab_na j) ⟨hx, hbc, hml, hown, hts⟩ hMet ⟨hCB ix hlk, hts _ (jst hs1)⟩ ⟨hblind, hpre _ rfl⟩ rfl (by rw [List.length_map, List.length_reverse, e1, hn]) hl.1 (ab_stk ad st n) (hroom8 _ b2) hdg hf)
    · rename_i j' n hmt
      cases hb1 : (Nat.beq (st.take n).length n && Nat.ble (ab_sum (st.drop n)) 8) with
      | false => rw [hb1] at h; cases h
      | true =>
        rw [hb1, cond_true] at h
        cases h
        simp only [Bool.and_eq_true] at hb1
        obtain ⟨b1, b2⟩ := hb1
        have e1 := Nat.eq_of_beq_eq_true b1
        obtain ⟨hn, hk⟩ := ab_m_get hmt
        rcases hk with ⟨z, -⟩ | ⟨z, -⟩ | ⟨z, -⟩ | ⟨z, -⟩ | ⟨-, ⟨ho, hlk⟩, hs1⟩ <;> first | (exfalso; omega) | skip
        exact go _ (va_runSN (As := ((st.take n).reverse).map (ab_rv ad)) (n := ab_na j) ⟨hx, hbc, hml, hown, hts⟩ hMet ⟨hCN ix ho hlk, hts _ (jst hs1), trivial⟩ ⟨hblind, hpre _ rfl⟩ rfl (by rw [List.length_map, List.length_reverse, e1, hn]) hl.1 (ab_stk ad st n) (hroom8 _ b2) hdg hf)
    · cases h
  · cases h
end AbCall
