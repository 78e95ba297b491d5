/-! the law's start: what the Statement gives of it, and the claim -/
theorem ls_arr {s : State} {args : Array Value} {ty : FieldType} (hnt : ∀ C, ty ≠ .object C) (h : (Cond.arrayClass ty).before args s = true) : ∃ cA : ClassId, ArrOfT s cA ty ∧ va_RA s cA ty := by
  obtain ⟨c, k, comp, h1, h2, h3⟩ := Cond.arrayClass_spec h
  refine ⟨c, fun n z => ⟨(fun k h => by cases h), k, h2, comp, h3⟩, ?_⟩
  cases ty with
  | object C => exact absurd rfl (hnt C)
  | _ => exact h1
theorem ls_over {s : State} {args : Array Value} {C : String} (h : (Cond.arrayOver (.object C)).before args s = true) : ∃ cA : ClassId, ArrOfT s cA (.object C) ∧ va_RA s cA (.object C) := by
  obtain ⟨comp, c, k, h1, h2, h3, h4, h5⟩ := Cond.arrayOver_spec h
  exact ⟨c, fun n z => ⟨(fun k h => by cases h), k, h3, comp, h4⟩, k, comp, h3, h4, h1, h5⟩
theorem ls_eqi {args : Array Value} {s : State} {a : Term} {y : Int32} (h : (Cond.eq a (.int y)).before args s = true) : a.eval args s none [] s = some (.int y) := by
  obtain ⟨v, h1, h2⟩ := Cond.eq_one (first := s) (o := none) (s := s) (idx := []) h
  have h3 : (Term.int y).eval args s none [] s = some (.int y) := rfl
  rw [h3] at h2
  cases h2
  exact h1
theorem ls_row {args : Array Value} {s : State} {t : Term} {x0 x1 x2 x3 : Int32} (h1 : (Cond.arrayOf t .int).before args s = true) (h2 : (Cond.eq (.length t) (.int 4)).before args s = true)
    (e0 : (Cond.eq (.elem t (.int 0)) (.int x0)).before args s = true) (e1 : (Cond.eq (.elem t (.int 1)) (.int x1)).before args s = true) (e2 : (Cond.eq (.elem t (.int 2)) (.int x2)).before args s = true) (e3 : (Cond.eq (.elem t (.int 3)) (.int x3)).before args s = true) :
    ∃ a, t.eval args s none [] s = some (.ref a) ∧ ∀ f : Nat → Int32, f 0 = x0 → f 1 = x1 → f 2 = x2 → f 3 = x3 → va_X a 4 f s s.heap := by
  have hl := ls_eqi h2
  obtain ⟨a, cell, ht, harr, hsz⟩ := Term.length_spec hl
  have hsm : cell.slots.size < 2 ^ 31 := by
    simp only [Term.eval, ht, harr, Option.bind_eq_bind, Option.bind_some] at hl
    by_cases hlt : cell.slots.size < 2147483648
    · exact hlt
    · simp [hlt] at hl
  obtain ⟨hcell, hkn, -, -⟩ := State.arrayAt?_spec harr
  have hof := (Cond.arrayOf_spec h1 ht hcell).1
  have el : ∀ (j x : Int32), (Cond.eq (.elem t (.int j)) (.int x)).before args s = true → cell.slots[j.toNatClampNeg]? = some (.int x) := by
    intro j x h
    obtain ⟨a', j', cell', g1, g2, g3, -, g5⟩ := Term.elem_spec (ls_eqi h)
    rw [ht] at g1
    cases g1
    rw [harr] at g3
    cases g3
    cases g2
    exact g5
  have s4 : cell.slots.size = 4 := by
    have hz : (4 : Int32) = Int32.ofNat cell.slots.size := by
      injection hsz
    have h5 := Int32.toInt_ofNat_small hsm
    rw [← hz, show (4 : Int32).toInt = 4 from by decide] at h5
    omega
  refine ⟨a, ht, fun f f0 f1 f2 f3 => ⟨cell, hcell, hof, hkn, s4, fun j hj => ?_⟩⟩
  match j, hj with
  | 0, _ => rw [f0]; exact el 0 x0 e0
  | 1, _ => rw [f1]; exact el 1 x1 e1
  | 2, _ => rw [f2]; exact el 2 x2 e2
  | 3, _ => rw [f3]; exact el 3 x3 e3
  | n + 4, h => exact absurd h (by omega)
theorem ls_nests : ab_zall (fun (q : String × Nat × MethodName × String) p => decide (lw_tbl[p]? = some (.methodLinkNest q.1 q.2.1 q.2.2.1 q.2.2.2))) ab_nests [137, 244, 262, 268, 316, 321, 323, 349, 354, 356, 436, 603] = true := by decide +kernel
theorem ls_strs : ab_zall (fun (q : Nat × Nat × String) p => decide (lw_tbl[p]? = some (.stringRef (ab_cn q.1) q.2.1 q.2.2)) && (q.1 == 5 && Nat.blt q.2.1 1000)) ab_strs [687, 740, 741, 742, 783, 784, 785, 786, 787, 788, 789, 794, 795, 796, 797, 798, 807, 808, 813, 818, 831, 832, 837, 842, 843, 844, 845] = true := by decide +kernel
def ls_ad (s : State) (b t1 t2 : Nat) (k : Nat) : Nat := if k < 1000000 then s.heap.size + k else if k = 1000000 then b else if k = 1000001 then t1 else if k = 1000002 then t2 else match (Term.string RX5 (k - 2005000)).eval #[] s none [] s with
  | some (.ref a) => a
  | _ => 0
theorem ls_ad_lo (s : State) (b t1 t2 : Nat) {k : Nat} (h : k < 1000000) : ls_ad s b t1 t2 k = s.heap.size + k := if_pos h
theorem ls_ad_0 (s : State) (b t1 t2 : Nat) : ls_ad s b t1 t2 1000000 = b := by unfold ls_ad; rw [if_neg (by omega), if_pos rfl]
theorem ls_ad_1 (s : State) (b t1 t2 : Nat) : ls_ad s b t1 t2 1000001 = t1 := by unfold ls_ad; rw [if_neg (by omega), if_neg (by omega), if_pos rfl]
theorem ls_ad_2 (s : State) (b t1 t2 : Nat) : ls_ad s b t1 t2 1000002 = t2 := by unfold ls_ad; rw [if_neg (by omega), if_neg (by omega), if_neg (by omega), if_pos rfl]
theorem ls_ad_s {s : State} (b t1 t2 : Nat) {k a : Nat} (h : (Term.string RX5 k).eval #[] s none [] s = some (.ref a)) : ls_ad s b t1 t2 (2000000 + 1000 * 5 + k) = a := by
  unfold ls_ad
  rw [if_neg (by omega), if_neg (by omega), if_neg (by omega), if_neg (by omega), show 2000000 + 1000 * 5 + k - 2005000 = k by omega, h]
theorem ls_ws {w : Cond} (h : w ∈ ab_ws) : w ∈ lw_tbl := (List.mem_filter.mp h).1
theorem ls_cls {s : State} {b : Nat} (hts : ∀ w ∈ lw_tbl, w.before #[Value.ref b] s = true) : ∃ D : va_G, ∀ (k : Nat) (q : vw_C), vwCl[k]? = some q → u_Kn s q.1 q.2.1 q.2.2 (D.1 k) (D.2 k) := by
  have hc : ∀ k : Nat, ∃ (x : ClassId × (Nat → Nat)), ∀ q : vw_C, vwCl[k]? = some q → u_Kn s q.1 q.2.1 q.2.2 x.1 x.2 := by
    intro k
    cases h : vwCl[k]? with
    | none => exact ⟨(0, fun _ => 0), fun q hq => by cases hq⟩
    | some q =>
      obtain ⟨C, T, N⟩ := q
      have hk := ab_cls h
      obtain ⟨cC, iS, hq⟩ := u_known (C := C) (T := T) (N := N) (n := N) hts (fun w hw => ls_ws (hk.1 w hw)) (hts _ (ls_ws hk.2.2.2.2.2.1))
      exact ⟨(cC, iS), fun q e => by cases e; exact hq⟩
  exact ⟨(fun k => (Classical.choose (hc k)).1, fun k => (Classical.choose (hc k)).2), fun k => Classical.choose_spec (hc k)⟩
theorem ls_K {s : State} {b L : Nat} {xs : Nat → Int32} (hts : ∀ w ∈ lw_tbl, w.before #[Value.ref b] s = true) (hX : va_X b L xs s s.heap) (hgv : (Jvm.Cond.and given_1 narrow_1).before #[Value.ref b] s = true) :
    ∃ (D : va_G) (cA : Nat → ClassId) (ad : Nat → Nat), ad 1000000 = b ∧ (∀ k, k < 500000 → ad k = s.heap.size + k) ∧ ab_K D cA ad (fun q => s.heap.size ≤ q) (ab_roL L xs) s := by
  have hs := flat_of_before _ hgv
  obtain ⟨D, hD⟩ := ls_cls hts
  obtain ⟨c0, a0⟩ := ls_arr (ty := .int) (fun C h => by cases h) (hts _ (ls_ws ab_w_aint))
  obtain ⟨c1, a1⟩ := ls_arr (ty := .byte) (fun C h => by cases h) (hts _ (ls_ws ab_w_abyte))
  obtain ⟨c2, a2⟩ := ls_arr (ty := .long) (fun C h => by cases h) (hts _ (ls_ws ab_w_along))
  obtain ⟨c3, a3⟩ := ls_arr (ty := .boolean) (fun C h => by cases h) (hts _ (ls_ws ab_w_aboolean))
  have o4 := hts (.arrayOver (.object RX1)) (List.mem_of_getElem? (i := 241) (by decide +kernel))
  have o5 := hts (.arrayOver (.object RX7)) (List.mem_of_getElem? (i := 142) (by decide +kernel))
  obtain ⟨c4, a4⟩ := ls_over o4
  obtain ⟨c5, a5⟩ := ls_over o5
  obtain ⟨t1, ht1, hx1⟩ := ls_row (t := .static "OverByTens" "TERM_LEAST" "[I") (x0 := 0) (x1 := 2) (x2 := 0) (x3 := 0) (hs _ (by decide +kernel)) (hs _ (by decide +kernel)) (hs _ (by decide +kernel)) (hs _ (by decide +kernel)) (hs _ (by decide +kernel)) (hs _ (by decide +kernel))
  obtain ⟨t2, ht2, hx2⟩ := ls_row (t := .static "OverByTens" "TERM_MOST" "[I") (x0 := 999) (x1 := 99) (x2 := 10) (x3 := 9) (hs _ (by decide +kernel)) (hs _ (by decide +kernel)) (hs _ (by decide +kernel)) (hs _ (by decide +kernel)) (hs _ (by decide +kernel)) (hs _ (by decide +kernel))
  have hini := hts (.initialized "OverByTens") (List.mem_of_getElem? (i := 111) (by decide +kernel))
  have hl1 := hts (.laysStatic "OverByTens" "TERM_LEAST" "[I") (List.mem_of_getElem? (i := 630) (by decide +kernel))
  have hl2 := hts (.laysStatic "OverByTens" "TERM_MOST" "[I") (List.mem_of_getElem? (i := 628) (by decide +kernel))
  have hnA : ∀ a : Nat, a < s.heap.size → ¬ (fun q : Nat => s.heap.size ≤ q) a := fun a h => Nat.not_le.mpr h
  refine ⟨D, fun k => match k with | 0 => c0 | 1 => c1 | 2 => c2 | 3 => c3 | 4 => c4 | _ => c5, ls_ad s b t1 t2, ls_ad_0 .., fun k hk => ls_ad_lo s b t1 t2 (by omega), ⟨hD, fun k q hk => ?_⟩, fun q hq => ?_, ⟨va_AO.of o4, va_AO.of o5⟩, fun q hq => ?_, fun q hq => ?_, fun j n f hj => ?_⟩
  · match k, hk with
    | 0, hk => cases hk; exact a0
    | 1, hk => cases hk; exact a1
    | 2, hk => cases hk; exact a2
    | 3, hk => cases hk; exact a3
    | 4, hk => cases hk; exact a4
    | 5, hk => cases hk; exact a5
    | n + 6, hk => cases hk
  · obtain ⟨p, hp⟩ := ab_zall_ok ls_nests q hq
    exact va_Nw.of rfl (hts _ (List.mem_of_getElem? (of_decide_eq_true hp)))
  · obtain ⟨p, hp⟩ := ab_zall_ok ls_strs q hq
    obtain ⟨q1, k, tx⟩ := q
    simp only [Bool.and_eq_true, decide_eq_true_eq, beq_iff_eq] at hp
    obtain ⟨h1, h2, h3⟩ := hp
    subst h2
    have hw := hts _ (List.mem_of_getElem? h1)
    obtain ⟨cur, hcur⟩ : ∃ cur, s.vm.findClass RX5 = some cur := by
      have hk := ab_cls_5
      obtain ⟨cC, iS, hq⟩ := u_known (C := RX5) (T := TX5) (N := 9) (n := 9) hts (fun w hw => ls_ws (hk.1 w hw)) (hts _ (ls_ws hk.2.2.2.2.2.1))
      exact ⟨cC, hq.2.1⟩
    obtain ⟨-, -, -, a, -, -, -, -, -, hev⟩ := Cond.stringRef_spec (cls := RX5) hcur hw
    have hev' : (Term.string RX5 k).eval #[] s none [] s = some (.ref a) := hev
    show vk_R RX5 k tx (ls_ad s b t1 t2 (2000000 + 1000 * 5 + k)) s
    rw [ls_ad_s b t1 t2 hev']
    exact vk_R.of hw hev
  · rcases List.mem_cons.mp hq with rfl | hq
    · show va_Z "OverByTens" "TERM_LEAST" "[I" (.ref (ls_ad s b t1 t2 1000001)) _ s s.heap
      rw [ls_ad_1]
      exact va_Zref hl1 hini ht1 hnA
    · rcases List.mem_cons.mp hq with rfl | hq
      · show va_Z "OverByTens" "TERM_MOST" "[I" (.ref (ls_ad s b t1 t2 1000002)) _ s s.heap
        rw [ls_ad_2]
        exact va_Zref hl2 hini ht2 hnA
      · cases hq
  · match j, hj with
    | 0, hj =>
      cases hj
      rw [show 1000000 + 0 = 1000000 from rfl, ls_ad_0]
      exact ⟨hX, hnA _ (ab_X_lt hX)⟩
    | 1, hj =>
      cases hj
      have h := hx1 ab_tl rfl rfl rfl rfl
      rw [show 1000000 + 1 = 1000001 from rfl, ls_ad_1]
      exact ⟨h, hnA _ (ab_X_lt h)⟩
    | 2, hj =>
      cases hj
      have h := hx2 ab_tm rfl rfl rfl rfl
      rw [show 1000000 + 2 = 1000002 from rfl, ls_ad_2]
      exact ⟨h, hnA _ (ab_X_lt h)⟩
    | n + 3, hj => cases hj
theorem ls_rt {ret : Option FieldType} {i : Instr} {st : List Value} {ps : List Prop} (h : ab_rt ret i st = some (ps, some (.int 1))) : i = .ireturn ∧ st = [.int 1] := by
  unfold ab_rt at h
  split at h
  all_goals first | (cases h; exact ⟨rfl, rfl⟩) | cases h
