/-! the law's start: what the Statement gives of it, and the claim -/
theorem ls_arr {s : State} {args : Array Value} {ty : FieldType} (hnt : ∀ C, ty ≠ .object C) (h : (Cond.arrayClass ty).before args s = true) : ∃ cA : ClassId, ArrOfT s cA ty ∧ va_RA s cA ty := by
  obtain ⟨c, k, comp, h1, h2, h3⟩ := Cond.arrayClass_spec h
  refine ⟨c, fun n z => ⟨(fun k h => by cases h), k, h2, comp, h3⟩, ?_⟩
  cases ty with
  | object C => exact absurd rfl (hnt C)
  | _ => exact h1
theorem ls_over {s : State} {args : Array Value} {C : String} (h : (Cond.arrayOver (.object C)).before args s = true) : ∃ cA : ClassId, ArrOfT s cA (.object C) ∧ va_RA s cA (.object C) := by
  obtain ⟨comp, c, k, h1, h2, h3, h4, h5⟩ := Cond.arrayOver_spec h
  exact ⟨c, fun n z => ⟨(fun k h => by cases h), k, h3, comp, h4⟩, k, comp, h3, h4, h1, h5⟩
theorem ls_eqi {args : Array Value} {s : State} {a : Term} {y : Int32} (h : (Cond.eq a (.int y)).before args s = true) : a.eval args s none [] s = some (.int y) := by
  obtain ⟨v, h1, h2⟩ := Cond.eq_one (first := s) (o := none) (s := s) (idx := []) h
  have h3 : (Term.int y).eval args s none [] s = some (.int y) := rfl
  rw [h3] at h2
  cases h2
  exact h1
theorem ls_row {args : Array Value} {s : State} {t : Term} {x0 x1 x2 x3 : Int32} (h1 : (Cond.arrayOf t .int).before args s = true) (h2 : (Cond.eq (.length t) (.int 4)).before args s = true)
    (e0 : (Cond.eq (.elem t (.int 0)) (.int x0)).before args s = true) (e1 : (Cond.eq (.elem t (.int 1)) (.int x1)).before args s = true) (e2 : (Cond.eq (.elem t (.int 2)) (.int x2)).before args s = true) (e3 : (Cond.eq (.elem t (.int 3)) (.int x3)).before args s = true) :
    ∃ a, t.eval args s none [] s = some (.ref a) ∧ ∀ f : Nat → Int32, f 0 = x0 → f 1 = x1 → f 2 = x2 → f 3 = x3 → va_X a 4 f s s.heap := by
  have hl := ls_eqi h2
  obtain ⟨a, cell, ht, harr, hsz⟩ := Term.length_spec hl
  have hsm : cell.slots.size < 2 ^ 31 := by
    simp only [Term.eval, ht, harr, Option.bind_eq_bind, Option.bind_some] at hl
    by_cases hlt : cell.slots.size < 2147483648
    · exact hlt
    · simp [hlt] at hl
  obtain ⟨hcell, hkn, -, -⟩ := State.arrayAt?_spec harr
  have hof := (Cond.arrayOf_spec h1 ht hcell).1
  have el : ∀ (j x : Int32), (Cond.eq (.elem t (.int j)) (.int x)).before args s = true → cell.slots[j.toNatClampNeg]? = some (.int x) := by
    intro j x h
    obtain ⟨a', j', cell', g1, g2, g3, -, g5⟩ := Term.elem_spec (ls_eqi h)
    rw [ht] at g1
    cases g1
    rw [harr] at g3
    cases g3
    cases g2
    exact g5
  have s4 : cell.slots.size = 4 := by
    have hz : (4 : Int32) = Int32.ofNat cell.slots.size := by
      injection hsz
    have h5 := Int32.toInt_ofNat_small hsm
    rw [← hz, show (4 : Int32).toInt = 4 from by decide] at h5
    omega
  refine ⟨a, ht, fun f f0 f1 f2 f3 => ⟨cell, hcell, hof, hkn, s4, fun j hj => ?_⟩⟩
  match j, hj with
  | 0, _ => rw [f0]; exact el 0 x0 e0
  | 1, _ => rw [f1]; exact el 1 x1 e1
  | 2, _ => rw [f2]; exact el 2 x2 e2
  | 3, _ => rw [f3]; exact el 3 x3 e3
  | n + 4, h => exact absurd h (by omega)
theorem ls_nests : ab_zall (fun (q : String × Nat × MethodName × String) p => decide (lw_tbl[p]? = some (.methodLinkNest q.1 q.2.1 q.2.2.1 q.2.2.2))) ab_nests [137, 244, 262, 268, 316, 321, 323, 349, 354, 356, 436, 603] = true := by decide +kernel
theorem ls_strs : ab_zall (fun (q : Nat × Nat × Nat × String) p => decide (lw_tbl[p]? = some (.stringRef (ab_cn q.2.1) q.2.2.1 q.2.2.2))) ab_strK [687, 740, 741, 742, 783, 784, 785, 786, 787, 788, 789, 794, 795, 796, 797, 798, 807, 808, 813, 818, 831, 832, 837, 842, 843, 844, 845] = true := by decide +kernel
def ls_ad (s : State) (b t1 t2 : Nat) (k : Nat) : Nat := if k < 1000000 then s.heap.size + k else if k = 1000000 then b else if k = 1000001 then t1 else if k = 1000002 then t2 else match ab_lk ab_strK k with
  | some q => (match (Term.string RX5 q.2.1).eval #[] s none [] s with
    | some (.ref a) => a
    | _ => 0)
  | none => 0
theorem ls_ad_lo (s : State) (b t1 t2 : Nat) {k : Nat} (h : k < 1000000) : ls_ad s b t1 t2 k = s.heap.size + k := if_pos h
theorem ls_ad_0 (s : State) (b t1 t2 : Nat) : ls_ad s b t1 t2 1000000 = b := by unfold ls_ad; rw [if_neg (by omega), if_pos rfl]
theorem ls_ad_1 (s : State) (b t1 t2 : Nat) : ls_ad s b t1 t2 1000001 = t1 := by unfold ls_ad; rw [if_neg (by omega), if_neg (by omega), if_pos rfl]
theorem ls_ad_2 (s : State) (b t1 t2 : Nat) : ls_ad s b t1 t2 1000002 = t2 := by unfold ls_ad; rw [if_neg (by omega), if_neg (by omega), if_neg (by omega), if_pos rfl]
theorem ls_ad_s {s : State} (b t1 t2 : Nat) {k a : Nat} {q : Nat × Nat × String} (hk : 1000003 ≤ k) (hq : ab_lk ab_strK k = some q) (h : (Term.string RX5 q.2.1).eval #[] s none [] s = some (.ref a)) : ls_ad s b t1 t2 k = a := by
  unfold ls_ad
  rw [if_neg (by omega), if_neg (by omega), if_neg (by omega), if_neg (by omega), hq]
  dsimp only
  rw [h]
def ls_t (x : String) : List Int32 := x.toList.map (fun c => Int32.ofNat c.toNat)
theorem ls_kq : ∀ q ∈ ab_strK, ab_lk ab_strK q.1 = some q.2 ∧ q.2.1 = 5 ∧ 1000003 ≤ q.1 ∧ (ls_t q.2.2.2).length < 2 ^ 31 := by decide +kernel
/-- what the Statement says of a string -/
def ls_cs (k : Nat) (t : List Int32) : List Cond := .exactly (.string RX5 k) "java/lang/String" :: .eq (.field (.string RX5 k) "java/lang/String" "coder" "B") (.int 0) :: .arrayOf (.field (.string RX5 k) "java/lang/String" "value" "[B") .byte :: .eq (.length (.field (.string RX5 k) "java/lang/String" "value" "[B")) (.int (Int32.ofNat t.length)) :: (List.range t.length).map (fun j => .eq (.elem (.field (.string RX5 k) "java/lang/String" "value" "[B") (.int (Int32.ofNat j))) (.int (t.getD j 0)))
theorem ls_all : ((flatC (Jvm.Cond.and given_1 narrow_1)).drop 43).take 221 = ab_strK.flatMap (fun q => ls_cs q.2.2.1 (ls_t q.2.2.2)) := by decide +kernel
theorem ls_in {q : Nat × Nat × Nat × String} (hq : q ∈ ab_strK) {c : Cond} (hc : c ∈ ls_cs q.2.2.1 (ls_t q.2.2.2)) : c ∈ flatC (Jvm.Cond.and given_1 narrow_1) := by
  have h : c ∈ ((flatC (Jvm.Cond.and given_1 narrow_1)).drop 43).take 221 := by
    rw [ls_all]
    exact List.mem_flatMap.mpr ⟨q, hq, hc⟩
  exact List.mem_of_mem_drop (List.mem_of_mem_take h)
theorem ls_two {v : Value} (h : v.isRef = true) : v = .null ∨ ∃ a : Nat, v = .ref a := by
  cases v with
  | null => exact Or.inl rfl
  | ref a => exact Or.inr ⟨a, rfl⟩
  | _ => cases h
theorem ls_str {args : Array Value} {s : State} {k : Nat} {t : List Int32} {A : Nat → Prop} (hN : t.length < 2 ^ 31) (h : ∀ c ∈ ls_cs k t, c.before args s = true) (hA : ∀ a : Nat, a < s.heap.size → ¬ A a) : ∃ a : Nat, (Term.string RX5 k).eval args s none [] s = some (.ref a) ∧ js_S a t A s s.heap := by
  have h1 := h (.exactly (.string RX5 k) "java/lang/String") (.head _)
  have h2 := h (.eq (.field (.string RX5 k) "java/lang/String" "coder" "B") (.int 0)) (.tail _ (.head _))
  have h3 := h (.arrayOf (.field (.string RX5 k) "java/lang/String" "value" "[B") .byte) (.tail _ (.tail _ (.head _)))
  have h4 := h (.eq (.length (.field (.string RX5 k) "java/lang/String" "value" "[B")) (.int (Int32.ofNat t.length))) (.tail _ (.tail _ (.tail _ (.head _))))
  have h5 : ∀ j : Nat, j < t.length → (Cond.eq (.elem (.field (.string RX5 k) "java/lang/String" "value" "[B") (.int (Int32.ofNat j))) (.int (t.getD j 0))).before args s = true := fun j hj => h _ (.tail _ (.tail _ (.tail _ (.tail _ (List.mem_map.mpr ⟨j, List.mem_range.mpr hj, rfl⟩)))))
  obtain ⟨a, c, cA, kA, q1, q2, q3, q4, q5, q6, -⟩ := Cond.exactly_spec (args := args) (first := s) (o := none) (s := s) (idx := []) (t := .string RX5 k) (cls := "java/lang/String") h1
  obtain ⟨v, ht, hT⟩ := va_Tof (f := fun j => .int (t.getD j 0)) (A := A) hN h3 (va_eqt h4) (fun j hj => va_eqt (h5 j hj)) hA
  exact ⟨a, q1, ⟨cA, q3, q5, by rw [q6]; exact q2, hA a (Array.getElem?_eq_some_iff.mp q3).1⟩, vk_OFof q1 (va_eqt h2) hA, v, vk_OFof q1 ht hA, hT⟩
theorem ls_ws {w : Cond} (h : w ∈ ab_ws) : w ∈ lw_tbl := (List.mem_filter.mp h).1
theorem ls_cls {s : State} {b : Nat} (hts : ∀ w ∈ lw_tbl, w.before #[Value.ref b] s = true) : ∃ D : va_G, ∀ (k : Nat) (q : vw_C), vwCl[k]? = some q → u_Kn s q.1 q.2.1 q.2.2 (D.1 k) (D.2 k) := by
  have hc : ∀ k : Nat, ∃ (x : ClassId × (Nat → Nat)), ∀ q : vw_C, vwCl[k]? = some q → u_Kn s q.1 q.2.1 q.2.2 x.1 x.2 := by
    intro k
    cases h : vwCl[k]? with
    | none => exact ⟨(0, fun _ => 0), fun q hq => by cases hq⟩
    | some q =>
      obtain ⟨C, T, N⟩ := q
      have hk := ab_cls h
      obtain ⟨cC, iS, hq⟩ := u_known (C := C) (T := T) (N := N) (n := N) hts (fun w hw => ls_ws (hk.1 w hw)) (hts _ (ls_ws hk.2.2.2.2.2.1))
      exact ⟨(cC, iS), fun q e => by cases e; exact hq⟩
  exact ⟨(fun k => (Classical.choose (hc k)).1, fun k => (Classical.choose (hc k)).2), fun k => Classical.choose_spec (hc k)⟩
theorem ls_K {s : State} {b L : Nat} {xs : Nat → Int32} (hts : ∀ w ∈ lw_tbl, w.before #[Value.ref b] s = true) (hX : va_X b L xs s s.heap) (hgv : (Jvm.Cond.and given_1 narrow_1).before #[Value.ref b] s = true) :
    ∃ (D : va_G) (cA : Nat → ClassId) (ad : Nat → Nat), ad 1000000 = b ∧ (∀ k, k < 500000 → ad k = s.heap.size + k) ∧ ab_K D cA ad (fun q => s.heap.size ≤ q) (ab_roL L xs) s := by
  have hs := flat_of_before _ hgv
  obtain ⟨D, hD⟩ := ls_cls hts
  obtain ⟨c0, a0⟩ := ls_arr (ty := .int) (fun C h => by cases h) (hts _ (ls_ws ab_w_aint))
  obtain ⟨c1, a1⟩ := ls_arr (ty := .byte) (fun C h => by cases h) (hts _ (ls_ws ab_w_abyte))
  obtain ⟨c2, a2⟩ := ls_arr (ty := .long) (fun C h => by cases h) (hts _ (ls_ws ab_w_along))
  obtain ⟨c3, a3⟩ := ls_arr (ty := .boolean) (fun C h => by cases h) (hts _ (ls_ws ab_w_aboolean))
  have o4 := hts (.arrayOver (.object RX1)) (List.mem_of_getElem? (i := 241) (by decide +kernel))
  have o5 := hts (.arrayOver (.object RX7)) (List.mem_of_getElem? (i := 142) (by decide +kernel))
  obtain ⟨c4, a4⟩ := ls_over o4
  obtain ⟨c5, a5⟩ := ls_over o5
  obtain ⟨t1, ht1, hx1⟩ := ls_row (t := .static "OverByTens" "TERM_LEAST" "[I") (x0 := 0) (x1 := 2) (x2 := 0) (x3 := 0) (hs _ (by decide +kernel)) (hs _ (by decide +kernel)) (hs _ (by decide +kernel)) (hs _ (by decide +kernel)) (hs _ (by decide +kernel)) (hs _ (by decide +kernel))
  obtain ⟨t2, ht2, hx2⟩ := ls_row (t := .static "OverByTens" "TERM_MOST" "[I") (x0 := 999) (x1 := 99) (x2 := 10) (x3 := 9) (hs _ (by decide +kernel)) (hs _ (by decide +kernel)) (hs _ (by decide +kernel)) (hs _ (by decide +kernel)) (hs _ (by decide +kernel)) (hs _ (by decide +kernel))
  have hini := hts (.initialized "OverByTens") (List.mem_of_getElem? (i := 111) (by decide +kernel))
  have hl1 := hts (.laysStatic "OverByTens" "TERM_LEAST" "[I") (List.mem_of_getElem? (i := 630) (by decide +kernel))
  have hl2 := hts (.laysStatic "OverByTens" "TERM_MOST" "[I") (List.mem_of_getElem? (i := 628) (by decide +kernel))
  have hl3 := hts (.laysStatic "java/lang/String" "COMPACT_STRINGS" "Z") (List.mem_of_getElem? (i := 701) (by decide +kernel))
  have hl4 := hts (.laysStatic "jdk/internal/util/Preconditions" "SIOOBE_FORMATTER" "Ljava/util/function/BiFunction;") (List.mem_of_getElem? (i := 717) (by decide +kernel))
  have hi3 := hts (.initialized "java/lang/String") (List.mem_of_getElem? (i := 122) (by decide +kernel))
  have hi4 := hts (.initialized "jdk/internal/util/Preconditions") (List.mem_of_getElem? (i := 124) (by decide +kernel))
  have hv3 := ls_eqi (hs (.eq (.static "java/lang/String" "COMPACT_STRINGS" "Z") (.int 1)) (by decide +kernel))
  obtain ⟨v4, hv4, hr4⟩ := Cond.isRef_spec (show (Cond.isRef (.static "jdk/internal/util/Preconditions" "SIOOBE_FORMATTER" "Ljava/util/function/BiFunction;")).before #[Value.ref b] s = true from hs _ (by decide +kernel))
  have hnA : ∀ a : Nat, a < s.heap.size → ¬ (fun q : Nat => s.heap.size ≤ q) a := fun a h => Nat.not_le.mpr h
  refine ⟨D, fun k => match k with | 0 => c0 | 1 => c1 | 2 => c2 | 3 => c3 | 4 => c4 | _ => c5, ls_ad s b t1 t2, ls_ad_0 .., fun k hk => ls_ad_lo s b t1 t2 (by omega), ⟨hD, fun k q hk => ?_⟩, fun q hq => ?_, ⟨va_AO.of o4, va_AO.of o5⟩, ⟨fun q hq => ?_, ⟨va_Zof hl3 hi3 hv3 hnA, v4, ls_two hr4, va_Zof hl4 hi4 hv4 hnA⟩, fun q hq => ?_⟩, fun q hq => ?_, fun j n f hj => ?_⟩
  · match k, hk with
    | 0, hk => cases hk; exact a0
    | 1, hk => cases hk; exact a1
    | 2, hk => cases hk; exact a2
    | 3, hk => cases hk; exact a3
    | 4, hk => cases hk; exact a4
    | 5, hk => cases hk; exact a5
    | n + 6, hk => cases hk
  · obtain ⟨p, hp⟩ := ab_zall_ok ls_nests q hq
    exact va_Nw.of rfl (hts _ (List.mem_of_getElem? (of_decide_eq_true hp)))
  · obtain ⟨p, hp⟩ := ab_zall_ok ls_strs q hq
    obtain ⟨q0, q1, k, tx⟩ := q
    obtain ⟨e1, e2, e3, -⟩ := ls_kq _ hq
    dsimp only at e1 e2 e3
    subst e2
    have hw := hts _ (List.mem_of_getElem? (of_decide_eq_true hp))
    obtain ⟨cur, hcur⟩ : ∃ cur, s.vm.findClass RX5 = some cur := by
      have hk := ab_cls_5
      obtain ⟨cC, iS, hq⟩ := u_known (C := RX5) (T := TX5) (N := 9) (n := 9) hts (fun w hw => ls_ws (hk.1 w hw)) (hts _ (ls_ws hk.2.2.2.2.2.1))
      exact ⟨cC, hq.2.1⟩
    obtain ⟨-, -, -, a, -, -, -, -, -, hev⟩ := Cond.stringRef_spec (cls := RX5) hcur hw
    have hev' : (Term.string RX5 k).eval #[] s none [] s = some (.ref a) := hev
    show vk_R RX5 k tx (ls_ad s b t1 t2 q0) s
    rw [ls_ad_s b t1 t2 e3 e1 hev']
    exact vk_R.of hw hev
  · unfold ab_txt at hq
    obtain ⟨x, hx, rfl⟩ := List.mem_map.mp hq
    obtain ⟨e1, e2, e3, e4⟩ := ls_kq x hx
    obtain ⟨a, hev, hS⟩ := ls_str (k := x.2.2.1) (t := ls_t x.2.2.2) (A := fun q => s.heap.size ≤ q) e4 (fun c hc => hs c (ls_in hx hc)) hnA
    have hev' : (Term.string RX5 x.2.2.1).eval #[] s none [] s = some (.ref a) := hev
    show js_S (ls_ad s b t1 t2 x.1) (ls_t x.2.2.2) _ s s.heap
    rw [ls_ad_s b t1 t2 e3 e1 hev']
    exact hS
  · rcases List.mem_cons.mp hq with rfl | hq
    · show va_Z "OverByTens" "TERM_LEAST" "[I" (.ref (ls_ad s b t1 t2 1000001)) _ s s.heap
      rw [ls_ad_1]
      exact va_Zref hl1 hini ht1 hnA
    · rcases List.mem_cons.mp hq with rfl | hq
      · show va_Z "OverByTens" "TERM_MOST" "[I" (.ref (ls_ad s b t1 t2 1000002)) _ s s.heap
        rw [ls_ad_2]
        exact va_Zref hl2 hini ht2 hnA
      · cases hq
  · match j, hj with
    | 0, hj =>
      cases hj
      rw [show 1000000 + 0 = 1000000 from rfl, ls_ad_0]
      exact ⟨hX, hnA _ (ab_X_lt hX)⟩
    | 1, hj =>
      cases hj
      have h := hx1 ab_tl rfl rfl rfl rfl
      rw [show 1000000 + 1 = 1000001 from rfl, ls_ad_1]
      exact ⟨h, hnA _ (ab_X_lt h)⟩
    | 2, hj =>
      cases hj
      have h := hx2 ab_tm rfl rfl rfl rfl
      rw [show 1000000 + 2 = 1000002 from rfl, ls_ad_2]
      exact ⟨h, hnA _ (ab_X_lt h)⟩
    | n + 3, hj => cases hj
theorem ls_rt {ret : Option FieldType} {i : Instr} {st : List Value} {ps : List Prop} (h : ab_rt ret i st = some (ps, some (.int 1))) : i = .ireturn ∧ st = [.int 1] := by
  unfold ab_rt at h
  split at h
  all_goals first | (cases h; exact ⟨rfl, rfl⟩) | cases h
