/-! the strings' own methods: String.length, String.charAt, and what they call -/
def jy_L : MethodName := ⟨"java/lang/String", "length", "()I"⟩
def jb_L : ByteArray := ⟨#[0x2a, 0xb4, 0x00, 0x09, 0xbe, 0x2a, 0xb6, 0x01, 0x4f, 0x7a, 0xac]⟩
theorem jw_L : Cond.code jy_L jb_L 1 (some .int) ∈ ab_ws := ab_has_ok (p := 695) (by decide +kernel)
def jy_C : MethodName := ⟨"java/lang/String", "coder", "()B"⟩
def jb_C : ByteArray := ⟨#[0xb2, 0x00, 0x26, 0x99, 0x00, 0x0a, 0x2a, 0xb4, 0x00, 0x0f, 0xa7, 0x00, 0x04, 0x04, 0xac]⟩
theorem jw_C : Cond.code jy_C jb_C 1 (some .byte) ∈ ab_ws := ab_has_ok (p := 699) (by decide +kernel)
def jy_A : MethodName := ⟨"java/lang/String", "charAt", "(I)C"⟩
def jb_A : ByteArray := ⟨#[0x2a, 0xb6, 0x01, 0xec, 0x99, 0x00, 0x0c, 0x2a, 0xb4, 0x00, 0x09, 0x1b, 0xb8, 0x01, 0xef, 0xac, 0x2a, 0xb4, 0x00, 0x09, 0x1b, 0xb8, 0x01, 0xf2, 0xac]⟩
theorem jw_A : Cond.code jy_A jb_A 2 (some .char) ∈ ab_ws := ab_has_ok (p := 705) (by decide +kernel)
def jy_I : MethodName := ⟨"java/lang/String", "isLatin1", "()Z"⟩
def jb_I : ByteArray := ⟨#[0xb2, 0x00, 0x26, 0x99, 0x00, 0x0e, 0x2a, 0xb4, 0x00, 0x0f, 0x9a, 0x00, 0x07, 0x04, 0xa7, 0x00, 0x04, 0x03, 0xac]⟩
theorem jw_I : Cond.code jy_I jb_I 1 (some .boolean) ∈ ab_ws := ab_has_ok (p := 709) (by decide +kernel)
def jy_B : MethodName := ⟨"java/lang/StringLatin1", "charAt", "([BI)C"⟩
def jb_B : ByteArray := ⟨#[0x1b, 0x2a, 0xbe, 0xb8, 0x00, 0x09, 0x2a, 0x1b, 0x33, 0x11, 0x00, 0xff, 0x7e, 0x92, 0xac]⟩
theorem jw_B : Cond.code jy_B jb_B 2 (some .char) ∈ ab_ws := ab_has_ok (p := 712) (by decide +kernel)
def jy_K : MethodName := ⟨"java/lang/String", "checkIndex", "(II)V"⟩
def jb_K : ByteArray := ⟨#[0x1a, 0x1b, 0xb2, 0x04, 0x1d, 0xb8, 0x04, 0x23, 0x57, 0xb1]⟩
theorem jw_K : Cond.code jy_K jb_K 2 (none) ∈ ab_ws := ab_has_ok (p := 715) (by decide +kernel)
def jy_P : MethodName := ⟨"jdk/internal/util/Preconditions", "checkIndex", "(IILjava/util/function/BiFunction;)I"⟩
def jb_P : ByteArray := ⟨#[0x1a, 0x9b, 0x00, 0x08, 0x1a, 0x1b, 0xa1, 0x00, 0x0a, 0x2c, 0x1a, 0x1b, 0xb8, 0x00, 0x5f, 0xbf, 0x1a, 0xac]⟩
theorem jw_P : Cond.code jy_P jb_P 3 (some .int) ∈ ab_ws := ab_has_ok (p := 720) (by decide +kernel)
theorem jw_istr : (Cond.initialized "java/lang/String" : Cond) ∈ ab_ws := ab_has_ok (p := 122) (by decide +kernel)
theorem jw_isl1 : (Cond.initialized "java/lang/StringLatin1" : Cond) ∈ ab_ws := ab_has_ok (p := 123) (by decide +kernel)
theorem jw_ipre : (Cond.initialized "jdk/internal/util/Preconditions" : Cond) ∈ ab_ws := ab_has_ok (p := 124) (by decide +kernel)
theorem jw_lL : (Cond.methodLink (ab_cn 5) 205 jy_L : Cond) ∈ ab_ws := ab_has_ok (p := 692) (by decide +kernel)
theorem jw_iL : (Cond.instanceMethod jy_L : Cond) ∈ ab_ws := ab_has_ok (p := 693) (by decide +kernel)
theorem jw_sL : (Cond.selects "java/lang/String" jy_L jy_L : Cond) ∈ ab_ws := ab_has_ok (p := 694) (by decide +kernel)
theorem jw_lC : (Cond.methodLink "java/lang/String" 335 jy_C : Cond) ∈ ab_ws := ab_has_ok (p := 696) (by decide +kernel)
theorem jw_iC : (Cond.instanceMethod jy_C : Cond) ∈ ab_ws := ab_has_ok (p := 697) (by decide +kernel)
theorem jw_sC : (Cond.selects "java/lang/String" jy_C jy_C : Cond) ∈ ab_ws := ab_has_ok (p := 698) (by decide +kernel)
theorem jw_fz : (Cond.fieldLink "java/lang/String" 38 "java/lang/String" "COMPACT_STRINGS" "Z" : Cond) ∈ ab_ws := ab_has_ok (p := 700) (by decide +kernel)
theorem jw_lA : (Cond.methodLink (ab_cn 5) 209 jy_A : Cond) ∈ ab_ws := ab_has_ok (p := 702) (by decide +kernel)
theorem jw_iA : (Cond.instanceMethod jy_A : Cond) ∈ ab_ws := ab_has_ok (p := 703) (by decide +kernel)
theorem jw_sA : (Cond.selects "java/lang/String" jy_A jy_A : Cond) ∈ ab_ws := ab_has_ok (p := 704) (by decide +kernel)
theorem jw_lI : (Cond.methodLink "java/lang/String" 492 jy_I : Cond) ∈ ab_ws := ab_has_ok (p := 706) (by decide +kernel)
theorem jw_iI : (Cond.instanceMethod jy_I : Cond) ∈ ab_ws := ab_has_ok (p := 707) (by decide +kernel)
theorem jw_sI : (Cond.selects "java/lang/String" jy_I jy_I : Cond) ∈ ab_ws := ab_has_ok (p := 708) (by decide +kernel)
theorem jw_lB : (Cond.methodLink "java/lang/String" 495 jy_B : Cond) ∈ ab_ws := ab_has_ok (p := 710) (by decide +kernel)
theorem jw_tB : (Cond.static jy_B : Cond) ∈ ab_ws := ab_has_ok (p := 711) (by decide +kernel)
theorem jw_lK : (Cond.methodLink "java/lang/StringLatin1" 9 jy_K : Cond) ∈ ab_ws := ab_has_ok (p := 713) (by decide +kernel)
theorem jw_tK : (Cond.static jy_K : Cond) ∈ ab_ws := ab_has_ok (p := 714) (by decide +kernel)
theorem jw_ff : (Cond.fieldLink "java/lang/String" 1053 "jdk/internal/util/Preconditions" "SIOOBE_FORMATTER" "Ljava/util/function/BiFunction;" : Cond) ∈ ab_ws := ab_has_ok (p := 716) (by decide +kernel)
theorem jw_lP : (Cond.methodLink "java/lang/String" 1059 jy_P : Cond) ∈ ab_ws := ab_has_ok (p := 718) (by decide +kernel)
theorem jw_tP : (Cond.static jy_P : Cond) ∈ ab_ws := ab_has_ok (p := 719) (by decide +kernel)
theorem jw_fv : (Cond.fieldLink "java/lang/String" 9 "java/lang/String" "value" "[B" : Cond) ∈ ab_ws := ab_has_ok (p := 1766) (by decide +kernel)
theorem jw_fc : (Cond.fieldLink "java/lang/String" 15 "java/lang/String" "coder" "B" : Cond) ∈ ab_ws := ab_has_ok (p := 1767) (by decide +kernel)
theorem jd_C0 : decode jb_C 0 = .ok (.getstatic 38, 3) := by decide +kernel
theorem jd_C3 : decode jb_C 3 = .ok (.ifCond .eq 10, 3) := by decide +kernel
theorem jd_C6 : decode jb_C 6 = .ok (.aload_n 0, 1) := by decide +kernel
theorem jd_C7 : decode jb_C 7 = .ok (.getfield 15, 3) := by decide +kernel
theorem jd_C10 : decode jb_C 10 = .ok (.goto 4, 3) := by decide +kernel
theorem jd_C14 : decode jb_C 14 = .ok (.ireturn, 1) := by decide +kernel
theorem jd_L0 : decode jb_L 0 = .ok (.aload_n 0, 1) := by decide +kernel
theorem jd_L1 : decode jb_L 1 = .ok (.getfield 9, 3) := by decide +kernel
theorem jd_L4 : decode jb_L 4 = .ok (.arraylength, 1) := by decide +kernel
theorem jd_L5 : decode jb_L 5 = .ok (.aload_n 0, 1) := by decide +kernel
theorem jd_L6 : decode jb_L 6 = .ok (.invokevirtual 335, 3) := by decide +kernel
theorem jd_L9 : decode jb_L 9 = .ok (.ishr, 1) := by decide +kernel
theorem jd_L10 : decode jb_L 10 = .ok (.ireturn, 1) := by decide +kernel
theorem jd_I0 : decode jb_I 0 = .ok (.getstatic 38, 3) := by decide +kernel
theorem jd_I3 : decode jb_I 3 = .ok (.ifCond .eq 14, 3) := by decide +kernel
theorem jd_I6 : decode jb_I 6 = .ok (.aload_n 0, 1) := by decide +kernel
theorem jd_I7 : decode jb_I 7 = .ok (.getfield 15, 3) := by decide +kernel
theorem jd_I10 : decode jb_I 10 = .ok (.ifCond .ne 7, 3) := by decide +kernel
theorem jd_I13 : decode jb_I 13 = .ok (.iconst 1, 1) := by decide +kernel
theorem jd_I14 : decode jb_I 14 = .ok (.goto 4, 3) := by decide +kernel
theorem jd_I18 : decode jb_I 18 = .ok (.ireturn, 1) := by decide +kernel
theorem jd_A0 : decode jb_A 0 = .ok (.aload_n 0, 1) := by decide +kernel
theorem jd_A1 : decode jb_A 1 = .ok (.invokevirtual 492, 3) := by decide +kernel
theorem jd_A4 : decode jb_A 4 = .ok (.ifCond .eq 12, 3) := by decide +kernel
theorem jd_A7 : decode jb_A 7 = .ok (.aload_n 0, 1) := by decide +kernel
theorem jd_A8 : decode jb_A 8 = .ok (.getfield 9, 3) := by decide +kernel
theorem jd_A11 : decode jb_A 11 = .ok (.iload_n 1, 1) := by decide +kernel
theorem jd_A12 : decode jb_A 12 = .ok (.invokestatic 495, 3) := by decide +kernel
theorem jd_A15 : decode jb_A 15 = .ok (.ireturn, 1) := by decide +kernel
theorem jd_B0 : decode jb_B 0 = .ok (.iload_n 1, 1) := by decide +kernel
theorem jd_B1 : decode jb_B 1 = .ok (.aload_n 0, 1) := by decide +kernel
theorem jd_B2 : decode jb_B 2 = .ok (.arraylength, 1) := by decide +kernel
theorem jd_B3 : decode jb_B 3 = .ok (.invokestatic 9, 3) := by decide +kernel
theorem jd_B6 : decode jb_B 6 = .ok (.aload_n 0, 1) := by decide +kernel
theorem jd_B7 : decode jb_B 7 = .ok (.iload_n 1, 1) := by decide +kernel
theorem jd_B8 : decode jb_B 8 = .ok (.baload, 1) := by decide +kernel
theorem jd_B9 : decode jb_B 9 = .ok (.sipush 255, 3) := by decide +kernel
theorem jd_B12 : decode jb_B 12 = .ok (.iand, 1) := by decide +kernel
theorem jd_B13 : decode jb_B 13 = .ok (.i2c, 1) := by decide +kernel
theorem jd_B14 : decode jb_B 14 = .ok (.ireturn, 1) := by decide +kernel
theorem jd_K0 : decode jb_K 0 = .ok (.iload_n 0, 1) := by decide +kernel
theorem jd_K1 : decode jb_K 1 = .ok (.iload_n 1, 1) := by decide +kernel
theorem jd_K2 : decode jb_K 2 = .ok (.getstatic 1053, 3) := by decide +kernel
theorem jd_K5 : decode jb_K 5 = .ok (.invokestatic 1059, 3) := by decide +kernel
theorem jd_K8 : decode jb_K 8 = .ok (.pop, 1) := by decide +kernel
theorem jd_K9 : decode jb_K 9 = .ok (.return_, 1) := by decide +kernel
theorem jd_P0 : decode jb_P 0 = .ok (.iload_n 0, 1) := by decide +kernel
theorem jd_P1 : decode jb_P 1 = .ok (.ifCond .lt 8, 3) := by decide +kernel
theorem jd_P4 : decode jb_P 4 = .ok (.iload_n 0, 1) := by decide +kernel
theorem jd_P5 : decode jb_P 5 = .ok (.iload_n 1, 1) := by decide +kernel
theorem jd_P6 : decode jb_P 6 = .ok (.if_icmp .lt 10, 3) := by decide +kernel
theorem jd_P16 : decode jb_P 16 = .ok (.iload_n 0, 1) := by decide +kernel
theorem jd_P17 : decode jb_P 17 = .ok (.ireturn, 1) := by decide +kernel
def js_wm (y : MethodName) (b : ByteArray) (n : Nat) (r : Option FieldType) : List Cond := Cond.code y b n r :: ab_ws
theorem js_good {y : MethodName} {b : ByteArray} {n : Nat} {r : Option FieldType} (h : Cond.code y b n r ∈ ab_ws) : GoodIn ab_ws (js_wm y b n r) := by
  intro w hw
  have hm : w ∈ ab_ws := by
    rcases List.mem_cons.mp hw with e | e
    · rw [e]; exact h
    · exact e
  exact ⟨hm, good_of_word (List.mem_filter.mp hm).2⟩
def js_Q (v : Option Value) : Array Value → State → Outcome → State → Prop := fun _ st oc t => oc = .returned v ∧ t.heap = st.heap
def js_A : Nat → Prop := fun _ => False
theorem js_callg {p : Program} {l : Launch} {e : Env} {R : Room} {s : State} {m : MethodId} {args : Array Value} {below : List Frame} {meth : Method} {c : Code} {H : Heap} {locs : List Loc} {cells slots : Nat} {Q : State → Prop} {pc : Nat} {ls : Array Slot} {st0 rest : List Value} {a : Array Value} {v0 : Option Value}
    (hr : va_Run p l e R s m args below meth c H locs cells slots 0 0 (F0 m pc ls st0) rest (js_Q v0 a) js_A) (kk : W p l e R s m args below meth c H locs cells slots Q (F0 m (pc + 3) ls (v0.toList ++ rest))) : W p l e R s m args below meth c H locs cells slots Q (F0 m pc ls st0) := by
  intro T hT X
  obtain ⟨v, st₀, t, T', L, h0, X', hL, e1, e2, hq, st⟩ := hr T hT X
  obtain ⟨hv, hh⟩ := hq
  cases hv
  have hL0 : L = [] := by
    cases L with
    | nil => rfl
    | cons a b => exact absurd (hL a List.mem_cons_self) (fun z => z)
  subst hL0
  rw [List.append_nil] at X'
  obtain ⟨t2, a1, b1⟩ := kk T' (by rw [e1, hh, h0]) X'
  exact ⟨t2, st t2 a1, b1⟩
theorem js_no {A : Nat → Prop} : ∀ q, js_A q → A q := fun _ z => z.elim
theorem js_shr0 (x : Int32) : x >>> ((0 : Int32) &&& 31) = x := by
  rw [show ((0 : Int32) &&& 31) = 0 from by decide]
  exact Int32.shiftRight_zero
theorem js_nar : ∀ q ∈ ab_txt, q.2.length < 100 ∧ ∀ j, j < q.2.length → narrow .char (.int (ab_chr (q.2.getD j 0))) = .int (ab_chr (q.2.getD j 0)) := by decide +kernel
theorem js_in {i : Int32} {n : Nat} (h : vp_in i n) (hn : n < 100) : ¬ i < 0 ∧ i < Int32.ofNat n ∧ i.toNatClampNeg < n := by
  have h1 : ¬ i < 0 := fun z => h (Or.inl z)
  have h2 : i.toNatClampNeg < n := Nat.lt_of_not_le (fun z => h (Or.inr z))
  refine ⟨h1, ?_, h2⟩
  rw [Int32.lt_iff_toInt_lt, Int32.toInt_ofNat_of_lt (by omega)]
  have e : i.toNatClampNeg = i.toInt.toNat := rfl
  omega
theorem js_coder (l : Launch) (a : Nat) (t : List Int32) : Met l jy_C (js_wm jy_C jb_C 1 (some .byte)) { frames := 0, cells := 0, slots := 0, locals := 0 } (va_Pc [.ref a] (fun U => js_Z js_A U U.heap ∧ js_S a t js_A U U.heap)) (js_Q (some (.int 0))) 0 0 js_A := by
  refine Met.ofW (cc := jb_C) (maxL := 1) (ret := some .byte) (by decide) rfl ?_
  intro p e s m args below meth c s₁ B hml hv
  obtain ⟨rfl, hv⟩ := hv
  have hx := B.exec
  have hb := B.bytes
  have hr := B.returns
  have hts0 := atoms_spec (ws := js_wm jy_C jb_C 1 (some .byte)) B.pre
  have hts : ∀ w ∈ ab_ws, w.before _ s = true := fun w h => hts0 w (List.mem_cons_of_mem _ h)
  have hown : s.vm.findClass "java/lang/String" = some m.cls := findClass_of_methodNamed B.named
  have hlocks := B.notSynchronized
  have hS : va_S js_A s.heap s.heap [] := va_S.rf
  have hl := lv_entry ([.ref a] : List Value) (n := 1) (Nat.le_of_ble_eq_true rfl)
  rw [lg_entry_eq]
  generalize (lg_sl ([.ref a] : List Value) ++ List.replicate (1 - (lg_sl ([.ref a] : List Value)).length) Slot.unset).toArray = ls at hl ⊢
  have hl : lv_has ls 1 [(0, .ref a)] := hl
  obtain ⟨hZ, hSt⟩ := hv
  refine va_gets hx hb hZ.1 hS hown (hts _ jw_fz) (fun _ h => h) jd_C0 ?_
  refine lv_if_eq hx hb jd_C3 (tgt := 13) (by decide) (fun z => absurd z (by decide)) (fun _ => ?_)
  refine lv_aload_n hx hb jd_C6 rfl (lv_at hl 0 rfl) ?_
  refine vk_getf hx hb hSt.2.1 hS hown (hts _ jw_fc) (fun _ h => h) jd_C7 ?_
  refine lv_goto hx hb jd_C10 (tgt := 14) (by decide) ?_
  exact W.zret hx hb hr (by decide) (fun t ht hW => ⟨rfl, ht⟩) (fun q hq => by cases hq) jd_C14
theorem js_latin (l : Launch) (a : Nat) (t : List Int32) : Met l jy_I (js_wm jy_I jb_I 1 (some .boolean)) { frames := 0, cells := 0, slots := 0, locals := 0 } (va_Pc [.ref a] (fun U => js_Z js_A U U.heap ∧ js_S a t js_A U U.heap)) (js_Q (some (.int 1))) 0 0 js_A := by
  refine Met.ofW (cc := jb_I) (maxL := 1) (ret := some .boolean) (by decide) rfl ?_
  intro p e s m args below meth c s₁ B hml hv
  obtain ⟨rfl, hv⟩ := hv
  have hx := B.exec
  have hb := B.bytes
  have hr := B.returns
  have hts0 := atoms_spec (ws := js_wm jy_I jb_I 1 (some .boolean)) B.pre
  have hts : ∀ w ∈ ab_ws, w.before _ s = true := fun w h => hts0 w (List.mem_cons_of_mem _ h)
  have hown : s.vm.findClass "java/lang/String" = some m.cls := findClass_of_methodNamed B.named
  have hlocks := B.notSynchronized
  have hS : va_S js_A s.heap s.heap [] := va_S.rf
  have hl := lv_entry ([.ref a] : List Value) (n := 1) (Nat.le_of_ble_eq_true rfl)
  rw [lg_entry_eq]
  generalize (lg_sl ([.ref a] : List Value) ++ List.replicate (1 - (lg_sl ([.ref a] : List Value)).length) Slot.unset).toArray = ls at hl ⊢
  have hl : lv_has ls 1 [(0, .ref a)] := hl
  obtain ⟨hZ, hSt⟩ := hv
  refine va_gets hx hb hZ.1 hS hown (hts _ jw_fz) (fun _ h => h) jd_I0 ?_
  refine lv_if_eq hx hb jd_I3 (tgt := 17) (by decide) (fun z => absurd z (by decide)) (fun _ => ?_)
  refine lv_aload_n hx hb jd_I6 rfl (lv_at hl 0 rfl) ?_
  refine vk_getf hx hb hSt.2.1 hS hown (hts _ jw_fc) (fun _ h => h) jd_I7 ?_
  refine lv_if_ne hx hb jd_I10 (tgt := 17) (by decide) (fun z => absurd rfl z) (fun _ => ?_)
  refine lv_iconst (v := 1) hx hb jd_I13 (by decide) ?_
  refine lv_goto hx hb jd_I14 (tgt := 18) (by decide) ?_
  exact W.zret hx hb hr (by decide) (fun t ht hW => ⟨rfl, ht⟩) (fun q hq => by cases hq) jd_I18
theorem js_length (l : Launch) (a : Nat) (t : List Int32) : Met l jy_L (js_wm jy_L jb_L 1 (some .int)) { frames := 1, cells := 0, slots := 0, locals := 20 } (va_Pc [.ref a] (fun U => js_Z js_A U U.heap ∧ js_S a t js_A U U.heap)) (js_Q (some (.int (Int32.ofNat t.length)))) 0 0 js_A := by
  refine Met.ofW (cc := jb_L) (maxL := 1) (ret := some .int) (by decide) rfl ?_
  intro p e s m args below meth c s₁ B hml hv
  obtain ⟨rfl, hv⟩ := hv
  have hx := B.exec
  have hb := B.bytes
  have hr := B.returns
  have hts0 := atoms_spec (ws := js_wm jy_L jb_L 1 (some .int)) B.pre
  have hts : ∀ w ∈ ab_ws, w.before _ s = true := fun w h => hts0 w (List.mem_cons_of_mem _ h)
  have hown : s.vm.findClass "java/lang/String" = some m.cls := findClass_of_methodNamed B.named
  have hlocks := B.notSynchronized
  have hS : va_S js_A s.heap s.heap [] := va_S.rf
  have hl := lv_entry ([.ref a] : List Value) (n := 1) (Nat.le_of_ble_eq_true rfl)
  rw [lg_entry_eq]
  generalize (lg_sl ([.ref a] : List Value) ++ List.replicate (1 - (lg_sl ([.ref a] : List Value)).length) Slot.unset).toArray = ls at hl ⊢
  have hl : lv_has ls 1 [(0, .ref a)] := hl
  obtain ⟨hZ, hSt⟩ := hv
  obtain ⟨hO, hC, v, hV, hT⟩ := id hSt
  refine lv_aload_n hx hb jd_L0 rfl (lv_at hl 0 rfl) ?_
  refine vk_getf hx hb hV hS hown (hts _ jw_fv) (fun _ h => h) jd_L1 ?_
  refine va_tlen hx hb hT hS rfl jd_L4 ?_
  refine lv_aload_n hx hb jd_L5 rfl (lv_at hl 0 rfl) ?_
  refine js_callg (v0 := some (.int 0)) (rest := [.int (Int32.ofNat t.length)]) (va_runV (As := []) (b := a) (C := "java/lang/String") (n := 0) ⟨hx, hb, hml, hown, hts⟩ (js_coder l a t) ⟨(callB_of 0 hts (js_good jw_C) rfl rfl rfl (hts _ jw_istr) (hts _ jw_lC) ⟨by decide, by decide, by decide +kernel⟩ ⟨by decide, by decide⟩), hts _ jw_iC, hts _ jw_sC⟩ ⟨fun a2 U g mk q => ⟨q.1, js_Z.moved (u := U) (U := U.calling g mk a2) (Vm.Alike.refl U.vm) q.2.1, js_S.moved (u := U) (U := U.calling g mk a2) (Vm.Alike.refl U.vm) q.2.2⟩, (by obtain ⟨cell, h1, h2, h3, -⟩ := hSt.1; exact ⟨cell, h1, h2, h3⟩), fun U hU hW => ⟨rfl, by rw [hU]; exact js_Z.moved hW.alike hZ, by rw [hU]; exact js_S.moved hW.alike hSt⟩⟩ rfl rfl hl.1 rfl (lv_room (Nat.le_of_ble_eq_true rfl)) jd_L6 ⟨Nat.le_refl _, Nat.le_refl _⟩) ?_
  refine W.eq (g2 := F0 m 9 ls [.int 0, .int (Int32.ofNat t.length)]) rfl ?_
  refine lv_ishr hx hb jd_L9 ?_
  rw [js_shr0]
  exact W.iret hx hb hr (fun t ht hW => ⟨rfl, ht⟩) (fun q hq => by cases hq) jd_L10
theorem js_pre (l : Launch) {i n : Int32} {f : Nat} (h0 : ¬ i < 0) (h1 : i < n) : Met l jy_P (js_wm jy_P jb_P 3 (some .int)) { frames := 0, cells := 0, slots := 0, locals := 0 } (va_Pc [.int i, .int n, .ref f] (fun U => True)) (js_Q (some (.int i))) 0 0 js_A := by
  refine Met.ofW (cc := jb_P) (maxL := 3) (ret := some .int) (by decide) rfl ?_
  intro p e s m args below meth c s₁ B hml hv
  obtain ⟨rfl, hv⟩ := hv
  have hx := B.exec
  have hb := B.bytes
  have hr := B.returns
  have hts0 := atoms_spec (ws := js_wm jy_P jb_P 3 (some .int)) B.pre
  have hts : ∀ w ∈ ab_ws, w.before _ s = true := fun w h => hts0 w (List.mem_cons_of_mem _ h)
  have hown : s.vm.findClass "jdk/internal/util/Preconditions" = some m.cls := findClass_of_methodNamed B.named
  have hlocks := B.notSynchronized
  have hS : va_S js_A s.heap s.heap [] := va_S.rf
  have hl := lv_entry ([.int i, .int n, .ref f] : List Value) (n := 3) (Nat.le_of_ble_eq_true rfl)
  rw [lg_entry_eq]
  generalize (lg_sl ([.int i, .int n, .ref f] : List Value) ++ List.replicate (3 - (lg_sl ([.int i, .int n, .ref f] : List Value)).length) Slot.unset).toArray = ls at hl ⊢
  have hl : lv_has ls 3 [(0, .int i), (1, .int n), (2, .ref f)] := hl
  refine lv_iload_n hx hb jd_P0 rfl (lv_at hl 0 rfl) ?_
  refine lv_if_lt hx hb jd_P1 (tgt := 9) (by decide) (fun z => absurd z h0) (fun _ => ?_)
  refine lv_iload_n hx hb jd_P4 rfl (lv_at hl 0 rfl) ?_
  refine lv_iload_n hx hb jd_P5 rfl (lv_at hl 1 rfl) ?_
  refine lv_icmp_lt hx hb jd_P6 (tgt := 16) (by decide) (fun _ => ?_) (fun z => absurd h1 z)
  refine lv_iload_n hx hb jd_P16 rfl (lv_at hl 0 rfl) ?_
  exact W.iret hx hb hr (fun t ht hW => ⟨rfl, ht⟩) (fun q hq => by cases hq) jd_P17
theorem js_preN (l : Launch) {i n : Int32} (h0 : ¬ i < 0) (h1 : i < n) : Met l jy_P (js_wm jy_P jb_P 3 (some .int)) { frames := 0, cells := 0, slots := 0, locals := 0 } (va_Pc [.int i, .int n, .null] (fun U => True)) (js_Q (some (.int i))) 0 0 js_A := by
  refine Met.ofW (cc := jb_P) (maxL := 3) (ret := some .int) (by decide) rfl ?_
  intro p e s m args below meth c s₁ B hml hv
  obtain ⟨rfl, hv⟩ := hv
  have hx := B.exec
  have hb := B.bytes
  have hr := B.returns
  have hts0 := atoms_spec (ws := js_wm jy_P jb_P 3 (some .int)) B.pre
  have hts : ∀ w ∈ ab_ws, w.before _ s = true := fun w h => hts0 w (List.mem_cons_of_mem _ h)
  have hown : s.vm.findClass "jdk/internal/util/Preconditions" = some m.cls := findClass_of_methodNamed B.named
  have hlocks := B.notSynchronized
  have hS : va_S js_A s.heap s.heap [] := va_S.rf
  have hl := lv_entry ([.int i, .int n, .null] : List Value) (n := 3) (Nat.le_of_ble_eq_true rfl)
  rw [lg_entry_eq]
  generalize (lg_sl ([.int i, .int n, .null] : List Value) ++ List.replicate (3 - (lg_sl ([.int i, .int n, .null] : List Value)).length) Slot.unset).toArray = ls at hl ⊢
  have hl : lv_has ls 3 [(0, .int i), (1, .int n), (2, .null)] := hl
  refine lv_iload_n hx hb jd_P0 rfl (lv_at hl 0 rfl) ?_
  refine lv_if_lt hx hb jd_P1 (tgt := 9) (by decide) (fun z => absurd z h0) (fun _ => ?_)
  refine lv_iload_n hx hb jd_P4 rfl (lv_at hl 0 rfl) ?_
  refine lv_iload_n hx hb jd_P5 rfl (lv_at hl 1 rfl) ?_
  refine lv_icmp_lt hx hb jd_P6 (tgt := 16) (by decide) (fun _ => ?_) (fun z => absurd h1 z)
  refine lv_iload_n hx hb jd_P16 rfl (lv_at hl 0 rfl) ?_
  exact W.iret hx hb hr (fun t ht hW => ⟨rfl, ht⟩) (fun q hq => by cases hq) jd_P17
theorem js_check (l : Launch) {i n : Int32} (h0 : ¬ i < 0) (h1 : i < n) : Met l jy_K (js_wm jy_K jb_K 2 (none)) { frames := 1, cells := 0, slots := 0, locals := 22 } (va_Pc [.int i, .int n] (fun U => js_Z js_A U U.heap)) (js_Q none) 0 0 js_A := by
  refine Met.ofW (cc := jb_K) (maxL := 2) (ret := none) (by decide) rfl ?_
  intro p e s m args below meth c s₁ B hml hv
  obtain ⟨rfl, hv⟩ := hv
  have hx := B.exec
  have hb := B.bytes
  have hr := B.returns
  have hts0 := atoms_spec (ws := js_wm jy_K jb_K 2 (none)) B.pre
  have hts : ∀ w ∈ ab_ws, w.before _ s = true := fun w h => hts0 w (List.mem_cons_of_mem _ h)
  have hown : s.vm.findClass "java/lang/String" = some m.cls := findClass_of_methodNamed B.named
  have hlocks := B.notSynchronized
  have hS : va_S js_A s.heap s.heap [] := va_S.rf
  have hl := lv_entry ([.int i, .int n] : List Value) (n := 2) (Nat.le_of_ble_eq_true rfl)
  rw [lg_entry_eq]
  generalize (lg_sl ([.int i, .int n] : List Value) ++ List.replicate (2 - (lg_sl ([.int i, .int n] : List Value)).length) Slot.unset).toArray = ls at hl ⊢
  have hl : lv_has ls 2 [(0, .int i), (1, .int n)] := hl
  obtain ⟨hZ1, f, hf, hZ2⟩ := hv
  rcases hf with rfl | ⟨f, rfl⟩
  · refine lv_iload_n hx hb jd_K0 rfl (lv_at hl 0 rfl) ?_
    refine lv_iload_n hx hb jd_K1 rfl (lv_at hl 1 rfl) ?_
    refine va_gets hx hb hZ2 hS hown (hts _ jw_ff) (fun _ h => h) jd_K2 ?_
    refine js_callg (v0 := some (.int i)) (rest := []) (va_runS (As := [.int i, .int n, .null]) (n := 3) ⟨hx, hb, hml, hown, hts⟩ (js_preN l h0 h1) ⟨(callB_of 3 hts (js_good jw_P) rfl rfl rfl (hts _ jw_ipre) (hts _ jw_lP) ⟨by decide, by decide, by decide +kernel⟩ ⟨by decide, by decide⟩), hts _ jw_tP⟩ ⟨fun a2 U g mk q => q, fun U hU hW => ⟨rfl, trivial⟩⟩ rfl rfl hl.1 rfl (lv_room (by decide)) jd_K5 ⟨Nat.le_refl _, Nat.le_refl _⟩) ?_
    refine W.eq (g2 := F0 m 8 ls [.int i]) rfl ?_
    refine lv_pop hx hb jd_K8 rfl ?_
    exact W.vret hx hb hr (fun t ht hW => ⟨rfl, ht⟩) (fun q hq => by cases hq) jd_K9
  · refine lv_iload_n hx hb jd_K0 rfl (lv_at hl 0 rfl) ?_
    refine lv_iload_n hx hb jd_K1 rfl (lv_at hl 1 rfl) ?_
    refine va_gets hx hb hZ2 hS hown (hts _ jw_ff) (fun _ h => h) jd_K2 ?_
    refine js_callg (v0 := some (.int i)) (rest := []) (va_runS (As := [.int i, .int n, .ref f]) (n := 3) ⟨hx, hb, hml, hown, hts⟩ (js_pre l h0 h1) ⟨(callB_of 3 hts (js_good jw_P) rfl rfl rfl (hts _ jw_ipre) (hts _ jw_lP) ⟨by decide, by decide, by decide +kernel⟩ ⟨by decide, by decide⟩), hts _ jw_tP⟩ ⟨fun a2 U g mk q => q, fun U hU hW => ⟨rfl, trivial⟩⟩ rfl rfl hl.1 rfl (lv_room (by decide)) jd_K5 ⟨Nat.le_refl _, Nat.le_refl _⟩) ?_
    refine W.eq (g2 := F0 m 8 ls [.int i]) rfl ?_
    refine lv_pop hx hb jd_K8 rfl ?_
    exact W.vret hx hb hr (fun t ht hW => ⟨rfl, ht⟩) (fun q hq => by cases hq) jd_K9
theorem js_lchar (l : Launch) {d : Nat} {i : Int32} {t : List Int32} (hi : vp_in i t.length) (hn : t.length < 100 ∧ ∀ j, j < t.length → narrow .char (.int (ab_chr (t.getD j 0))) = .int (ab_chr (t.getD j 0))) : Met l jy_B (js_wm jy_B jb_B 2 (some .char)) { frames := 2, cells := 0, slots := 0, locals := 43 } (va_Pc [.ref d, .int i] (fun U => js_Z js_A U U.heap ∧ va_T .byte d t.length (fun j => .int (t.getD j 0)) js_A U U.heap)) (js_Q (some (.int (ab_chr (t.getD i.toNatClampNeg 0))))) 0 0 js_A := by
  refine Met.ofW (cc := jb_B) (maxL := 2) (ret := some .char) (by decide) rfl ?_
  intro p e s m args below meth c s₁ B hml hv
  obtain ⟨rfl, hv⟩ := hv
  have hx := B.exec
  have hb := B.bytes
  have hr := B.returns
  have hts0 := atoms_spec (ws := js_wm jy_B jb_B 2 (some .char)) B.pre
  have hts : ∀ w ∈ ab_ws, w.before _ s = true := fun w h => hts0 w (List.mem_cons_of_mem _ h)
  have hown : s.vm.findClass "java/lang/StringLatin1" = some m.cls := findClass_of_methodNamed B.named
  have hlocks := B.notSynchronized
  have hS : va_S js_A s.heap s.heap [] := va_S.rf
  have hl := lv_entry ([.ref d, .int i] : List Value) (n := 2) (Nat.le_of_ble_eq_true rfl)
  rw [lg_entry_eq]
  generalize (lg_sl ([.ref d, .int i] : List Value) ++ List.replicate (2 - (lg_sl ([.ref d, .int i] : List Value)).length) Slot.unset).toArray = ls at hl ⊢
  have hl : lv_has ls 2 [(0, .ref d), (1, .int i)] := hl
  obtain ⟨hZ, hT⟩ := hv
  obtain ⟨h0, h1, h2⟩ := js_in hi hn.1
  refine lv_iload_n hx hb jd_B0 rfl (lv_at hl 1 rfl) ?_
  refine lv_aload_n hx hb jd_B1 rfl (lv_at hl 0 rfl) ?_
  refine va_tlen hx hb hT hS rfl jd_B2 ?_
  refine js_callg (v0 := none) (rest := []) (va_runS (As := [.int i, .int (Int32.ofNat t.length)]) (n := 2) ⟨hx, hb, hml, hown, hts⟩ (js_check l h0 h1) ⟨(callB_of 2 hts (js_good jw_K) rfl rfl rfl (hts _ jw_istr) (hts _ jw_lK) ⟨by decide, by decide, by decide +kernel⟩ ⟨by decide, by decide⟩), hts _ jw_tK⟩ ⟨fun a2 U g mk q => ⟨q.1, js_Z.moved (u := U) (U := U.calling g mk a2) (Vm.Alike.refl U.vm) q.2⟩, fun U hU hW => ⟨rfl, by show js_Z js_A U U.heap; rw [hU]; exact js_Z.moved hW.alike hZ⟩⟩ rfl rfl hl.1 rfl (lv_room (by decide)) jd_B3 ⟨Nat.le_refl _, Nat.le_refl _⟩) ?_
  refine W.eq (g2 := F0 m 6 ls []) rfl ?_
  refine lv_aload_n hx hb jd_B6 rfl (lv_at hl 0 rfl) ?_
  refine lv_iload_n hx hb jd_B7 rfl (lv_at hl 1 rfl) ?_
  refine va_tb hx hb hT hS hi rfl jd_B8 ?_
  refine lv_sipush (v := 255) hx hb jd_B9 (by decide) ?_
  refine lv_iand hx hb jd_B12 ?_
  refine lv_i2c (v := ab_chr (t.getD i.toNatClampNeg 0)) hx hb jd_B13 rfl ?_
  exact W.zret hx hb hr (hn.2 _ h2) (fun t ht hW => ⟨rfl, ht⟩) (fun q hq => by cases hq) jd_B14
theorem js_char (l : Launch) {a : Nat} {i : Int32} {t : List Int32} (hi : vp_in i t.length) (hn : t.length < 100 ∧ ∀ j, j < t.length → narrow .char (.int (ab_chr (t.getD j 0))) = .int (ab_chr (t.getD j 0))) : Met l jy_A (js_wm jy_A jb_A 2 (some .char)) { frames := 3, cells := 0, slots := 0, locals := 64 } (va_Pc [.ref a, .int i] (fun U => js_Z js_A U U.heap ∧ js_S a t js_A U U.heap)) (js_Q (some (.int (ab_chr (t.getD i.toNatClampNeg 0))))) 0 0 js_A := by
  refine Met.ofW (cc := jb_A) (maxL := 2) (ret := some .char) (by decide) rfl ?_
  intro p e s m args below meth c s₁ B hml hv
  obtain ⟨rfl, hv⟩ := hv
  have hx := B.exec
  have hb := B.bytes
  have hr := B.returns
  have hts0 := atoms_spec (ws := js_wm jy_A jb_A 2 (some .char)) B.pre
  have hts : ∀ w ∈ ab_ws, w.before _ s = true := fun w h => hts0 w (List.mem_cons_of_mem _ h)
  have hown : s.vm.findClass "java/lang/String" = some m.cls := findClass_of_methodNamed B.named
  have hlocks := B.notSynchronized
  have hS : va_S js_A s.heap s.heap [] := va_S.rf
  have hl := lv_entry ([.ref a, .int i] : List Value) (n := 2) (Nat.le_of_ble_eq_true rfl)
  rw [lg_entry_eq]
  generalize (lg_sl ([.ref a, .int i] : List Value) ++ List.replicate (2 - (lg_sl ([.ref a, .int i] : List Value)).length) Slot.unset).toArray = ls at hl ⊢
  have hl : lv_has ls 2 [(0, .ref a), (1, .int i)] := hl
  obtain ⟨hZ, hSt⟩ := hv
  obtain ⟨hO, hC, v, hV, hT⟩ := id hSt
  obtain ⟨h0, h1, h2⟩ := js_in hi hn.1
  refine lv_aload_n hx hb jd_A0 rfl (lv_at hl 0 rfl) ?_
  refine js_callg (v0 := some (.int 1)) (rest := []) (va_runV (As := []) (b := a) (C := "java/lang/String") (n := 0) ⟨hx, hb, hml, hown, hts⟩ (js_latin l a t) ⟨(callB_of 0 hts (js_good jw_I) rfl rfl rfl (hts _ jw_istr) (hts _ jw_lI) ⟨by decide, by decide, by decide +kernel⟩ ⟨by decide, by decide⟩), hts _ jw_iI, hts _ jw_sI⟩ ⟨fun a2 U g mk q => ⟨q.1, js_Z.moved (u := U) (U := U.calling g mk a2) (Vm.Alike.refl U.vm) q.2.1, js_S.moved (u := U) (U := U.calling g mk a2) (Vm.Alike.refl U.vm) q.2.2⟩, (by obtain ⟨cell, h1, h2, h3, -⟩ := hSt.1; exact ⟨cell, h1, h2, h3⟩), fun U hU hW => ⟨rfl, by rw [hU]; exact js_Z.moved hW.alike hZ, by rw [hU]; exact js_S.moved hW.alike hSt⟩⟩ rfl rfl hl.1 rfl (lv_room (by decide)) jd_A1 ⟨Nat.le_refl _, Nat.le_refl _⟩) ?_
  refine W.eq (g2 := F0 m 4 ls [.int 1]) rfl ?_
  refine lv_if_eq hx hb jd_A4 (tgt := 16) (by decide) (fun z => absurd z (by decide)) (fun _ => ?_)
  refine lv_aload_n hx hb jd_A7 rfl (lv_at hl 0 rfl) ?_
  refine vk_getf hx hb hV hS hown (hts _ jw_fv) (fun _ h => h) jd_A8 ?_
  refine lv_iload_n hx hb jd_A11 rfl (lv_at hl 1 rfl) ?_
  refine js_callg (v0 := some (.int (ab_chr (t.getD i.toNatClampNeg 0)))) (rest := []) (va_runS (As := [.ref v, .int i]) (n := 2) ⟨hx, hb, hml, hown, hts⟩ (js_lchar l (t := t) hi hn) ⟨(callB_of 2 hts (js_good jw_B) rfl rfl rfl (hts _ jw_isl1) (hts _ jw_lB) ⟨by decide, by decide, by decide +kernel⟩ ⟨by decide, by decide⟩), hts _ jw_tB⟩ ⟨fun a2 U g mk q => ⟨q.1, js_Z.moved (u := U) (U := U.calling g mk a2) (Vm.Alike.refl U.vm) q.2.1, va_T.moved (u := U) (U := U.calling g mk a2) (Vm.Alike.refl U.vm) q.2.2⟩, fun U hU hW => ⟨rfl, by rw [hU]; exact js_Z.moved hW.alike hZ, by rw [hU]; exact va_T.moved hW.alike hT⟩⟩ rfl rfl hl.1 rfl (lv_room (by decide)) jd_A12 ⟨Nat.le_refl _, Nat.le_refl _⟩) ?_
  refine W.eq (g2 := F0 m 15 ls [.int (ab_chr (t.getD i.toNatClampNeg 0))]) rfl ?_
  exact W.zret hx hb hr (hn.2 _ h2) (fun t ht hW => ⟨rfl, ht⟩) (fun q hq => by cases hq) jd_A15
theorem js_len_ok {p : Program} {l : Launch} {e : Env} {R : Room} {s : State} {m : MethodId} {args : Array Value} {below : List Frame} {meth : Method} {c : Code} {H : Heap} {locs : List Loc} {cells slots : Nat} {Q : State → Prop} {cc : ByteArray} {nL pc : Nat} {ls : Array Slot} {A : Nat → Prop} {a : Nat} {t : List Int32} {r : List Value} (hx : p.tables.exec = Jvm.exec) (hb : c.code = cc) (hml : c.maxLocals = nL) (hown : s.vm.findClass (ab_cn 5) = some m.cls) (hts : ∀ w ∈ ab_ws, w.before args s = true) (hls : ls.size = nL) (hZ : js_Z A s s.heap) (hSt : js_S a t A s s.heap) (hS : va_S A s.heap H locs) (hr : (r.map fun v => v.category).sum ≤ 8) (hfr : 4 ≤ R.frames) (hlo : 100 ≤ R.locals) (hf : cells ≤ R.cells ∧ slots ≤ R.slots) (hdg : decode cc pc = .ok (.invokevirtual 205, 3))
    (kk : W p l e R s m args below meth c H locs cells slots Q (F0 m (pc + 3) ls (.int (Int32.ofNat t.length) :: r))) : W p l e R s m args below meth c H locs cells slots Q (F0 m pc ls (.ref a :: r)) :=
  js_callg (v0 := some (.int (Int32.ofNat t.length))) (rest := r) (va_runV (As := []) (b := a) (C := "java/lang/String") (n := 0) ⟨hx, hb, hml, hown, hts⟩ (js_length l a t) ⟨(callB_of 0 hts (js_good jw_L) rfl rfl rfl (hts _ jw_istr) (hts _ jw_lL) ⟨by decide, by decide, by decide +kernel⟩ ⟨by show 1 + 1 ≤ R.frames; omega, by show 8 + (1 + 11) + 20 ≤ R.locals; omega⟩), hts _ jw_iL, hts _ jw_sL⟩ ⟨fun a2 U g mk q => ⟨q.1, js_Z.moved (u := U) (U := U.calling g mk a2) (Vm.Alike.refl U.vm) q.2.1, js_S.moved (u := U) (U := U.calling g mk a2) (Vm.Alike.refl U.vm) q.2.2⟩, (by obtain ⟨cell, h1, h2, h3, -⟩ := hSt.1.kept (fun q h1 h2 => hS.2.1 q h1 h2); exact ⟨cell, h1, h2, h3⟩), fun U hU hW => ⟨rfl, by rw [hU]; exact ((js_Z.moved hW.alike hZ).kept (fun q h1 h2 => hS.2.1 q h1 h2)).narrow js_no, by rw [hU]; exact ((js_S.moved hW.alike hSt).kept (fun q h1 h2 => hS.2.1 q h1 h2)).narrow js_no⟩⟩ rfl rfl hls rfl (lv_room hr) hdg hf) kk
theorem js_chr_ok {p : Program} {l : Launch} {e : Env} {R : Room} {s : State} {m : MethodId} {args : Array Value} {below : List Frame} {meth : Method} {c : Code} {H : Heap} {locs : List Loc} {cells slots : Nat} {Q : State → Prop} {cc : ByteArray} {nL pc : Nat} {ls : Array Slot} {A : Nat → Prop} {a : Nat} {t : List Int32} {r : List Value} (hx : p.tables.exec = Jvm.exec) (hb : c.code = cc) (hml : c.maxLocals = nL) (hown : s.vm.findClass (ab_cn 5) = some m.cls) (hts : ∀ w ∈ ab_ws, w.before args s = true) (hls : ls.size = nL) (hZ : js_Z A s s.heap) (hSt : js_S a t A s s.heap) (hn : t.length < 100 ∧ ∀ j, j < t.length → narrow .char (.int (ab_chr (t.getD j 0))) = .int (ab_chr (t.getD j 0))) (hS : va_S A s.heap H locs) {i : Int32} (hi : vp_in i t.length) (hr : (r.map fun v => v.category).sum ≤ 8) (hfr : 4 ≤ R.frames) (hlo : 100 ≤ R.locals) (hf : cells ≤ R.cells ∧ slots ≤ R.slots) (hdg : decode cc pc = .ok (.invokevirtual 209, 3))
    (kk : W p l e R s m args below meth c H locs cells slots Q (F0 m (pc + 3) ls (.int (ab_chr (t.getD i.toNatClampNeg 0)) :: r))) : W p l e R s m args below meth c H locs cells slots Q (F0 m pc ls (.int i :: .ref a :: r)) :=
  js_callg (v0 := some (.int (ab_chr (t.getD i.toNatClampNeg 0)))) (rest := r) (va_runV (As := [.int i]) (b := a) (C := "java/lang/String") (n := 1) ⟨hx, hb, hml, hown, hts⟩ (js_char l hi hn) ⟨(callB_of 1 hts (js_good jw_A) rfl rfl rfl (hts _ jw_istr) (hts _ jw_lA) ⟨by decide, by decide, by decide +kernel⟩ ⟨by show 3 + 1 ≤ R.frames; omega, by show 8 + (2 + 11) + 64 ≤ R.locals; omega⟩), hts _ jw_iA, hts _ jw_sA⟩ ⟨fun a2 U g mk q => ⟨q.1, js_Z.moved (u := U) (U := U.calling g mk a2) (Vm.Alike.refl U.vm) q.2.1, js_S.moved (u := U) (U := U.calling g mk a2) (Vm.Alike.refl U.vm) q.2.2⟩, (by obtain ⟨cell, h1, h2, h3, -⟩ := hSt.1.kept (fun q h1 h2 => hS.2.1 q h1 h2); exact ⟨cell, h1, h2, h3⟩), fun U hU hW => ⟨rfl, by rw [hU]; exact ((js_Z.moved hW.alike hZ).kept (fun q h1 h2 => hS.2.1 q h1 h2)).narrow js_no, by rw [hU]; exact ((js_S.moved hW.alike hSt).kept (fun q h1 h2 => hS.2.1 q h1 h2)).narrow js_no⟩⟩ rfl rfl hls rfl (lv_room hr) hdg hf) kk
