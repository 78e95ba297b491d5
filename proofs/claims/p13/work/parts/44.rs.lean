/-! the reader: its cells; where it stands -/
/-- q: length, tokenStart, tokenEnd, token, parts, faultAt, ordering; A: the tape; u, c, k: the text -/
def RW (o : Nat) (q : Nat → Int) (A : Int → Int) (u : Int × Int × Int) (c k : Int → Int) : im_W := [RD (o + 1) (o + 2) q, .inr (0, 400, .inl A)] ++ XC (o + 2) u 436 c 60 k
/-- it stands at the token i -/
def RSt (A : Int → Int) (q : Nat → Int) (i : Int) : Prop := (0 ≤ q 0 ∧ q 0 ≤ 400) ∧ 0 ≤ i ∧ q 1 = tk_Q A (q 0) i ∧ q 2 = tk_end A (q 0) (q 1) ∧ q 3 = tk_kind A (q 0) (q 1) ∧ q 5 = -1
/-- it is dead by a fault at f -/
def RDd (q : Nat → Int) (f : Int) : Prop := (0 ≤ q 0 ∧ q 0 ≤ 400) ∧ (0 ≤ q 1 ∧ q 1 ≤ q 0) ∧ q 3 = 4 ∧ q 5 = f ∧ (0 ≤ f ∧ f ≤ 400)
theorem tk_Q_b {A : Int → Int} {N i : Int} (hN : 0 ≤ N) : 0 ≤ tk_Q A N i ∧ tk_Q A N i ≤ N := tk_P_b hN _
theorem tk_kind_b (A : Int → Int) (N s : Int) : 0 ≤ tk_kind A N s ∧ tk_kind A N s ≤ 3 := by
  unfold tk_kind
  split
  · rcases tk_kd_b (A s) with h | h | h <;> omega
  · omega
theorem RSt_b {A : Int → Int} {q : Nat → Int} {i : Int} (h : RSt A q i) : (0 ≤ q 1 ∧ q 1 ≤ q 0) ∧ (q 1 ≤ q 2 ∧ q 2 ≤ q 0) ∧ (0 ≤ q 3 ∧ q 3 ≤ 3) := by
  obtain ⟨h0, h1, h2, h3, h4, h5⟩ := h
  have a := tk_Q_b (A := A) (N := q 0) (i := i) h0.1
  rw [← h2] at a
  have b := tk_end_b (A := A) (N := q 0) (s := q 1) a.2
  have c := tk_kind_b A (q 0) (q 1)
  rw [h3, h4]
  exact ⟨a, ⟨b.1, b.2.1⟩, c⟩
/-- the next token -/
def rd_next (A : Int → Int) (q : Nat → Int) : Nat → Int := pl_U (pl_U (pl_U q 1 (tk_skip A (q 0) 401 (q 2))) 3 (tk_kind A (q 0) (tk_skip A (q 0) 401 (q 2)))) 2 (tk_end A (q 0) (tk_skip A (q 0) 401 (q 2)))
theorem RSt_next {A : Int → Int} {q : Nat → Int} {i : Int} (h : RSt A q i) : RSt A (rd_next A q) (i + 1) := by
  obtain ⟨h0, h1, h2, h3, h4, h5⟩ := h
  refine ⟨h0, by omega, ?_, rfl, rfl, h5⟩
  show tk_skip A (q 0) 401 (q 2) = tk_P A (q 0) (i + 1).toNat
  rw [show (i + 1).toNat = i.toNat + 1 by omega, h3, h2]
  rfl
def rd_fail (q : Nat → Int) : Nat → Int := pl_U (pl_U q 5 (if q 5 = -1 then q 1 else q 5)) 3 4
theorem RDd_fail {A : Int → Int} {q : Nat → Int} {i : Int} (h : RSt A q i) : RDd (rd_fail q) (tk_Q A (q 0) i) := by
  have hb := RSt_b h
  obtain ⟨h0, h1, h2, h3, h4, h5⟩ := h
  have e : rd_fail q 5 = q 1 := if_pos h5
  refine ⟨h0, hb.1, rfl, ?_, ?_⟩
  · rw [e, h2]
  · rw [← h2]; omega
theorem RDd_dead {q : Nat → Int} {f : Int} (h : RDd q f) : rd_fail q = q := by
  obtain ⟨h0, h1, h3, h5, hf⟩ := h
  have e : (if q 5 = -1 then q 1 else q 5) = q 5 := if_neg (by omega)
  unfold rd_fail
  rw [e]
  funext j
  unfold pl_U
  by_cases e3 : j = 3
  · rw [if_pos e3, e3, h3]
  · rw [if_neg e3]
    by_cases e5 : j = 5
    · rw [if_pos e5, e5]
    · rw [if_neg e5]
section Rr
variable {ro : ab_R} {C : Nat → List Value → ab_W → ab_O → Prop} {own : Nat} {ret : Option FieldType} {code : ab_C} {n : Nat} {T : List im_T} {Q : Option im_V → im_W → Prop}
theorem im_len {pc t0 ix o : Nat} {L : im_L} {r : List im_V} {w : im_W} {txt : List Int32} {m : Int} (hc : code pc = some (.invokevirtual ix, t0)) (hv : ab_lk (ab_vT own) ix = some 0) (ht : ab_tx o = some txt) (hr : Nat.ble (im_sum r) 8 = true) (hm : (txt.length : Int) = m) (k : im_wp ro C own ret code n T Q (pc + 3, L, .inl m :: r, w)) : im_wp ro C own ret code n T Q (pc, L, .inr (.inr (.inl (some o))) :: r, w) := by
  subst hm
  refine ax_sw (ps := []) (x := (im_l n L, .int (Int32.ofNat txt.length) :: im_k n r, im_w n T w, 0, 0)) (pc + 3) hc ?_ rfl trivial ?_
  · show ab_nx ro own false (.invokevirtual ix) t0 pc (im_l n L) (.ref o :: im_k n r) (im_w n T w) 0 0 = _
    simp only [ab_nx, hv, ht]
    rw [im_sum_ok, hr]
    rfl
  · have e : Int32.ofInt (txt.length : Int) = Int32.ofNat txt.length := by
      apply Int32.toBitVec_inj.mp
      show BitVec.ofInt 32 (txt.length : Int) = BitVec.ofNat 32 txt.length
      exact BitVec.ofInt_natCast 32 txt.length
    rw [← e]
    exact k
theorem im_chr {pc t0 ix o : Nat} {i x : Int} {L : im_L} {r : List im_V} {w : im_W} {txt : List Int32} (hc : code pc = some (.invokevirtual ix, t0)) (hv : ab_lk (ab_vT own) ix = some 1) (ht : ab_tx o = some txt) (hr : Nat.ble (im_sum r) 8 = true) (hi : 0 ≤ i ∧ i < (txt.length : Nat) ∧ i < 2147483648) (hx : ab_chr (txt.getD i.toNat 0) = Int32.ofInt x) (k : im_wp ro C own ret code n T Q (pc + 3, L, .inl x :: r, w)) : im_wp ro C own ret code n T Q (pc, L, .inl i :: .inr (.inr (.inl (some o))) :: r, w) := by
  obtain ⟨a1, a2⟩ := im_ix hi
  refine ax_sw (ps := [vp_in (Int32.ofInt i) txt.length]) (x := (im_l n L, .int (ab_chr (txt.getD (Int32.ofInt i).toNatClampNeg 0)) :: im_k n r, im_w n T w, 0, 0)) (pc + 3) hc ?_ rfl ⟨a1, trivial⟩ ?_
  · show ab_nx ro own false (.invokevirtual ix) t0 pc (im_l n L) (.int (Int32.ofInt i) :: .ref o :: im_k n r) (im_w n T w) 0 0 = _
    simp only [ab_nx, hv, ht]
    rw [im_sum_ok, hr]
    rfl
  · rw [a2, hx]
    exact k
end Rr
theorem rd_seg_no {A : Int → Int} {s : Int} {n : Nat} {wl : List Int} {i : Nat} (hi : i < n) (h : ¬ A (s + i) = wl.getD i 0) : ¬ tk_seg A s n = wl := by
  intro e
  have h1 := tk_seg_at A n s i hi
  rw [e] at h1
  exact h (by rw [List.getD_eq_getElem?_getD, h1]; rfl)
theorem rd_seg_yes {A : Int → Int} {s : Int} {n : Nat} {wl : List Int} (hn : wl.length = n) (h : ∀ i : Nat, i < n → A (s + i) = wl.getD i 0) : tk_seg A s n = wl := by
  refine tk_seg_eq hn (fun i hi => ?_)
  rw [h i hi, List.getD_eq_getElem?_getD, List.getElem?_eq_getElem (by omega)]
  rfl
theorem rd_seg_len {A : Int → Int} {s : Int} {n : Nat} {wl : List Int} (hn : ¬ wl.length = n) : ¬ tk_seg A s n = wl := by
  intro e
  have := tk_seg_len A n s
  rw [e] at this
  exact hn this
section Rs
variable {ro : ab_R} {T : List im_T} {d : Nat} {q : Nat → Int} {A c k : Int → Int} {u : Int × Int × Int}
set_option maxHeartbeats 8000000 in
theorem c_kindOf (hd : 1 ≤ d) (hT : T.length < 1000) {x : Int} (hx : im_ir x) : im_ct ro T d 62 [.inl x] ([]) (fun r w => r = some (.inl (tk_kd x)) ∧ w = []) := by
  obtain ⟨d, rfl⟩ : ∃ e, d = e + 1 := ⟨d - 1, by omega⟩
  refine im_ct_of (own := 5) (ret := (some .int)) (code := ab_k_X5_kindOf) (nL := 1) (L0 := [some (.inl x)]) (n := 0) rfl rfl rfl rfl rfl rfl rfl rfl rfl ?_
  refine im_g 2 (y := (3, _, _, _)) rfl trivial ?_
  refine im_b rfl rfl ⟨(by omega), (by omega), trivial⟩ (fun j1 => ?_) (fun j1 => ?_)
  · refine im_g 2 (y := (17, _, _, _)) rfl trivial ?_
    refine im_b rfl rfl ⟨(by omega), (by omega), trivial⟩ (fun j2 => ?_) (fun j2 => ?_)
    · refine im_g 1 (y := (31, _, _, _)) rfl trivial ?_
      refine im_r rfl rfl trivial rfl ?_
      unfold tk_kd
      rw [if_neg (by omega), if_neg (by omega)]
      exact ⟨rfl, rfl⟩
    · refine im_g 2 (y := (23, _, _, _)) rfl trivial ?_
      refine im_b rfl rfl ⟨(by omega), (by omega), trivial⟩ (fun j3 => ?_) (fun j3 => ?_)
      · refine im_g 1 (y := (31, _, _, _)) rfl trivial ?_
        refine im_r rfl rfl trivial rfl ?_
        unfold tk_kd
        rw [if_neg (by omega), if_neg (by omega)]
        exact ⟨rfl, rfl⟩
      · refine im_g 2 (y := (31, _, _, _)) rfl trivial ?_
        refine im_r rfl rfl trivial rfl ?_
        unfold tk_kd
        rw [if_neg (by omega), if_pos (by omega)]
        exact ⟨rfl, rfl⟩
  · refine im_g 2 (y := (9, _, _, _)) rfl trivial ?_
    refine im_b rfl rfl ⟨(by omega), (by omega), trivial⟩ (fun j4 => ?_) (fun j4 => ?_)
    · refine im_g 2 (y := (17, _, _, _)) rfl trivial ?_
      refine im_b rfl rfl ⟨(by omega), (by omega), trivial⟩ (fun j5 => ?_) (fun j5 => ?_)
      · refine im_g 1 (y := (31, _, _, _)) rfl trivial ?_
        refine im_r rfl rfl trivial rfl ?_
        unfold tk_kd
        rw [if_neg (by omega), if_neg (by omega)]
        exact ⟨rfl, rfl⟩
      · refine im_g 2 (y := (23, _, _, _)) rfl trivial ?_
        refine im_b rfl rfl ⟨(by omega), (by omega), trivial⟩ (fun j6 => ?_) (fun j6 => ?_)
        · refine im_g 1 (y := (31, _, _, _)) rfl trivial ?_
          refine im_r rfl rfl trivial rfl ?_
          unfold tk_kd
          rw [if_neg (by omega), if_neg (by omega)]
          exact ⟨rfl, rfl⟩
        · refine im_g 2 (y := (31, _, _, _)) rfl trivial ?_
          refine im_r rfl rfl trivial rfl ?_
          unfold tk_kd
          rw [if_neg (by omega), if_pos (by omega)]
          exact ⟨rfl, rfl⟩
    · refine im_g 1 (y := (13, _, _, _)) rfl trivial ?_
      refine im_r rfl rfl trivial rfl ?_
      unfold tk_kd
      rw [if_pos (by omega)]
      exact ⟨rfl, rfl⟩
set_option maxHeartbeats 8000000 in
theorem c_fail (hd : 1 ≤ d) (hT : T.length < 1000) (h5 : im_ir (q 5)) : im_ct ro T d 60 [mr 0] (RW 0 q A u c k) (fun r w => r = none ∧ w = RW 0 (rd_fail q) A u c k) := by
  obtain ⟨d, rfl⟩ : ∃ e, d = e + 1 := ⟨d - 1, by omega⟩
  refine im_ct_of (own := 5) (ret := none) (code := ab_k_X5_fail) (nL := 1) (L0 := [some (mr 0)]) (n := 5) rfl rfl rfl rfl rfl rfl rfl rfl rfl ?_
  refine im_g 3 (y := (5, _, _, _)) rfl trivial ?_
  refine im_b rfl rfl ⟨(by omega), (by omega), trivial⟩ (fun j1 => ?_) (fun j1 => ?_)
  · refine im_g 3 (y := (21, _, _, _)) rfl trivial ?_
    refine im_r rfl rfl trivial rfl ?_
    have e : (if q 5 = -1 then q 1 else q 5) = q 5 := if_neg (by omega)
    unfold rd_fail
    rw [e]
    exact ⟨rfl, rfl⟩
  · refine im_g 7 (y := (21, _, _, _)) rfl trivial ?_
    refine im_r rfl rfl trivial rfl ?_
    have e : (if q 5 = -1 then q 1 else q 5) = q 1 := if_pos (by omega)
    unfold rd_fail
    rw [e]
    exact ⟨rfl, rfl⟩
set_option maxHeartbeats 8000000 in
theorem c_isD (hd : 1 ≤ d) (hT : T.length < 1000) {o : Nat} (h3 : q 3 = 4) : im_ct ro T d 63 [mr 0, mr o] (RW 0 q A u c k) (fun r w => r = some (.inl 0) ∧ w = RW 0 q A u c k) := by
  obtain ⟨d, rfl⟩ : ∃ e, d = e + 1 := ⟨d - 1, by omega⟩
  refine im_ct_of (own := 5) (ret := (some .boolean)) (code := ab_k_X5_is) (nL := 3) (L0 := [some (mr 0), some (mr o), none]) (n := 5) rfl rfl rfl rfl rfl rfl rfl rfl rfl ?_
  refine im_g 3 (y := (5, _, _, _)) rfl trivial ?_
  refine im_bT rfl rfl ⟨(by omega), (by omega), trivial⟩ (by omega) ?_
  refine im_g 1 (y := (25, _, _, _)) rfl trivial ?_
  refine im_r rfl rfl ⟨(by decide), trivial⟩ rfl ?_
  exact ⟨rfl, rfl⟩
set_option maxHeartbeats 8000000 in
theorem c_is (hd : 1 ≤ d) (hT : T.length < 1000) {o : Nat} {txt : List Int32} {wl : List Int} (ht : ab_tx o = some txt) (hl : txt.length = wl.length) (hl2 : wl.length ≤ 20) (hx : ∀ i : Nat, i < wl.length → ab_chr (txt.getD i 0) = Int32.ofInt (wl.getD i 0)) (hw : ∀ i : Nat, 0 ≤ wl.getD i 0 ∧ wl.getD i 0 ≤ 255) (h1 : 0 ≤ q 1 ∧ q 1 ≤ q 2 ∧ q 2 ≤ 400) (h3 : 0 ≤ q 3 ∧ q 3 ≤ 4) (hA : tk_ok A) : im_ct ro T d 63 [mr 0, mr o] (RW 0 q A u c k) (fun r w => r = some (.inl (if q 3 = 1 ∧ tk_seg A (q 1) (q 2 - q 1).toNat = wl then 1 else 0)) ∧ w = RW 0 q A u c k) := by
  obtain ⟨d, rfl⟩ : ∃ e, d = e + 1 := ⟨d - 1, by omega⟩
  refine im_ct_of (own := 5) (ret := (some .boolean)) (code := ab_k_X5_is) (nL := 3) (L0 := [some (mr 0), some (mr o), none]) (n := 5) rfl rfl rfl rfl rfl rfl rfl rfl rfl ?_
  refine im_g 3 (y := (5, _, _, _)) rfl trivial ?_
  refine im_b rfl rfl ⟨(by omega), (by omega), trivial⟩ (fun j1 => ?_) (fun j1 => ?_)
  · refine im_g 1 (y := (25, _, _, _)) rfl trivial ?_
    refine im_r rfl rfl ⟨(by decide), trivial⟩ rfl ?_
    rw [if_neg (fun z => absurd z.1 (by omega))]
    exact ⟨rfl, rfl⟩
  · refine im_g 6 (y := (18, _, _, _)) rfl trivial ?_
    refine im_len (m := (wl.length : Int)) rfl rfl ht rfl (by omega) ?_
    refine im_b rfl rfl ⟨(by omega), (by omega), trivial⟩ (fun j2 => ?_) (fun j2 => ?_)
    · refine im_g 2 (y := (28, _, _, _)) rfl trivial ?_
      have hs3 : q 3 = 1 := by omega
      have hln : (q 2 - q 1).toNat = wl.length := by omega
      have key : ∀ (m i : Nat), i + m = wl.length → (∀ j : Nat, j < i → A (q 1 + j) = wl.getD j 0) → im_wp ro (ab_Ev ro ab_codes d) 5 (some .boolean) ab_k_X5_is 5 T (fun r w => r = some (.inl (if q 3 = 1 ∧ tk_seg A (q 1) (q 2 - q 1).toNat = wl then 1 else 0)) ∧ w = RW 0 q A u c k) (28, [some (mr 0), some (mr o), some (.inl (i : Int))], [], RW 0 q A u c k) := by
        intro m
        induction m with
        | zero =>
          intro i hi hj0
          refine im_g 2 (y := (30, _, _, _)) rfl trivial ?_
          refine im_len (m := (wl.length : Int)) rfl rfl ht rfl (by omega) ?_
          refine im_bT rfl rfl ⟨(by omega), (by omega), trivial⟩ (by omega) ?_
          refine im_g 1 (y := (64, _, _, _)) rfl trivial ?_
          refine im_r rfl rfl ⟨(by decide), trivial⟩ rfl ?_
          rw [if_pos ⟨hs3, rd_seg_yes hln.symm (fun j hj => hj0 j (by omega))⟩]
          exact ⟨rfl, rfl⟩
        | succ m ih =>
          intro i hi hj0
          have ha := hA (q 1 + i)
          have hwi := hw i
          refine im_g 2 (y := (30, _, _, _)) rfl trivial ?_
          refine im_len (m := (wl.length : Int)) rfl rfl ht rfl (by omega) ?_
          refine im_bF rfl rfl ⟨(by omega), (by omega), trivial⟩ (by omega) ?_
          refine im_g 9 (y := (49, _, _, _)) rfl ⟨(by omega), trivial⟩ ?_
          refine im_chr (x := wl.getD i 0) rfl rfl ht rfl (by omega) (hx i (by omega)) ?_
          refine im_b rfl rfl ⟨(by omega), (by omega), trivial⟩ (fun j1 => ?_) (fun j1 => ?_)
          · refine im_g 2 (y := (28, _, _, _)) rfl trivial ?_
            exact ih (i + 1) (by omega) (fun j hj => by by_cases e : j = i; rw [e]; exact j1; exact hj0 j (by omega))
          · refine im_g 1 (y := (56, _, _, _)) rfl trivial ?_
            refine im_r rfl rfl ⟨(by decide), trivial⟩ rfl ?_
            rw [if_neg (fun z => rd_seg_no (A := A) (s := q 1) (i := i) (by omega) j1 z.2)]
            exact ⟨rfl, rfl⟩
      exact key wl.length 0 (by omega) (fun j hj => absurd hj (Nat.not_lt_zero j))
    · refine im_g 1 (y := (25, _, _, _)) rfl trivial ?_
      refine im_r rfl rfl ⟨(by decide), trivial⟩ rfl ?_
      rw [if_neg (fun z => rd_seg_len (A := A) (s := q 1) (n := (q 2 - q 1).toNat) (by omega) z.2)]
      exact ⟨rfl, rfl⟩
end Rs
theorem rd_s_tens : ab_tx 2000023 = some [116, 101, 110, 115] := by decide +kernel
theorem rd_s_stays : ab_tx 2000024 = some [115, 116, 97, 121, 115] := by decide +kernel
theorem rd_s_steps : ab_tx 2000025 = some [115, 116, 101, 112, 115] := by decide +kernel
theorem rd_s_bars : ab_tx 2000026 = some [98, 97, 114, 115] := by decide +kernel
theorem rd_s_if : ab_tx 2000019 = some [105, 102] := by decide +kernel
theorem rd_s_or : ab_tx 2000022 = some [111, 114] := by decide +kernel
theorem rd_s_and : ab_tx 2000021 = some [97, 110, 100] := by decide +kernel
theorem rd_s_not : ab_tx 2000020 = some [110, 111, 116] := by decide +kernel
theorem rd_s_parish : ab_tx 2000011 = some [112, 97, 114, 105, 115, 104] := by decide +kernel
theorem rd_s_below : ab_tx 2000012 = some [98, 101, 108, 111, 119] := by decide +kernel
theorem rd_s_depth : ab_tx 2000013 = some [100, 101, 112, 116, 104] := by decide +kernel
theorem rd_s_walked : ab_tx 2000014 = some [119, 97, 108, 107, 101, 100] := by decide +kernel
theorem rd_s_mood : ab_tx 2000015 = some [109, 111, 111, 100] := by decide +kernel
theorem rd_s_count : ab_tx 2000009 = some [99, 111, 117, 110, 116] := by decide +kernel
theorem rd_s_over : ab_tx 2000010 = some [111, 118, 101, 114] := by decide +kernel
theorem rd_s_day : ab_tx 2000004 = some [100, 97, 121] := by decide +kernel
theorem rd_s_done : ab_tx 2000005 = some [100, 111, 110, 101] := by decide +kernel
theorem rd_s_latest : ab_tx 2000006 = some [108, 97, 116, 101, 115, 116] := by decide +kernel
theorem rd_s_sea : ab_tx 2000007 = some [115, 101, 97] := by decide +kernel
theorem rd_s_walking : ab_tx 2000008 = some [119, 97, 108, 107, 105, 110, 103] := by decide +kernel
theorem rd_s_reckon : ab_tx 2000000 = some [114, 101, 99, 107, 111, 110] := by decide +kernel
theorem rd_s_pass : ab_tx 2000001 = some [112, 97, 115, 115] := by decide +kernel
theorem rd_s_lend : ab_tx 2000002 = some [108, 101, 110, 100] := by decide +kernel
theorem rd_s_to : ab_tx 2000016 = some [116, 111] := by decide +kernel
theorem rd_s_grow : ab_tx 2000003 = some [103, 114, 111, 119] := by decide +kernel
theorem rd_s_by : ab_tx 2000017 = some [98, 121] := by decide +kernel
theorem rd_s_times : ab_tx 2000018 = some [116, 105, 109, 101, 115] := by decide +kernel
section Rt
variable {ro : ab_R} {T : List im_T} {d : Nat} {q : Nat → Int} {A c k : Int → Int} {u : Int × Int × Int} {i : Int}
theorem c_is_tens (hd : 1 ≤ d) (hT : T.length < 1000) (hA : tk_ok A) (h : RSt A q i) : im_ct ro T d 63 [mr 0, mr 2000023] (RW 0 q A u c k) (fun r w => r = some (.inl (if tk_C A (q 0) i = 1 then 1 else 0)) ∧ w = RW 0 q A u c k) := by
  have hb := RSt_b h
  have h0 := h.1
  refine im_ct_mono (c_is (wl := [116, 101, 110, 115]) hd hT rd_s_tens rfl (by decide) (by decide) (by intro j; match j with | 0 => exact ⟨by decide, by decide⟩ | 1 => exact ⟨by decide, by decide⟩ | 2 => exact ⟨by decide, by decide⟩ | 3 => exact ⟨by decide, by decide⟩ | j + 4 => exact (show (0 : Int) ≤ 0 ∧ (0 : Int) ≤ 255 by decide)) (by omega) (by omega) hA) (fun r w hr => ?_)
  obtain ⟨rfl, rfl⟩ := hr
  refine ⟨?_, rfl⟩
  have e : (q 3 = 1 ∧ tk_seg A (q 1) (q 2 - q 1).toNat = [116, 101, 110, 115]) ↔ tk_C A (q 0) i = 1 := by
    obtain ⟨-, -, h2, h3, h4, -⟩ := h
    rw [h4, h3, h2]
    have t := tk_code_word hA (N := q 0) (s := tk_Q A (q 0) i) (i := 0) (w := [116, 101, 110, 115]) rfl
    exact t.symm
  simp only [e]
theorem c_is_stays (hd : 1 ≤ d) (hT : T.length < 1000) (hA : tk_ok A) (h : RSt A q i) : im_ct ro T d 63 [mr 0, mr 2000024] (RW 0 q A u c k) (fun r w => r = some (.inl (if tk_C A (q 0) i = 2 then 1 else 0)) ∧ w = RW 0 q A u c k) := by
  have hb := RSt_b h
  have h0 := h.1
  refine im_ct_mono (c_is (wl := [115, 116, 97, 121, 115]) hd hT rd_s_stays rfl (by decide) (by decide) (by intro j; match j with | 0 => exact ⟨by decide, by decide⟩ | 1 => exact ⟨by decide, by decide⟩ | 2 => exact ⟨by decide, by decide⟩ | 3 => exact ⟨by decide, by decide⟩ | 4 => exact ⟨by decide, by decide⟩ | j + 5 => exact (show (0 : Int) ≤ 0 ∧ (0 : Int) ≤ 255 by decide)) (by omega) (by omega) hA) (fun r w hr => ?_)
  obtain ⟨rfl, rfl⟩ := hr
  refine ⟨?_, rfl⟩
  have e : (q 3 = 1 ∧ tk_seg A (q 1) (q 2 - q 1).toNat = [115, 116, 97, 121, 115]) ↔ tk_C A (q 0) i = 2 := by
    obtain ⟨-, -, h2, h3, h4, -⟩ := h
    rw [h4, h3, h2]
    have t := tk_code_word hA (N := q 0) (s := tk_Q A (q 0) i) (i := 1) (w := [115, 116, 97, 121, 115]) rfl
    exact t.symm
  simp only [e]
theorem c_is_steps (hd : 1 ≤ d) (hT : T.length < 1000) (hA : tk_ok A) (h : RSt A q i) : im_ct ro T d 63 [mr 0, mr 2000025] (RW 0 q A u c k) (fun r w => r = some (.inl (if tk_C A (q 0) i = 3 then 1 else 0)) ∧ w = RW 0 q A u c k) := by
  have hb := RSt_b h
  have h0 := h.1
  refine im_ct_mono (c_is (wl := [115, 116, 101, 112, 115]) hd hT rd_s_steps rfl (by decide) (by decide) (by intro j; match j with | 0 => exact ⟨by decide, by decide⟩ | 1 => exact ⟨by decide, by decide⟩ | 2 => exact ⟨by decide, by decide⟩ | 3 => exact ⟨by decide, by decide⟩ | 4 => exact ⟨by decide, by decide⟩ | j + 5 => exact (show (0 : Int) ≤ 0 ∧ (0 : Int) ≤ 255 by decide)) (by omega) (by omega) hA) (fun r w hr => ?_)
  obtain ⟨rfl, rfl⟩ := hr
  refine ⟨?_, rfl⟩
  have e : (q 3 = 1 ∧ tk_seg A (q 1) (q 2 - q 1).toNat = [115, 116, 101, 112, 115]) ↔ tk_C A (q 0) i = 3 := by
    obtain ⟨-, -, h2, h3, h4, -⟩ := h
    rw [h4, h3, h2]
    have t := tk_code_word hA (N := q 0) (s := tk_Q A (q 0) i) (i := 2) (w := [115, 116, 101, 112, 115]) rfl
    exact t.symm
  simp only [e]
theorem c_is_bars (hd : 1 ≤ d) (hT : T.length < 1000) (hA : tk_ok A) (h : RSt A q i) : im_ct ro T d 63 [mr 0, mr 2000026] (RW 0 q A u c k) (fun r w => r = some (.inl (if tk_C A (q 0) i = 4 then 1 else 0)) ∧ w = RW 0 q A u c k) := by
  have hb := RSt_b h
  have h0 := h.1
  refine im_ct_mono (c_is (wl := [98, 97, 114, 115]) hd hT rd_s_bars rfl (by decide) (by decide) (by intro j; match j with | 0 => exact ⟨by decide, by decide⟩ | 1 => exact ⟨by decide, by decide⟩ | 2 => exact ⟨by decide, by decide⟩ | 3 => exact ⟨by decide, by decide⟩ | j + 4 => exact (show (0 : Int) ≤ 0 ∧ (0 : Int) ≤ 255 by decide)) (by omega) (by omega) hA) (fun r w hr => ?_)
  obtain ⟨rfl, rfl⟩ := hr
  refine ⟨?_, rfl⟩
  have e : (q 3 = 1 ∧ tk_seg A (q 1) (q 2 - q 1).toNat = [98, 97, 114, 115]) ↔ tk_C A (q 0) i = 4 := by
    obtain ⟨-, -, h2, h3, h4, -⟩ := h
    rw [h4, h3, h2]
    have t := tk_code_word hA (N := q 0) (s := tk_Q A (q 0) i) (i := 3) (w := [98, 97, 114, 115]) rfl
    exact t.symm
  simp only [e]
theorem c_is_if (hd : 1 ≤ d) (hT : T.length < 1000) (hA : tk_ok A) (h : RSt A q i) : im_ct ro T d 63 [mr 0, mr 2000019] (RW 0 q A u c k) (fun r w => r = some (.inl (if tk_C A (q 0) i = 5 then 1 else 0)) ∧ w = RW 0 q A u c k) := by
  have hb := RSt_b h
  have h0 := h.1
  refine im_ct_mono (c_is (wl := [105, 102]) hd hT rd_s_if rfl (by decide) (by decide) (by intro j; match j with | 0 => exact ⟨by decide, by decide⟩ | 1 => exact ⟨by decide, by decide⟩ | j + 2 => exact (show (0 : Int) ≤ 0 ∧ (0 : Int) ≤ 255 by decide)) (by omega) (by omega) hA) (fun r w hr => ?_)
  obtain ⟨rfl, rfl⟩ := hr
  refine ⟨?_, rfl⟩
  have e : (q 3 = 1 ∧ tk_seg A (q 1) (q 2 - q 1).toNat = [105, 102]) ↔ tk_C A (q 0) i = 5 := by
    obtain ⟨-, -, h2, h3, h4, -⟩ := h
    rw [h4, h3, h2]
    have t := tk_code_word hA (N := q 0) (s := tk_Q A (q 0) i) (i := 4) (w := [105, 102]) rfl
    exact t.symm
  simp only [e]
theorem c_is_or (hd : 1 ≤ d) (hT : T.length < 1000) (hA : tk_ok A) (h : RSt A q i) : im_ct ro T d 63 [mr 0, mr 2000022] (RW 0 q A u c k) (fun r w => r = some (.inl (if tk_C A (q 0) i = 6 then 1 else 0)) ∧ w = RW 0 q A u c k) := by
  have hb := RSt_b h
  have h0 := h.1
  refine im_ct_mono (c_is (wl := [111, 114]) hd hT rd_s_or rfl (by decide) (by decide) (by intro j; match j with | 0 => exact ⟨by decide, by decide⟩ | 1 => exact ⟨by decide, by decide⟩ | j + 2 => exact (show (0 : Int) ≤ 0 ∧ (0 : Int) ≤ 255 by decide)) (by omega) (by omega) hA) (fun r w hr => ?_)
  obtain ⟨rfl, rfl⟩ := hr
  refine ⟨?_, rfl⟩
  have e : (q 3 = 1 ∧ tk_seg A (q 1) (q 2 - q 1).toNat = [111, 114]) ↔ tk_C A (q 0) i = 6 := by
    obtain ⟨-, -, h2, h3, h4, -⟩ := h
    rw [h4, h3, h2]
    have t := tk_code_word hA (N := q 0) (s := tk_Q A (q 0) i) (i := 5) (w := [111, 114]) rfl
    exact t.symm
  simp only [e]
theorem c_is_and (hd : 1 ≤ d) (hT : T.length < 1000) (hA : tk_ok A) (h : RSt A q i) : im_ct ro T d 63 [mr 0, mr 2000021] (RW 0 q A u c k) (fun r w => r = some (.inl (if tk_C A (q 0) i = 7 then 1 else 0)) ∧ w = RW 0 q A u c k) := by
  have hb := RSt_b h
  have h0 := h.1
  refine im_ct_mono (c_is (wl := [97, 110, 100]) hd hT rd_s_and rfl (by decide) (by decide) (by intro j; match j with | 0 => exact ⟨by decide, by decide⟩ | 1 => exact ⟨by decide, by decide⟩ | 2 => exact ⟨by decide, by decide⟩ | j + 3 => exact (show (0 : Int) ≤ 0 ∧ (0 : Int) ≤ 255 by decide)) (by omega) (by omega) hA) (fun r w hr => ?_)
  obtain ⟨rfl, rfl⟩ := hr
  refine ⟨?_, rfl⟩
  have e : (q 3 = 1 ∧ tk_seg A (q 1) (q 2 - q 1).toNat = [97, 110, 100]) ↔ tk_C A (q 0) i = 7 := by
    obtain ⟨-, -, h2, h3, h4, -⟩ := h
    rw [h4, h3, h2]
    have t := tk_code_word hA (N := q 0) (s := tk_Q A (q 0) i) (i := 6) (w := [97, 110, 100]) rfl
    exact t.symm
  simp only [e]
theorem c_is_not (hd : 1 ≤ d) (hT : T.length < 1000) (hA : tk_ok A) (h : RSt A q i) : im_ct ro T d 63 [mr 0, mr 2000020] (RW 0 q A u c k) (fun r w => r = some (.inl (if tk_C A (q 0) i = 8 then 1 else 0)) ∧ w = RW 0 q A u c k) := by
  have hb := RSt_b h
  have h0 := h.1
  refine im_ct_mono (c_is (wl := [110, 111, 116]) hd hT rd_s_not rfl (by decide) (by decide) (by intro j; match j with | 0 => exact ⟨by decide, by decide⟩ | 1 => exact ⟨by decide, by decide⟩ | 2 => exact ⟨by decide, by decide⟩ | j + 3 => exact (show (0 : Int) ≤ 0 ∧ (0 : Int) ≤ 255 by decide)) (by omega) (by omega) hA) (fun r w hr => ?_)
  obtain ⟨rfl, rfl⟩ := hr
  refine ⟨?_, rfl⟩
  have e : (q 3 = 1 ∧ tk_seg A (q 1) (q 2 - q 1).toNat = [110, 111, 116]) ↔ tk_C A (q 0) i = 8 := by
    obtain ⟨-, -, h2, h3, h4, -⟩ := h
    rw [h4, h3, h2]
    have t := tk_code_word hA (N := q 0) (s := tk_Q A (q 0) i) (i := 7) (w := [110, 111, 116]) rfl
    exact t.symm
  simp only [e]
theorem c_is_parish (hd : 1 ≤ d) (hT : T.length < 1000) (hA : tk_ok A) (h : RSt A q i) : im_ct ro T d 63 [mr 0, mr 2000011] (RW 0 q A u c k) (fun r w => r = some (.inl (if tk_C A (q 0) i = 9 then 1 else 0)) ∧ w = RW 0 q A u c k) := by
  have hb := RSt_b h
  have h0 := h.1
  refine im_ct_mono (c_is (wl := [112, 97, 114, 105, 115, 104]) hd hT rd_s_parish rfl (by decide) (by decide) (by intro j; match j with | 0 => exact ⟨by decide, by decide⟩ | 1 => exact ⟨by decide, by decide⟩ | 2 => exact ⟨by decide, by decide⟩ | 3 => exact ⟨by decide, by decide⟩ | 4 => exact ⟨by decide, by decide⟩ | 5 => exact ⟨by decide, by decide⟩ | j + 6 => exact (show (0 : Int) ≤ 0 ∧ (0 : Int) ≤ 255 by decide)) (by omega) (by omega) hA) (fun r w hr => ?_)
  obtain ⟨rfl, rfl⟩ := hr
  refine ⟨?_, rfl⟩
  have e : (q 3 = 1 ∧ tk_seg A (q 1) (q 2 - q 1).toNat = [112, 97, 114, 105, 115, 104]) ↔ tk_C A (q 0) i = 9 := by
    obtain ⟨-, -, h2, h3, h4, -⟩ := h
    rw [h4, h3, h2]
    have t := tk_code_word hA (N := q 0) (s := tk_Q A (q 0) i) (i := 8) (w := [112, 97, 114, 105, 115, 104]) rfl
    exact t.symm
  simp only [e]
theorem c_is_below (hd : 1 ≤ d) (hT : T.length < 1000) (hA : tk_ok A) (h : RSt A q i) : im_ct ro T d 63 [mr 0, mr 2000012] (RW 0 q A u c k) (fun r w => r = some (.inl (if tk_C A (q 0) i = 10 then 1 else 0)) ∧ w = RW 0 q A u c k) := by
  have hb := RSt_b h
  have h0 := h.1
  refine im_ct_mono (c_is (wl := [98, 101, 108, 111, 119]) hd hT rd_s_below rfl (by decide) (by decide) (by intro j; match j with | 0 => exact ⟨by decide, by decide⟩ | 1 => exact ⟨by decide, by decide⟩ | 2 => exact ⟨by decide, by decide⟩ | 3 => exact ⟨by decide, by decide⟩ | 4 => exact ⟨by decide, by decide⟩ | j + 5 => exact (show (0 : Int) ≤ 0 ∧ (0 : Int) ≤ 255 by decide)) (by omega) (by omega) hA) (fun r w hr => ?_)
  obtain ⟨rfl, rfl⟩ := hr
  refine ⟨?_, rfl⟩
  have e : (q 3 = 1 ∧ tk_seg A (q 1) (q 2 - q 1).toNat = [98, 101, 108, 111, 119]) ↔ tk_C A (q 0) i = 10 := by
    obtain ⟨-, -, h2, h3, h4, -⟩ := h
    rw [h4, h3, h2]
    have t := tk_code_word hA (N := q 0) (s := tk_Q A (q 0) i) (i := 9) (w := [98, 101, 108, 111, 119]) rfl
    exact t.symm
  simp only [e]
theorem c_is_depth (hd : 1 ≤ d) (hT : T.length < 1000) (hA : tk_ok A) (h : RSt A q i) : im_ct ro T d 63 [mr 0, mr 2000013] (RW 0 q A u c k) (fun r w => r = some (.inl (if tk_C A (q 0) i = 11 then 1 else 0)) ∧ w = RW 0 q A u c k) := by
  have hb := RSt_b h
  have h0 := h.1
  refine im_ct_mono (c_is (wl := [100, 101, 112, 116, 104]) hd hT rd_s_depth rfl (by decide) (by decide) (by intro j; match j with | 0 => exact ⟨by decide, by decide⟩ | 1 => exact ⟨by decide, by decide⟩ | 2 => exact ⟨by decide, by decide⟩ | 3 => exact ⟨by decide, by decide⟩ | 4 => exact ⟨by decide, by decide⟩ | j + 5 => exact (show (0 : Int) ≤ 0 ∧ (0 : Int) ≤ 255 by decide)) (by omega) (by omega) hA) (fun r w hr => ?_)
  obtain ⟨rfl, rfl⟩ := hr
  refine ⟨?_, rfl⟩
  have e : (q 3 = 1 ∧ tk_seg A (q 1) (q 2 - q 1).toNat = [100, 101, 112, 116, 104]) ↔ tk_C A (q 0) i = 11 := by
    obtain ⟨-, -, h2, h3, h4, -⟩ := h
    rw [h4, h3, h2]
    have t := tk_code_word hA (N := q 0) (s := tk_Q A (q 0) i) (i := 10) (w := [100, 101, 112, 116, 104]) rfl
    exact t.symm
  simp only [e]
theorem c_is_walked (hd : 1 ≤ d) (hT : T.length < 1000) (hA : tk_ok A) (h : RSt A q i) : im_ct ro T d 63 [mr 0, mr 2000014] (RW 0 q A u c k) (fun r w => r = some (.inl (if tk_C A (q 0) i = 12 then 1 else 0)) ∧ w = RW 0 q A u c k) := by
  have hb := RSt_b h
  have h0 := h.1
  refine im_ct_mono (c_is (wl := [119, 97, 108, 107, 101, 100]) hd hT rd_s_walked rfl (by decide) (by decide) (by intro j; match j with | 0 => exact ⟨by decide, by decide⟩ | 1 => exact ⟨by decide, by decide⟩ | 2 => exact ⟨by decide, by decide⟩ | 3 => exact ⟨by decide, by decide⟩ | 4 => exact ⟨by decide, by decide⟩ | 5 => exact ⟨by decide, by decide⟩ | j + 6 => exact (show (0 : Int) ≤ 0 ∧ (0 : Int) ≤ 255 by decide)) (by omega) (by omega) hA) (fun r w hr => ?_)
  obtain ⟨rfl, rfl⟩ := hr
  refine ⟨?_, rfl⟩
  have e : (q 3 = 1 ∧ tk_seg A (q 1) (q 2 - q 1).toNat = [119, 97, 108, 107, 101, 100]) ↔ tk_C A (q 0) i = 12 := by
    obtain ⟨-, -, h2, h3, h4, -⟩ := h
    rw [h4, h3, h2]
    have t := tk_code_word hA (N := q 0) (s := tk_Q A (q 0) i) (i := 11) (w := [119, 97, 108, 107, 101, 100]) rfl
    exact t.symm
  simp only [e]
theorem c_is_mood (hd : 1 ≤ d) (hT : T.length < 1000) (hA : tk_ok A) (h : RSt A q i) : im_ct ro T d 63 [mr 0, mr 2000015] (RW 0 q A u c k) (fun r w => r = some (.inl (if tk_C A (q 0) i = 13 then 1 else 0)) ∧ w = RW 0 q A u c k) := by
  have hb := RSt_b h
  have h0 := h.1
  refine im_ct_mono (c_is (wl := [109, 111, 111, 100]) hd hT rd_s_mood rfl (by decide) (by decide) (by intro j; match j with | 0 => exact ⟨by decide, by decide⟩ | 1 => exact ⟨by decide, by decide⟩ | 2 => exact ⟨by decide, by decide⟩ | 3 => exact ⟨by decide, by decide⟩ | j + 4 => exact (show (0 : Int) ≤ 0 ∧ (0 : Int) ≤ 255 by decide)) (by omega) (by omega) hA) (fun r w hr => ?_)
  obtain ⟨rfl, rfl⟩ := hr
  refine ⟨?_, rfl⟩
  have e : (q 3 = 1 ∧ tk_seg A (q 1) (q 2 - q 1).toNat = [109, 111, 111, 100]) ↔ tk_C A (q 0) i = 13 := by
    obtain ⟨-, -, h2, h3, h4, -⟩ := h
    rw [h4, h3, h2]
    have t := tk_code_word hA (N := q 0) (s := tk_Q A (q 0) i) (i := 12) (w := [109, 111, 111, 100]) rfl
    exact t.symm
  simp only [e]
theorem c_is_count (hd : 1 ≤ d) (hT : T.length < 1000) (hA : tk_ok A) (h : RSt A q i) : im_ct ro T d 63 [mr 0, mr 2000009] (RW 0 q A u c k) (fun r w => r = some (.inl (if tk_C A (q 0) i = 14 then 1 else 0)) ∧ w = RW 0 q A u c k) := by
  have hb := RSt_b h
  have h0 := h.1
  refine im_ct_mono (c_is (wl := [99, 111, 117, 110, 116]) hd hT rd_s_count rfl (by decide) (by decide) (by intro j; match j with | 0 => exact ⟨by decide, by decide⟩ | 1 => exact ⟨by decide, by decide⟩ | 2 => exact ⟨by decide, by decide⟩ | 3 => exact ⟨by decide, by decide⟩ | 4 => exact ⟨by decide, by decide⟩ | j + 5 => exact (show (0 : Int) ≤ 0 ∧ (0 : Int) ≤ 255 by decide)) (by omega) (by omega) hA) (fun r w hr => ?_)
  obtain ⟨rfl, rfl⟩ := hr
  refine ⟨?_, rfl⟩
  have e : (q 3 = 1 ∧ tk_seg A (q 1) (q 2 - q 1).toNat = [99, 111, 117, 110, 116]) ↔ tk_C A (q 0) i = 14 := by
    obtain ⟨-, -, h2, h3, h4, -⟩ := h
    rw [h4, h3, h2]
    have t := tk_code_word hA (N := q 0) (s := tk_Q A (q 0) i) (i := 13) (w := [99, 111, 117, 110, 116]) rfl
    exact t.symm
  simp only [e]
theorem c_is_over (hd : 1 ≤ d) (hT : T.length < 1000) (hA : tk_ok A) (h : RSt A q i) : im_ct ro T d 63 [mr 0, mr 2000010] (RW 0 q A u c k) (fun r w => r = some (.inl (if tk_C A (q 0) i = 15 then 1 else 0)) ∧ w = RW 0 q A u c k) := by
  have hb := RSt_b h
  have h0 := h.1
  refine im_ct_mono (c_is (wl := [111, 118, 101, 114]) hd hT rd_s_over rfl (by decide) (by decide) (by intro j; match j with | 0 => exact ⟨by decide, by decide⟩ | 1 => exact ⟨by decide, by decide⟩ | 2 => exact ⟨by decide, by decide⟩ | 3 => exact ⟨by decide, by decide⟩ | j + 4 => exact (show (0 : Int) ≤ 0 ∧ (0 : Int) ≤ 255 by decide)) (by omega) (by omega) hA) (fun r w hr => ?_)
  obtain ⟨rfl, rfl⟩ := hr
  refine ⟨?_, rfl⟩
  have e : (q 3 = 1 ∧ tk_seg A (q 1) (q 2 - q 1).toNat = [111, 118, 101, 114]) ↔ tk_C A (q 0) i = 15 := by
    obtain ⟨-, -, h2, h3, h4, -⟩ := h
    rw [h4, h3, h2]
    have t := tk_code_word hA (N := q 0) (s := tk_Q A (q 0) i) (i := 14) (w := [111, 118, 101, 114]) rfl
    exact t.symm
  simp only [e]
theorem c_is_day (hd : 1 ≤ d) (hT : T.length < 1000) (hA : tk_ok A) (h : RSt A q i) : im_ct ro T d 63 [mr 0, mr 2000004] (RW 0 q A u c k) (fun r w => r = some (.inl (if tk_C A (q 0) i = 16 then 1 else 0)) ∧ w = RW 0 q A u c k) := by
  have hb := RSt_b h
  have h0 := h.1
  refine im_ct_mono (c_is (wl := [100, 97, 121]) hd hT rd_s_day rfl (by decide) (by decide) (by intro j; match j with | 0 => exact ⟨by decide, by decide⟩ | 1 => exact ⟨by decide, by decide⟩ | 2 => exact ⟨by decide, by decide⟩ | j + 3 => exact (show (0 : Int) ≤ 0 ∧ (0 : Int) ≤ 255 by decide)) (by omega) (by omega) hA) (fun r w hr => ?_)
  obtain ⟨rfl, rfl⟩ := hr
  refine ⟨?_, rfl⟩
  have e : (q 3 = 1 ∧ tk_seg A (q 1) (q 2 - q 1).toNat = [100, 97, 121]) ↔ tk_C A (q 0) i = 16 := by
    obtain ⟨-, -, h2, h3, h4, -⟩ := h
    rw [h4, h3, h2]
    have t := tk_code_word hA (N := q 0) (s := tk_Q A (q 0) i) (i := 15) (w := [100, 97, 121]) rfl
    exact t.symm
  simp only [e]
theorem c_is_done (hd : 1 ≤ d) (hT : T.length < 1000) (hA : tk_ok A) (h : RSt A q i) : im_ct ro T d 63 [mr 0, mr 2000005] (RW 0 q A u c k) (fun r w => r = some (.inl (if tk_C A (q 0) i = 17 then 1 else 0)) ∧ w = RW 0 q A u c k) := by
  have hb := RSt_b h
  have h0 := h.1
  refine im_ct_mono (c_is (wl := [100, 111, 110, 101]) hd hT rd_s_done rfl (by decide) (by decide) (by intro j; match j with | 0 => exact ⟨by decide, by decide⟩ | 1 => exact ⟨by decide, by decide⟩ | 2 => exact ⟨by decide, by decide⟩ | 3 => exact ⟨by decide, by decide⟩ | j + 4 => exact (show (0 : Int) ≤ 0 ∧ (0 : Int) ≤ 255 by decide)) (by omega) (by omega) hA) (fun r w hr => ?_)
  obtain ⟨rfl, rfl⟩ := hr
  refine ⟨?_, rfl⟩
  have e : (q 3 = 1 ∧ tk_seg A (q 1) (q 2 - q 1).toNat = [100, 111, 110, 101]) ↔ tk_C A (q 0) i = 17 := by
    obtain ⟨-, -, h2, h3, h4, -⟩ := h
    rw [h4, h3, h2]
    have t := tk_code_word hA (N := q 0) (s := tk_Q A (q 0) i) (i := 16) (w := [100, 111, 110, 101]) rfl
    exact t.symm
  simp only [e]
theorem c_is_latest (hd : 1 ≤ d) (hT : T.length < 1000) (hA : tk_ok A) (h : RSt A q i) : im_ct ro T d 63 [mr 0, mr 2000006] (RW 0 q A u c k) (fun r w => r = some (.inl (if tk_C A (q 0) i = 18 then 1 else 0)) ∧ w = RW 0 q A u c k) := by
  have hb := RSt_b h
  have h0 := h.1
  refine im_ct_mono (c_is (wl := [108, 97, 116, 101, 115, 116]) hd hT rd_s_latest rfl (by decide) (by decide) (by intro j; match j with | 0 => exact ⟨by decide, by decide⟩ | 1 => exact ⟨by decide, by decide⟩ | 2 => exact ⟨by decide, by decide⟩ | 3 => exact ⟨by decide, by decide⟩ | 4 => exact ⟨by decide, by decide⟩ | 5 => exact ⟨by decide, by decide⟩ | j + 6 => exact (show (0 : Int) ≤ 0 ∧ (0 : Int) ≤ 255 by decide)) (by omega) (by omega) hA) (fun r w hr => ?_)
  obtain ⟨rfl, rfl⟩ := hr
  refine ⟨?_, rfl⟩
  have e : (q 3 = 1 ∧ tk_seg A (q 1) (q 2 - q 1).toNat = [108, 97, 116, 101, 115, 116]) ↔ tk_C A (q 0) i = 18 := by
    obtain ⟨-, -, h2, h3, h4, -⟩ := h
    rw [h4, h3, h2]
    have t := tk_code_word hA (N := q 0) (s := tk_Q A (q 0) i) (i := 17) (w := [108, 97, 116, 101, 115, 116]) rfl
    exact t.symm
  simp only [e]
theorem c_is_sea (hd : 1 ≤ d) (hT : T.length < 1000) (hA : tk_ok A) (h : RSt A q i) : im_ct ro T d 63 [mr 0, mr 2000007] (RW 0 q A u c k) (fun r w => r = some (.inl (if tk_C A (q 0) i = 19 then 1 else 0)) ∧ w = RW 0 q A u c k) := by
  have hb := RSt_b h
  have h0 := h.1
  refine im_ct_mono (c_is (wl := [115, 101, 97]) hd hT rd_s_sea rfl (by decide) (by decide) (by intro j; match j with | 0 => exact ⟨by decide, by decide⟩ | 1 => exact ⟨by decide, by decide⟩ | 2 => exact ⟨by decide, by decide⟩ | j + 3 => exact (show (0 : Int) ≤ 0 ∧ (0 : Int) ≤ 255 by decide)) (by omega) (by omega) hA) (fun r w hr => ?_)
  obtain ⟨rfl, rfl⟩ := hr
  refine ⟨?_, rfl⟩
  have e : (q 3 = 1 ∧ tk_seg A (q 1) (q 2 - q 1).toNat = [115, 101, 97]) ↔ tk_C A (q 0) i = 19 := by
    obtain ⟨-, -, h2, h3, h4, -⟩ := h
    rw [h4, h3, h2]
    have t := tk_code_word hA (N := q 0) (s := tk_Q A (q 0) i) (i := 18) (w := [115, 101, 97]) rfl
    exact t.symm
  simp only [e]
theorem c_is_walking (hd : 1 ≤ d) (hT : T.length < 1000) (hA : tk_ok A) (h : RSt A q i) : im_ct ro T d 63 [mr 0, mr 2000008] (RW 0 q A u c k) (fun r w => r = some (.inl (if tk_C A (q 0) i = 20 then 1 else 0)) ∧ w = RW 0 q A u c k) := by
  have hb := RSt_b h
  have h0 := h.1
  refine im_ct_mono (c_is (wl := [119, 97, 108, 107, 105, 110, 103]) hd hT rd_s_walking rfl (by decide) (by decide) (by intro j; match j with | 0 => exact ⟨by decide, by decide⟩ | 1 => exact ⟨by decide, by decide⟩ | 2 => exact ⟨by decide, by decide⟩ | 3 => exact ⟨by decide, by decide⟩ | 4 => exact ⟨by decide, by decide⟩ | 5 => exact ⟨by decide, by decide⟩ | 6 => exact ⟨by decide, by decide⟩ | j + 7 => exact (show (0 : Int) ≤ 0 ∧ (0 : Int) ≤ 255 by decide)) (by omega) (by omega) hA) (fun r w hr => ?_)
  obtain ⟨rfl, rfl⟩ := hr
  refine ⟨?_, rfl⟩
  have e : (q 3 = 1 ∧ tk_seg A (q 1) (q 2 - q 1).toNat = [119, 97, 108, 107, 105, 110, 103]) ↔ tk_C A (q 0) i = 20 := by
    obtain ⟨-, -, h2, h3, h4, -⟩ := h
    rw [h4, h3, h2]
    have t := tk_code_word hA (N := q 0) (s := tk_Q A (q 0) i) (i := 19) (w := [119, 97, 108, 107, 105, 110, 103]) rfl
    exact t.symm
  simp only [e]
theorem c_is_reckon (hd : 1 ≤ d) (hT : T.length < 1000) (hA : tk_ok A) (h : RSt A q i) : im_ct ro T d 63 [mr 0, mr 2000000] (RW 0 q A u c k) (fun r w => r = some (.inl (if tk_C A (q 0) i = 21 then 1 else 0)) ∧ w = RW 0 q A u c k) := by
  have hb := RSt_b h
  have h0 := h.1
  refine im_ct_mono (c_is (wl := [114, 101, 99, 107, 111, 110]) hd hT rd_s_reckon rfl (by decide) (by decide) (by intro j; match j with | 0 => exact ⟨by decide, by decide⟩ | 1 => exact ⟨by decide, by decide⟩ | 2 => exact ⟨by decide, by decide⟩ | 3 => exact ⟨by decide, by decide⟩ | 4 => exact ⟨by decide, by decide⟩ | 5 => exact ⟨by decide, by decide⟩ | j + 6 => exact (show (0 : Int) ≤ 0 ∧ (0 : Int) ≤ 255 by decide)) (by omega) (by omega) hA) (fun r w hr => ?_)
  obtain ⟨rfl, rfl⟩ := hr
  refine ⟨?_, rfl⟩
  have e : (q 3 = 1 ∧ tk_seg A (q 1) (q 2 - q 1).toNat = [114, 101, 99, 107, 111, 110]) ↔ tk_C A (q 0) i = 21 := by
    obtain ⟨-, -, h2, h3, h4, -⟩ := h
    rw [h4, h3, h2]
    have t := tk_code_word hA (N := q 0) (s := tk_Q A (q 0) i) (i := 20) (w := [114, 101, 99, 107, 111, 110]) rfl
    exact t.symm
  simp only [e]
theorem c_is_pass (hd : 1 ≤ d) (hT : T.length < 1000) (hA : tk_ok A) (h : RSt A q i) : im_ct ro T d 63 [mr 0, mr 2000001] (RW 0 q A u c k) (fun r w => r = some (.inl (if tk_C A (q 0) i = 22 then 1 else 0)) ∧ w = RW 0 q A u c k) := by
  have hb := RSt_b h
  have h0 := h.1
  refine im_ct_mono (c_is (wl := [112, 97, 115, 115]) hd hT rd_s_pass rfl (by decide) (by decide) (by intro j; match j with | 0 => exact ⟨by decide, by decide⟩ | 1 => exact ⟨by decide, by decide⟩ | 2 => exact ⟨by decide, by decide⟩ | 3 => exact ⟨by decide, by decide⟩ | j + 4 => exact (show (0 : Int) ≤ 0 ∧ (0 : Int) ≤ 255 by decide)) (by omega) (by omega) hA) (fun r w hr => ?_)
  obtain ⟨rfl, rfl⟩ := hr
  refine ⟨?_, rfl⟩
  have e : (q 3 = 1 ∧ tk_seg A (q 1) (q 2 - q 1).toNat = [112, 97, 115, 115]) ↔ tk_C A (q 0) i = 22 := by
    obtain ⟨-, -, h2, h3, h4, -⟩ := h
    rw [h4, h3, h2]
    have t := tk_code_word hA (N := q 0) (s := tk_Q A (q 0) i) (i := 21) (w := [112, 97, 115, 115]) rfl
    exact t.symm
  simp only [e]
theorem c_is_lend (hd : 1 ≤ d) (hT : T.length < 1000) (hA : tk_ok A) (h : RSt A q i) : im_ct ro T d 63 [mr 0, mr 2000002] (RW 0 q A u c k) (fun r w => r = some (.inl (if tk_C A (q 0) i = 23 then 1 else 0)) ∧ w = RW 0 q A u c k) := by
  have hb := RSt_b h
  have h0 := h.1
  refine im_ct_mono (c_is (wl := [108, 101, 110, 100]) hd hT rd_s_lend rfl (by decide) (by decide) (by intro j; match j with | 0 => exact ⟨by decide, by decide⟩ | 1 => exact ⟨by decide, by decide⟩ | 2 => exact ⟨by decide, by decide⟩ | 3 => exact ⟨by decide, by decide⟩ | j + 4 => exact (show (0 : Int) ≤ 0 ∧ (0 : Int) ≤ 255 by decide)) (by omega) (by omega) hA) (fun r w hr => ?_)
  obtain ⟨rfl, rfl⟩ := hr
  refine ⟨?_, rfl⟩
  have e : (q 3 = 1 ∧ tk_seg A (q 1) (q 2 - q 1).toNat = [108, 101, 110, 100]) ↔ tk_C A (q 0) i = 23 := by
    obtain ⟨-, -, h2, h3, h4, -⟩ := h
    rw [h4, h3, h2]
    have t := tk_code_word hA (N := q 0) (s := tk_Q A (q 0) i) (i := 22) (w := [108, 101, 110, 100]) rfl
    exact t.symm
  simp only [e]
theorem c_is_to (hd : 1 ≤ d) (hT : T.length < 1000) (hA : tk_ok A) (h : RSt A q i) : im_ct ro T d 63 [mr 0, mr 2000016] (RW 0 q A u c k) (fun r w => r = some (.inl (if tk_C A (q 0) i = 24 then 1 else 0)) ∧ w = RW 0 q A u c k) := by
  have hb := RSt_b h
  have h0 := h.1
  refine im_ct_mono (c_is (wl := [116, 111]) hd hT rd_s_to rfl (by decide) (by decide) (by intro j; match j with | 0 => exact ⟨by decide, by decide⟩ | 1 => exact ⟨by decide, by decide⟩ | j + 2 => exact (show (0 : Int) ≤ 0 ∧ (0 : Int) ≤ 255 by decide)) (by omega) (by omega) hA) (fun r w hr => ?_)
  obtain ⟨rfl, rfl⟩ := hr
  refine ⟨?_, rfl⟩
  have e : (q 3 = 1 ∧ tk_seg A (q 1) (q 2 - q 1).toNat = [116, 111]) ↔ tk_C A (q 0) i = 24 := by
    obtain ⟨-, -, h2, h3, h4, -⟩ := h
    rw [h4, h3, h2]
    have t := tk_code_word hA (N := q 0) (s := tk_Q A (q 0) i) (i := 23) (w := [116, 111]) rfl
    exact t.symm
  simp only [e]
theorem c_is_grow (hd : 1 ≤ d) (hT : T.length < 1000) (hA : tk_ok A) (h : RSt A q i) : im_ct ro T d 63 [mr 0, mr 2000003] (RW 0 q A u c k) (fun r w => r = some (.inl (if tk_C A (q 0) i = 25 then 1 else 0)) ∧ w = RW 0 q A u c k) := by
  have hb := RSt_b h
  have h0 := h.1
  refine im_ct_mono (c_is (wl := [103, 114, 111, 119]) hd hT rd_s_grow rfl (by decide) (by decide) (by intro j; match j with | 0 => exact ⟨by decide, by decide⟩ | 1 => exact ⟨by decide, by decide⟩ | 2 => exact ⟨by decide, by decide⟩ | 3 => exact ⟨by decide, by decide⟩ | j + 4 => exact (show (0 : Int) ≤ 0 ∧ (0 : Int) ≤ 255 by decide)) (by omega) (by omega) hA) (fun r w hr => ?_)
  obtain ⟨rfl, rfl⟩ := hr
  refine ⟨?_, rfl⟩
  have e : (q 3 = 1 ∧ tk_seg A (q 1) (q 2 - q 1).toNat = [103, 114, 111, 119]) ↔ tk_C A (q 0) i = 25 := by
    obtain ⟨-, -, h2, h3, h4, -⟩ := h
    rw [h4, h3, h2]
    have t := tk_code_word hA (N := q 0) (s := tk_Q A (q 0) i) (i := 24) (w := [103, 114, 111, 119]) rfl
    exact t.symm
  simp only [e]
theorem c_is_by (hd : 1 ≤ d) (hT : T.length < 1000) (hA : tk_ok A) (h : RSt A q i) : im_ct ro T d 63 [mr 0, mr 2000017] (RW 0 q A u c k) (fun r w => r = some (.inl (if tk_C A (q 0) i = 26 then 1 else 0)) ∧ w = RW 0 q A u c k) := by
  have hb := RSt_b h
  have h0 := h.1
  refine im_ct_mono (c_is (wl := [98, 121]) hd hT rd_s_by rfl (by decide) (by decide) (by intro j; match j with | 0 => exact ⟨by decide, by decide⟩ | 1 => exact ⟨by decide, by decide⟩ | j + 2 => exact (show (0 : Int) ≤ 0 ∧ (0 : Int) ≤ 255 by decide)) (by omega) (by omega) hA) (fun r w hr => ?_)
  obtain ⟨rfl, rfl⟩ := hr
  refine ⟨?_, rfl⟩
  have e : (q 3 = 1 ∧ tk_seg A (q 1) (q 2 - q 1).toNat = [98, 121]) ↔ tk_C A (q 0) i = 26 := by
    obtain ⟨-, -, h2, h3, h4, -⟩ := h
    rw [h4, h3, h2]
    have t := tk_code_word hA (N := q 0) (s := tk_Q A (q 0) i) (i := 25) (w := [98, 121]) rfl
    exact t.symm
  simp only [e]
theorem c_is_times (hd : 1 ≤ d) (hT : T.length < 1000) (hA : tk_ok A) (h : RSt A q i) : im_ct ro T d 63 [mr 0, mr 2000018] (RW 0 q A u c k) (fun r w => r = some (.inl (if tk_C A (q 0) i = 27 then 1 else 0)) ∧ w = RW 0 q A u c k) := by
  have hb := RSt_b h
  have h0 := h.1
  refine im_ct_mono (c_is (wl := [116, 105, 109, 101, 115]) hd hT rd_s_times rfl (by decide) (by decide) (by intro j; match j with | 0 => exact ⟨by decide, by decide⟩ | 1 => exact ⟨by decide, by decide⟩ | 2 => exact ⟨by decide, by decide⟩ | 3 => exact ⟨by decide, by decide⟩ | 4 => exact ⟨by decide, by decide⟩ | j + 5 => exact (show (0 : Int) ≤ 0 ∧ (0 : Int) ≤ 255 by decide)) (by omega) (by omega) hA) (fun r w hr => ?_)
  obtain ⟨rfl, rfl⟩ := hr
  refine ⟨?_, rfl⟩
  have e : (q 3 = 1 ∧ tk_seg A (q 1) (q 2 - q 1).toNat = [116, 105, 109, 101, 115]) ↔ tk_C A (q 0) i = 27 := by
    obtain ⟨-, -, h2, h3, h4, -⟩ := h
    rw [h4, h3, h2]
    have t := tk_code_word hA (N := q 0) (s := tk_Q A (q 0) i) (i := 26) (w := [116, 105, 109, 101, 115]) rfl
    exact t.symm
  simp only [e]
set_option maxHeartbeats 8000000 in
theorem c_isSign (hd : 1 ≤ d) (hT : T.length < 1000) (hA : tk_ok A) (h : RSt A q i) {b : Int} (hb : 0 ≤ b ∧ b ≤ 255) : im_ct ro T d 64 [mr 0, .inl b] (RW 0 q A u c k) (fun r w => r = some (.inl (if tk_C A (q 0) i = 100 + b then 1 else 0)) ∧ w = RW 0 q A u c k) := by
  obtain ⟨d, rfl⟩ : ∃ e, d = e + 1 := ⟨d - 1, by omega⟩
  refine im_ct_of (own := 5) (ret := (some .boolean)) (code := ab_k_X5_isSign) (nL := 2) (L0 := [some (mr 0), some (.inl b)]) (n := 5) rfl rfl rfl rfl rfl rfl rfl rfl rfl ?_
  refine im_g 3 (y := (5, _, _, _)) rfl trivial ?_
  have hq := RSt_b h
  have h0 := h.1
  have ha := hA (q 1)
  refine im_b rfl rfl ⟨(by omega), (by omega), trivial⟩ (fun j1 => ?_) (fun j1 => ?_)
  · refine im_g 1 (y := (26, _, _, _)) rfl trivial ?_
    refine im_r rfl rfl ⟨(by decide), trivial⟩ rfl ?_
    have t := tk_code_sign hA (N := q 0) (s := q 1) (b := b)
    have hh := h
    obtain ⟨-, -, h2, h3, h4, -⟩ := hh
    have e : ¬ tk_C A (q 0) i = 100 + b := by
      show ¬ tk_code A (q 0) (tk_Q A (q 0) i) = 100 + b
      rw [← h2]
      intro z
      have t2 := t.mp ⟨z, hb.1⟩
      omega
    rw [if_neg e]
    exact ⟨rfl, rfl⟩
  · have hlt : q 1 < q 0 := by
      have h4 := h.2.2.2.2.1
      unfold tk_kind at h4
      split at h4
      · assumption
      · omega
    refine im_g 6 (y := (18, _, _, _)) rfl ⟨(by omega), trivial⟩ ?_
    refine im_b rfl rfl ⟨(by omega), (by omega), trivial⟩ (fun j2 => ?_) (fun j2 => ?_)
    · refine im_g 1 (y := (26, _, _, _)) rfl trivial ?_
      refine im_r rfl rfl ⟨(by decide), trivial⟩ rfl ?_
      have t := tk_code_sign hA (N := q 0) (s := q 1) (b := b)
      have hh := h
      obtain ⟨-, -, h2, h3, h4, -⟩ := hh
      have e : ¬ tk_C A (q 0) i = 100 + b := by
        show ¬ tk_code A (q 0) (tk_Q A (q 0) i) = 100 + b
        rw [← h2]
        intro z
        have t2 := t.mp ⟨z, hb.1⟩
        omega
      rw [if_neg e]
      exact ⟨rfl, rfl⟩
    · refine im_g 2 (y := (26, _, _, _)) rfl trivial ?_
      refine im_r rfl rfl ⟨(by decide), trivial⟩ rfl ?_
      have t := tk_code_sign hA (N := q 0) (s := q 1) (b := b)
      have hh := h
      obtain ⟨-, -, h2, h3, h4, -⟩ := hh
      have e : tk_C A (q 0) i = 100 + b := by
        show tk_code A (q 0) (tk_Q A (q 0) i) = 100 + b
        rw [← h2]
        exact (t.mpr ⟨h4.symm.trans (by omega), by omega⟩).1
      rw [if_pos e]
      exact ⟨rfl, rfl⟩
set_option maxHeartbeats 8000000 in
theorem c_isSignD (hd : 1 ≤ d) (hT : T.length < 1000) (h3 : q 3 = 4) {b : Int} : im_ct ro T d 64 [mr 0, .inl b] (RW 0 q A u c k) (fun r w => r = some (.inl 0) ∧ w = RW 0 q A u c k) := by
  obtain ⟨d, rfl⟩ : ∃ e, d = e + 1 := ⟨d - 1, by omega⟩
  refine im_ct_of (own := 5) (ret := (some .boolean)) (code := ab_k_X5_isSign) (nL := 2) (L0 := [some (mr 0), some (.inl b)]) (n := 5) rfl rfl rfl rfl rfl rfl rfl rfl rfl ?_
  refine im_g 3 (y := (5, _, _, _)) rfl trivial ?_
  refine im_bT rfl rfl ⟨(by omega), (by omega), trivial⟩ (by omega) ?_
  refine im_g 1 (y := (26, _, _, _)) rfl trivial ?_
  refine im_r rfl rfl ⟨(by decide), trivial⟩ rfl ?_
  exact ⟨rfl, rfl⟩
set_option maxHeartbeats 8000000 in
theorem c_number (hd : 1 ≤ d) (hT : T.length < 1000) (hA : tk_ok A) (h : RSt A q i) : im_ct ro T d 65 [mr 0] (RW 0 q A u c k) (fun r w => r = some (.inl (if tk_C A (q 0) i = 50 then min 1001 (tk_X A (q 0) i) else -1)) ∧ w = RW 0 q A u c k) := by
  obtain ⟨d, rfl⟩ : ∃ e, d = e + 1 := ⟨d - 1, by omega⟩
  refine im_ct_of (own := 5) (ret := (some .int)) (code := ab_k_X5_numberHere) (nL := 3) (L0 := [some (mr 0), none, none]) (n := 5) rfl rfl rfl rfl rfl rfl rfl rfl rfl ?_
  refine im_g 3 (y := (5, _, _, _)) rfl trivial ?_
  have hq := RSt_b h
  obtain ⟨h0, -, hq2, h3, h4, -⟩ := h
  refine im_b rfl rfl ⟨(by omega), (by omega), trivial⟩ (fun j1 => ?_) (fun j1 => ?_)
  · refine im_g 5 (y := (17, _, _, _)) rfl trivial ?_
    have h2 : tk_kind A (q 0) (q 1) = 2 := by rw [← h4]; omega
    have hdg := tk_digits h2
    have e := tk_num2 h2
    rw [← h3] at e hdg
    have ex : tk_X A (q 0) i = tk_val A (q 0) (q 1) := by rw [hq2]; rfl
    have ec : tk_C A (q 0) i = 50 := by show tk_code A (q 0) (tk_Q A (q 0) i) = 50; rw [← hq2]; exact (tk_code_num hA).mpr h2
    have key : ∀ (m : Nat) (a x : Int), a + m = q 2 → q 1 ≤ a → (0 ≤ x ∧ x ≤ 1001) → tk_n2 A m a x = min 1001 (tk_val A (q 0) (q 1)) → im_wp ro (ab_Ev ro ab_codes d) 5 (some .int) ab_k_X5_numberHere 5 T (fun r w => r = some (.inl (if tk_C A (q 0) i = 50 then min 1001 (tk_X A (q 0) i) else -1)) ∧ w = RW 0 q A u c k) (17, [some (mr 0), some (.inl (x)), some (.inl (a))], [], RW 0 q A u c k) := by
      intro m
      induction m with
      | zero =>
        intro a x ha1 ha2 hx hn
        refine im_g 3 (y := (22, _, _, _)) rfl trivial ?_
        refine im_bT rfl rfl ⟨(by omega), (by omega), trivial⟩ (by omega) ?_
        refine im_g 1 (y := (53, _, _, _)) rfl trivial ?_
        refine im_r rfl rfl trivial rfl ?_
        rw [if_pos ec, ex, ← hn]
        exact ⟨rfl, rfl⟩
      | succ m ih =>
        intro a x ha1 ha2 hx hn
        have hda := hdg a (by omega) (by omega)
        refine im_g 3 (y := (22, _, _, _)) rfl trivial ?_
        refine im_bF rfl rfl ⟨(by omega), (by omega), trivial⟩ (by omega) ?_
        refine im_g 15 (y := (17, _, _, _)) rfl ⟨(by omega), (by omega), (by omega), trivial⟩ ?_
        exact ih (a + 1) (min 1001 (x * 10 + A a - 48)) (by omega) (by omega) (by omega) hn
    exact key (q 2 - q 1).toNat (q 1) 0 (by omega) (by omega) (by decide) e
  · refine im_g 1 (y := (9, _, _, _)) rfl trivial ?_
    refine im_r rfl rfl trivial rfl ?_
    have ec : ¬ tk_C A (q 0) i = 50 := by
      show ¬ tk_code A (q 0) (tk_Q A (q 0) i) = 50
      rw [← hq2, tk_code_num hA]
      omega
    rw [if_neg ec]
    exact ⟨rfl, rfl⟩
set_option maxHeartbeats 8000000 in
theorem c_numberD (hd : 1 ≤ d) (hT : T.length < 1000) (h3 : q 3 = 4) : im_ct ro T d 65 [mr 0] (RW 0 q A u c k) (fun r w => r = some (.inl (-1)) ∧ w = RW 0 q A u c k) := by
  obtain ⟨d, rfl⟩ : ∃ e, d = e + 1 := ⟨d - 1, by omega⟩
  refine im_ct_of (own := 5) (ret := (some .int)) (code := ab_k_X5_numberHere) (nL := 3) (L0 := [some (mr 0), none, none]) (n := 5) rfl rfl rfl rfl rfl rfl rfl rfl rfl ?_
  refine im_g 3 (y := (5, _, _, _)) rfl trivial ?_
  refine im_bF rfl rfl ⟨(by omega), (by omega), trivial⟩ (by omega) ?_
  refine im_g 1 (y := (9, _, _, _)) rfl trivial ?_
  refine im_r rfl rfl trivial rfl ?_
  exact ⟨rfl, rfl⟩
set_option maxHeartbeats 8000000 in
theorem c_stepD (hd : 1 ≤ d) (hT : T.length < 1000) {f : Int} (h : RDd q f) : im_ct ro T d 61 [mr 0] (RW 0 q A u c k) (fun r w => r = none ∧ w = RW 0 q A u c k) := by
  obtain ⟨d, rfl⟩ : ∃ e, d = e + 1 := ⟨d - 1, by omega⟩
  refine im_ct_of (own := 5) (ret := none) (code := ab_k_X5_step) (nL := 2) (L0 := [some (mr 0), none]) (n := 5) rfl rfl rfl rfl rfl rfl rfl rfl rfl ?_
  refine im_g 3 (y := (5, _, _, _)) rfl trivial ?_
  obtain ⟨h0, h1, h3, h5, hf⟩ := h
  refine im_bF rfl rfl ⟨(by omega), (by omega), trivial⟩ (by omega) ?_
  refine im_g 3 (y := (13, _, _, _)) rfl trivial ?_
  refine im_bF rfl rfl ⟨(by omega), (by omega), trivial⟩ (by omega) ?_
  refine im_r rfl rfl trivial rfl ?_
  exact ⟨rfl, rfl⟩
set_option maxHeartbeats 8000000 in
theorem c_step (hd : 2 ≤ d) (hT : T.length < 1000) (hA : tk_ok A) (h : RSt A q i) : im_ct ro T d 61 [mr 0] (RW 0 q A u c k) (fun r w => r = none ∧ w = RW 0 (rd_next A q) A u c k) := by
  obtain ⟨d, rfl⟩ : ∃ e, d = e + 1 := ⟨d - 1, by omega⟩
  have hq := RSt_b h
  have h0 := h.1
  have hE := @tk_end_b A (q 0)
  have tl : ∀ a : Int, 0 ≤ a → a ≤ q 0 → a = tk_skip A (q 0) 401 (q 2) → im_wp ro (ab_Ev ro ab_codes d) 5 none ab_k_X5_step 5 T (fun r w => r = none ∧ w = RW 0 (rd_next A q) A u c k) (47, [some (mr 0), some (.inl a)], [], RW 0 q A u c k) := by
    intro a ha0 ha1 has
    have hAa := hA a
    refine im_g 3 (y := (52, _, _, _)) rfl trivial ?_
    have e0 : pl_U q 1 a 0 = q 0 := rfl
    refine im_g 4 (y := (58, _, _, _)) rfl trivial ?_
    refine im_b rfl rfl ⟨(by omega), (by omega), trivial⟩ (fun j1 => ?_) (fun j1 => ?_)
    · refine im_g 5 (y := (82, _, _, _)) rfl trivial ?_
      refine im_bT rfl rfl ⟨(by omega), (by omega), trivial⟩ (by first | omega | exact fun z => z (show q 0 ≤ a by omega)) ?_
      have hka : tk_kind A (q 0) a = 0 := if_neg (by omega)
      have hea : tk_end A (q 0) a = a := if_neg (by omega)
      refine im_eqs (y := (88, [some (mr 0), some (.inl a)], [], RW 0 (pl_U (pl_U q 1 a) 3 0) A u c k)) rfl ?_
      have e0 : pl_U (pl_U q 1 a) 3 0 0 = q 0 := rfl
      refine im_g 3 (y := (93, _, _, _)) rfl trivial ?_
      refine im_bT rfl rfl ⟨(by omega), (by omega), trivial⟩ (by omega) ?_
      refine im_g 3 (y := (131, _, _, _)) rfl trivial ?_
      refine im_r rfl rfl trivial rfl ?_
      unfold rd_next
      rw [← has, hka, hea]
      exact ⟨rfl, rfl⟩
    · refine im_g 4 (y := (67, _, _, _)) rfl ⟨(by omega), trivial⟩ ?_
      refine im_call [] rfl rfl (c_kindOf (x := A a) (by omega) hT (by omega)) rfl rfl rfl (by decide) rfl (by decide) hT (fun v1 w1 hq => ?_)
      obtain ⟨rfl, rfl⟩ := hq
      refine ⟨_, _, RW 0 (pl_U q 1 a) A u c k, rfl, rfl, rfl, ?_⟩
      refine im_g 5 (y := (82, _, _, _)) rfl trivial ?_
      refine im_bF rfl rfl ⟨(by omega), (by omega), trivial⟩ (by first | omega | (show ¬ q 0 ≤ a; omega)) ?_
      refine im_g 1 (y := (88, _, _, _)) rfl trivial ?_
      have hka : tk_kind A (q 0) a = tk_kd (A a) := if_pos (by omega)
      have hea : tk_end A (q 0) a = tk_ext A (q 0) (tk_kd (A a)) 401 (a + 1) := if_pos (by omega)
      have hkb := tk_kd_b (A a)
      have ke : ∀ (m : Nat) (b : Int), q 0 - b < m → 0 ≤ b → b ≤ q 0 → tk_ext A (q 0) (tk_kd (A a)) m b = tk_end A (q 0) a → im_wp ro (ab_Ev ro ab_codes d) 5 none ab_k_X5_step 5 T (fun r w => r = none ∧ w = RW 0 (rd_next A q) A u c k) (88, [some (mr 0), some (.inl b)], [], RW 0 (pl_U (pl_U q 1 a) 3 (tk_kd (A a))) A u c k) := by
        intro m
        induction m with
        | zero => intro b h1; omega
        | succ m ih =>
          intro b hb1 hb2 hb3 he
          have hAb := hA b
          have hkb2 := tk_kd_b (A b)
          unfold tk_ext at he
          have e0 : pl_U (pl_U q 1 a) 3 (tk_kd (A a)) 0 = q 0 := rfl
          refine im_g 3 (y := (93, _, _, _)) rfl trivial ?_
          refine im_b rfl rfl ⟨(by omega), (by omega), trivial⟩ (fun j1 => ?_) (fun j1 => ?_)
          · refine im_g 3 (y := (131, _, _, _)) rfl trivial ?_
            refine im_r rfl rfl trivial rfl ?_
            rw [if_neg (by omega)] at he
            unfold rd_next
            rw [← has, ← he, hka]
            exact ⟨rfl, rfl⟩
          · have e3 : pl_U (pl_U q 1 a) 3 (tk_kd (A a)) 3 = tk_kd (A a) := rfl
            refine im_g 3 (y := (101, _, _, _)) rfl trivial ?_
            refine im_b rfl rfl ⟨(by first | decide | (show im_ir (tk_kd (A a)); omega)), (by first | decide | (show im_ir (tk_kd (A a)); omega)), trivial⟩ (fun j2 => ?_) (fun j2 => ?_)
            · refine im_g 3 (y := (131, _, _, _)) rfl trivial ?_
              refine im_r rfl rfl trivial rfl ?_
              rw [if_neg (by omega)] at he
              unfold rd_next
              rw [← has, ← he, hka]
              exact ⟨rfl, rfl⟩
            · refine im_g 4 (y := (110, _, _, _)) rfl ⟨(by omega), trivial⟩ ?_
              refine im_call [] rfl rfl (c_kindOf (x := A b) (by omega) hT (by omega)) rfl rfl rfl (by decide) rfl (by decide) hT (fun v1 w1 hq => ?_)
              obtain ⟨rfl, rfl⟩ := hq
              refine ⟨_, _, RW 0 (pl_U (pl_U q 1 a) 3 (tk_kd (A a))) A u c k, rfl, rfl, rfl, ?_⟩
              refine im_g 2 (y := (117, _, _, _)) rfl trivial ?_
              refine im_b rfl rfl ⟨(by first | omega | (show im_ir (tk_kd (A a)); omega)), (by first | omega | (show im_ir (tk_kd (A a)); omega)), trivial⟩ (fun j3 => ?_) (fun j3 => ?_)
              · refine im_g 3 (y := (131, _, _, _)) rfl trivial ?_
                refine im_r rfl rfl trivial rfl ?_
                rw [if_neg (by omega)] at he
                unfold rd_next
                rw [← has, ← he, hka]
                exact ⟨rfl, rfl⟩
              · refine im_g 2 (y := (88, _, _, _)) rfl trivial ?_
                rw [if_pos (by omega)] at he
                exact ih (b + 1) (by omega) (by omega) (by omega) he
      exact ke 401 (a + 1) (by omega) (by omega) (by omega) hea.symm
  refine im_ct_of (own := 5) (ret := none) (code := ab_k_X5_step) (nL := 2) (L0 := [some (mr 0), none]) (n := 5) rfl rfl rfl rfl rfl rfl rfl rfl rfl ?_
  refine im_g 3 (y := (5, _, _, _)) rfl trivial ?_
  have hq := RSt_b h
  have h0 := h.1
  have h5 := h.2.2.2.2.2
  refine im_bT rfl rfl ⟨(by omega), (by omega), trivial⟩ (by omega) ?_
  refine im_g 3 (y := (22, _, _, _)) rfl trivial ?_
  have key : ∀ (m : Nat) (a : Int), q 0 - a < m → 0 ≤ a → a ≤ q 0 → tk_skip A (q 0) m a = tk_skip A (q 0) 401 (q 2) → im_wp ro (ab_Ev ro ab_codes d) 5 none ab_k_X5_step 5 T (fun r w => r = none ∧ w = RW 0 (rd_next A q) A u c k) (22, [some (mr 0), some (.inl a)], [], RW 0 q A u c k) := by
    intro m
    induction m with
    | zero => intro a h1; omega
    | succ m ih =>
      intro a ha1 ha2 ha3 hs
      have hAa := hA a
      unfold tk_skip at hs
      refine im_g 3 (y := (27, _, _, _)) rfl trivial ?_
      refine im_b rfl rfl ⟨(by omega), (by omega), trivial⟩ (fun j1 => ?_) (fun j1 => ?_)
      · rw [if_neg (by omega)] at hs
        exact tl a ha2 ha3 hs
      · refine im_g 5 (y := (38, _, _, _)) rfl ⟨(by omega), trivial⟩ ?_
        refine im_b rfl rfl ⟨(by omega), (by omega), trivial⟩ (fun j2 => ?_) (fun j2 => ?_)
        · rw [if_neg (by omega)] at hs
          exact tl a ha2 ha3 hs
        · refine im_g 2 (y := (22, _, _, _)) rfl trivial ?_
          rw [if_pos (by omega)] at hs
          exact ih (a + 1) (by omega) (by omega) (by omega) hs
  exact key 401 (q 2) (by omega) (by omega) (by omega) rfl
end Rt
