/-! the tape in the relation; lands that are copied; texts of a land's laws -/
theorem by_byte (y : Int) : im_byte y % 256 = y % 256 := by
  unfold im_byte Int.bmod
  dsimp only
  split <;> omega
theorem by_u0 {x : Int} (h : im_ir x) : im_ushr x 24 % 256 = (x / 16777216) % 256 := by
  have e : ((Int32.ofInt x).toUInt32 >>> ((Int32.ofInt 24).toUInt32 &&& Int32.toUInt32 31)).toBitVec.toNat = (x % 4294967296).toNat / 16777216 := by
    show ((Int32.ofInt x).toUInt32 >>> ((Int32.ofInt 24).toUInt32 &&& Int32.toUInt32 31)).toNat = _
    rw [UInt32.toNat_shiftRight, show ((Int32.ofInt 24).toUInt32 &&& Int32.toUInt32 31).toNat % 32 = 24 by decide, Nat.shiftRight_eq_div_pow]
    show (BitVec.ofInt 32 x).toNat / 2 ^ 24 = _
    rw [BitVec.toNat_ofInt]
    rfl
  unfold im_ushr
  show ((Int32.ofInt x).toUInt32 >>> ((Int32.ofInt 24).toUInt32 &&& Int32.toUInt32 31)).toBitVec.toInt % 256 = _
  rw [BitVec.toInt_eq_toNat_cond, e]
  obtain ⟨h1, h2⟩ := h
  split <;> omega
theorem by_s0 {x : Int} (h : im_ir x) : im_shr x 24 = x / 16777216 := by
  unfold im_shr
  rw [← Int32.toInt_toBitVec, Int32.toBitVec_shiftRight, BitVec.toInt_sshiftRight', show ((Int32.ofInt 24 &&& 31).toBitVec.smod 32).toNat = 24 by decide, Int.shiftRight_eq_div_pow, Int32.toInt_toBitVec, im_i h]
  rfl
theorem by_v0 {x : Int} (h : im_ir x) : im_and (im_ushr x 24) 255 = im_byte (im_shr x 24) % 256 := by
  rw [im_and255, by_byte, by_u0 h, by_s0 h]
theorem by_u1 {x : Int} (h : im_ir x) : im_ushr x 16 % 256 = (x / 65536) % 256 := by
  have e : ((Int32.ofInt x).toUInt32 >>> ((Int32.ofInt 16).toUInt32 &&& Int32.toUInt32 31)).toBitVec.toNat = (x % 4294967296).toNat / 65536 := by
    show ((Int32.ofInt x).toUInt32 >>> ((Int32.ofInt 16).toUInt32 &&& Int32.toUInt32 31)).toNat = _
    rw [UInt32.toNat_shiftRight, show ((Int32.ofInt 16).toUInt32 &&& Int32.toUInt32 31).toNat % 32 = 16 by decide, Nat.shiftRight_eq_div_pow]
    show (BitVec.ofInt 32 x).toNat / 2 ^ 16 = _
    rw [BitVec.toNat_ofInt]
    rfl
  unfold im_ushr
  show ((Int32.ofInt x).toUInt32 >>> ((Int32.ofInt 16).toUInt32 &&& Int32.toUInt32 31)).toBitVec.toInt % 256 = _
  rw [BitVec.toInt_eq_toNat_cond, e]
  obtain ⟨h1, h2⟩ := h
  split <;> omega
theorem by_s1 {x : Int} (h : im_ir x) : im_shr x 16 = x / 65536 := by
  unfold im_shr
  rw [← Int32.toInt_toBitVec, Int32.toBitVec_shiftRight, BitVec.toInt_sshiftRight', show ((Int32.ofInt 16 &&& 31).toBitVec.smod 32).toNat = 16 by decide, Int.shiftRight_eq_div_pow, Int32.toInt_toBitVec, im_i h]
  rfl
theorem by_v1 {x : Int} (h : im_ir x) : im_and (im_ushr x 16) 255 = im_byte (im_shr x 16) % 256 := by
  rw [im_and255, by_byte, by_u1 h, by_s1 h]
theorem by_u2 {x : Int} (h : im_ir x) : im_ushr x 8 % 256 = (x / 256) % 256 := by
  have e : ((Int32.ofInt x).toUInt32 >>> ((Int32.ofInt 8).toUInt32 &&& Int32.toUInt32 31)).toBitVec.toNat = (x % 4294967296).toNat / 256 := by
    show ((Int32.ofInt x).toUInt32 >>> ((Int32.ofInt 8).toUInt32 &&& Int32.toUInt32 31)).toNat = _
    rw [UInt32.toNat_shiftRight, show ((Int32.ofInt 8).toUInt32 &&& Int32.toUInt32 31).toNat % 32 = 8 by decide, Nat.shiftRight_eq_div_pow]
    show (BitVec.ofInt 32 x).toNat / 2 ^ 8 = _
    rw [BitVec.toNat_ofInt]
    rfl
  unfold im_ushr
  show ((Int32.ofInt x).toUInt32 >>> ((Int32.ofInt 8).toUInt32 &&& Int32.toUInt32 31)).toBitVec.toInt % 256 = _
  rw [BitVec.toInt_eq_toNat_cond, e]
  obtain ⟨h1, h2⟩ := h
  split <;> omega
theorem by_s2 {x : Int} (h : im_ir x) : im_shr x 8 = x / 256 := by
  unfold im_shr
  rw [← Int32.toInt_toBitVec, Int32.toBitVec_shiftRight, BitVec.toInt_sshiftRight', show ((Int32.ofInt 8 &&& 31).toBitVec.smod 32).toNat = 8 by decide, Int.shiftRight_eq_div_pow, Int32.toInt_toBitVec, im_i h]
  rfl
theorem by_v2 {x : Int} (h : im_ir x) : im_and (im_ushr x 8) 255 = im_byte (im_shr x 8) % 256 := by
  rw [im_and255, by_byte, by_u2 h, by_s2 h]
theorem by_u3 {x : Int} (h : im_ir x) : im_ushr x 0 % 256 = (x / 1) % 256 := by
  have e : ((Int32.ofInt x).toUInt32 >>> ((Int32.ofInt 0).toUInt32 &&& Int32.toUInt32 31)).toBitVec.toNat = (x % 4294967296).toNat / 1 := by
    show ((Int32.ofInt x).toUInt32 >>> ((Int32.ofInt 0).toUInt32 &&& Int32.toUInt32 31)).toNat = _
    rw [UInt32.toNat_shiftRight, show ((Int32.ofInt 0).toUInt32 &&& Int32.toUInt32 31).toNat % 32 = 0 by decide, Nat.shiftRight_eq_div_pow]
    show (BitVec.ofInt 32 x).toNat / 2 ^ 0 = _
    rw [BitVec.toNat_ofInt]
    rfl
  unfold im_ushr
  show ((Int32.ofInt x).toUInt32 >>> ((Int32.ofInt 0).toUInt32 &&& Int32.toUInt32 31)).toBitVec.toInt % 256 = _
  rw [BitVec.toInt_eq_toNat_cond, e]
  obtain ⟨h1, h2⟩ := h
  split <;> omega
theorem by_s3 {x : Int} (h : im_ir x) : im_shr x 0 = x / 1 := by
  unfold im_shr
  rw [← Int32.toInt_toBitVec, Int32.toBitVec_shiftRight, BitVec.toInt_sshiftRight', show ((Int32.ofInt 0 &&& 31).toBitVec.smod 32).toNat = 0 by decide, Int.shiftRight_eq_div_pow, Int32.toInt_toBitVec, im_i h]
  rfl
theorem by_v3 {x : Int} (h : im_ir x) : im_and (im_ushr x 0) 255 = im_byte (im_shr x 0) % 256 := by
  rw [im_and255, by_byte, by_u3 h, by_s3 h]
theorem by_up {A B : Int → Int} {p p' a c : Int} (h : ∀ i, A i = B i % 256) (hp : p = p') (hv : a = c % 256) : ∀ i, im_up A p a i = im_up B p' c i % 256 := fun i => by
  subst hp
  unfold im_up
  split
  · exact hv
  · exact h i
theorem by_fd {A B F0 : Int → Int} {b x1 x2 x3 x4 x5 : Int} (h : ∀ i, A i = B i % 256) (h1 : im_ir x1) (h2 : im_ir x2) (h3 : im_ir x3) (h4 : im_ir x4) (h5 : im_ir x5) : ∀ i, cw_fd b x1 x2 x3 x4 x5 A i = kp_fd b (kp_five x1 x2 x3 x4 x5 F0) B 20 i % 256 := by
  have t0 : ∀ i, (ob_four x1 (b) A 0) i = kp_fd b (kp_five x1 x2 x3 x4 x5 F0) B 0 i % 256 := h
  have t1 : ∀ i, ob_four x1 (b) A 1 i = kp_fd b (kp_five x1 x2 x3 x4 x5 F0) B 1 i % 256 := by_up t0 (show b + ((0 : Nat) : Int) = b + ((0 : Nat) : Int) by omega) (by_v0 h1)
  have t2 : ∀ i, ob_four x1 (b) A 2 i = kp_fd b (kp_five x1 x2 x3 x4 x5 F0) B 2 i % 256 := by_up t1 (show b + ((1 : Nat) : Int) = b + ((1 : Nat) : Int) by omega) (by_v1 h1)
  have t3 : ∀ i, ob_four x1 (b) A 3 i = kp_fd b (kp_five x1 x2 x3 x4 x5 F0) B 3 i % 256 := by_up t2 (show b + ((2 : Nat) : Int) = b + ((2 : Nat) : Int) by omega) (by_v2 h1)
  have t4 : ∀ i, ob_four x1 (b) A 4 i = kp_fd b (kp_five x1 x2 x3 x4 x5 F0) B 4 i % 256 := by_up t3 (show b + ((3 : Nat) : Int) = b + ((3 : Nat) : Int) by omega) (by_v3 h1)
  have t5 : ∀ i, ob_four x2 (b + 4) (ob_four x1 (b) A 4) 1 i = kp_fd b (kp_five x1 x2 x3 x4 x5 F0) B 5 i % 256 := by_up t4 (show b + 4 + ((0 : Nat) : Int) = b + ((4 : Nat) : Int) by omega) (by_v0 h2)
  have t6 : ∀ i, ob_four x2 (b + 4) (ob_four x1 (b) A 4) 2 i = kp_fd b (kp_five x1 x2 x3 x4 x5 F0) B 6 i % 256 := by_up t5 (show b + 4 + ((1 : Nat) : Int) = b + ((5 : Nat) : Int) by omega) (by_v1 h2)
  have t7 : ∀ i, ob_four x2 (b + 4) (ob_four x1 (b) A 4) 3 i = kp_fd b (kp_five x1 x2 x3 x4 x5 F0) B 7 i % 256 := by_up t6 (show b + 4 + ((2 : Nat) : Int) = b + ((6 : Nat) : Int) by omega) (by_v2 h2)
  have t8 : ∀ i, ob_four x2 (b + 4) (ob_four x1 (b) A 4) 4 i = kp_fd b (kp_five x1 x2 x3 x4 x5 F0) B 8 i % 256 := by_up t7 (show b + 4 + ((3 : Nat) : Int) = b + ((7 : Nat) : Int) by omega) (by_v3 h2)
  have t9 : ∀ i, ob_four x3 (b + 4 + 4) (ob_four x2 (b + 4) (ob_four x1 (b) A 4) 4) 1 i = kp_fd b (kp_five x1 x2 x3 x4 x5 F0) B 9 i % 256 := by_up t8 (show b + 4 + 4 + ((0 : Nat) : Int) = b + ((8 : Nat) : Int) by omega) (by_v0 h3)
  have t10 : ∀ i, ob_four x3 (b + 4 + 4) (ob_four x2 (b + 4) (ob_four x1 (b) A 4) 4) 2 i = kp_fd b (kp_five x1 x2 x3 x4 x5 F0) B 10 i % 256 := by_up t9 (show b + 4 + 4 + ((1 : Nat) : Int) = b + ((9 : Nat) : Int) by omega) (by_v1 h3)
  have t11 : ∀ i, ob_four x3 (b + 4 + 4) (ob_four x2 (b + 4) (ob_four x1 (b) A 4) 4) 3 i = kp_fd b (kp_five x1 x2 x3 x4 x5 F0) B 11 i % 256 := by_up t10 (show b + 4 + 4 + ((2 : Nat) : Int) = b + ((10 : Nat) : Int) by omega) (by_v2 h3)
  have t12 : ∀ i, ob_four x3 (b + 4 + 4) (ob_four x2 (b + 4) (ob_four x1 (b) A 4) 4) 4 i = kp_fd b (kp_five x1 x2 x3 x4 x5 F0) B 12 i % 256 := by_up t11 (show b + 4 + 4 + ((3 : Nat) : Int) = b + ((11 : Nat) : Int) by omega) (by_v3 h3)
  have t13 : ∀ i, ob_four x4 (b + 4 + 4 + 4) (ob_four x3 (b + 4 + 4) (ob_four x2 (b + 4) (ob_four x1 (b) A 4) 4) 4) 1 i = kp_fd b (kp_five x1 x2 x3 x4 x5 F0) B 13 i % 256 := by_up t12 (show b + 4 + 4 + 4 + ((0 : Nat) : Int) = b + ((12 : Nat) : Int) by omega) (by_v0 h4)
  have t14 : ∀ i, ob_four x4 (b + 4 + 4 + 4) (ob_four x3 (b + 4 + 4) (ob_four x2 (b + 4) (ob_four x1 (b) A 4) 4) 4) 2 i = kp_fd b (kp_five x1 x2 x3 x4 x5 F0) B 14 i % 256 := by_up t13 (show b + 4 + 4 + 4 + ((1 : Nat) : Int) = b + ((13 : Nat) : Int) by omega) (by_v1 h4)
  have t15 : ∀ i, ob_four x4 (b + 4 + 4 + 4) (ob_four x3 (b + 4 + 4) (ob_four x2 (b + 4) (ob_four x1 (b) A 4) 4) 4) 3 i = kp_fd b (kp_five x1 x2 x3 x4 x5 F0) B 15 i % 256 := by_up t14 (show b + 4 + 4 + 4 + ((2 : Nat) : Int) = b + ((14 : Nat) : Int) by omega) (by_v2 h4)
  have t16 : ∀ i, ob_four x4 (b + 4 + 4 + 4) (ob_four x3 (b + 4 + 4) (ob_four x2 (b + 4) (ob_four x1 (b) A 4) 4) 4) 4 i = kp_fd b (kp_five x1 x2 x3 x4 x5 F0) B 16 i % 256 := by_up t15 (show b + 4 + 4 + 4 + ((3 : Nat) : Int) = b + ((15 : Nat) : Int) by omega) (by_v3 h4)
  have t17 : ∀ i, ob_four x5 (b + 4 + 4 + 4 + 4) (ob_four x4 (b + 4 + 4 + 4) (ob_four x3 (b + 4 + 4) (ob_four x2 (b + 4) (ob_four x1 (b) A 4) 4) 4) 4) 1 i = kp_fd b (kp_five x1 x2 x3 x4 x5 F0) B 17 i % 256 := by_up t16 (show b + 4 + 4 + 4 + 4 + ((0 : Nat) : Int) = b + ((16 : Nat) : Int) by omega) (by_v0 h5)
  have t18 : ∀ i, ob_four x5 (b + 4 + 4 + 4 + 4) (ob_four x4 (b + 4 + 4 + 4) (ob_four x3 (b + 4 + 4) (ob_four x2 (b + 4) (ob_four x1 (b) A 4) 4) 4) 4) 2 i = kp_fd b (kp_five x1 x2 x3 x4 x5 F0) B 18 i % 256 := by_up t17 (show b + 4 + 4 + 4 + 4 + ((1 : Nat) : Int) = b + ((17 : Nat) : Int) by omega) (by_v1 h5)
  have t19 : ∀ i, ob_four x5 (b + 4 + 4 + 4 + 4) (ob_four x4 (b + 4 + 4 + 4) (ob_four x3 (b + 4 + 4) (ob_four x2 (b + 4) (ob_four x1 (b) A 4) 4) 4) 4) 3 i = kp_fd b (kp_five x1 x2 x3 x4 x5 F0) B 19 i % 256 := by_up t18 (show b + 4 + 4 + 4 + 4 + ((2 : Nat) : Int) = b + ((18 : Nat) : Int) by omega) (by_v2 h5)
  have t20 : ∀ i, ob_four x5 (b + 4 + 4 + 4 + 4) (ob_four x4 (b + 4 + 4 + 4) (ob_four x3 (b + 4 + 4) (ob_four x2 (b + 4) (ob_four x1 (b) A 4) 4) 4) 4) 4 i = kp_fd b (kp_five x1 x2 x3 x4 x5 F0) B 20 i % 256 := by_up t19 (show b + 4 + 4 + 4 + 4 + ((3 : Nat) : Int) = b + ((19 : Nat) : Int) by omega) (by_v3 h5)
  exact t20
theorem kp_fd_b {t : Int} {F A : Int → Int} (h : ∀ i, -128 ≤ A i ∧ A i ≤ 127) : ∀ (k : Nat) (i : Int), -128 ≤ kp_fd t F A k i ∧ kp_fd t F A k i ≤ 127
  | 0, i => h i
  | k + 1, i => by
    show -128 ≤ im_up _ _ _ i ∧ im_up _ _ _ i ≤ 127
    unfold im_up
    split
    · have := im_byte_b (im_shr (F ((k : Int).tdiv 4)) (24 - 8 * (k : Int).tmod 4))
      omega
    · exact kp_fd_b h k i
theorem ob_tape_7 {at_ b : Int} {A : Int → Int} {v : Nat → Int} {R : Nat → Int → Int} : (ob_tape at_ b A v R).2.2 7 = R 7 := by
  unfold ob_tape
  split
  · rfl
  · show (pl_add _ _ v R).2.2 7 = R 7
    unfold pl_add
    split
    · rfl
    split
    · rfl
    · rfl
theorem rk_7 {A : Int → Int} {b : Int} {v : Nat → Int} {R : Nat → Int → Int} : ∀ k : Nat, (rk A b v R k).2.2 7 = R 7
  | 0 => rfl
  | k + 1 => (ob_tape_7 (R := (rk A b v R k).2.2)).trans (rk_7 k)
section Rtp
variable {A : Int → Int} {tn : Int} {lv : Nat → Int} {L : Nat → Int → Int} {Q : Int → im_T} {f k : Int} {rw_ : Int → Int} {fr : Int → Int} {st fl sp sn : Int} {ik : Int → Int} {i0 i1 : (Nat → Int) × (Nat → Int → Int) × (Int → im_T)} {yk : Int} {yv : Nat → Int} {yR : Nat → Int → Int} {v v' : Nat → Int} {R R' : Nat → Int → Int}
theorem RST_tape (h : RST A tn lv L Q f k rw_ fr st fl sp sn ik i0 i1 yk yv yR v R) {A' : Int → Int} {tn' : Int} (hA : TA A' R') (h13 : v' 13 = tn') (hb : 0 ≤ tn' ∧ tn' ≤ 400) (hv : ∀ j, j ≠ 13 → v' j = v j) (hR : ∀ j ∈ [1, 2, 3, 4, 6, 14, 22, 23], R' j = R j) : RST A' tn' lv L Q f k rw_ fr st fl sp sn ik i0 i1 yk yv yR v' R' := by
  obtain ⟨hB, g2, -, g6, hp, hf, ⟨g0, g7, g8, g9⟩, g10, ⟨g11, g12⟩, g13⟩ := h
  have e1 := hR 1 (by decide)
  have e2 := hR 2 (by decide)
  have e3 := hR 3 (by decide)
  have e4 := hR 4 (by decide)
  have e6 := hR 6 (by decide)
  have e14 := hR 14 (by decide)
  have e22 := hR 22 (by decide)
  have e23 := hR 23 (by decide)
  refine ⟨?_, (hv 30 (by decide)).trans g2, ⟨hA, h13, hb⟩, ?_, ?_, ?_, ⟨(hv 0 (by decide)).trans g0, (hv 14 (by decide)).trans g7, (hv 41 (by decide)).trans g8, (hv 6 (by decide)).trans g9⟩, ?_, ⟨RIM_fr g11 e3 e4, RIM_fr g12 e3 e4⟩, RYS_fr g13 (hv 49 (by decide)) (hv 50 (by decide)) e23⟩
  · rw [e2]; exact hB
  · rw [e6]; exact g6
  · rw [hv 34 (by decide), e14]; exact hp
  · rw [e1]; exact hf
  · rw [e22]; exact g10
theorem RST_feed (h : RST A tn lv L Q f k rw_ fr st fl sp sn ik i0 i1 yk yv yR v R) (hn : tn ≤ 380) {x1 x2 x3 x4 x5 : Int} (h1 : im_ir x1) (h2 : im_ir x2) (h3 : im_ir x3) (h4 : im_ir x4) (h5 : im_ir x5) : RST (cw_fd tn x1 x2 x3 x4 x5 A) (tn + 20) lv L Q f k rw_ fr st fl sp sn ik i0 i1 yk yv yR (pl_U v 13 (v 13 + 20)) (pl_U (pl_U R 8 (kp_five x1 x2 x3 x4 x5 (R 8))) 7 (kp_fd (v 13) (kp_five x1 x2 x3 x4 x5 (R 8)) (R 7) 20)) := by
  obtain ⟨hA, h13, hb⟩ := h.2.2.1
  refine RST_tape h ⟨?_, ?_⟩ ?_ (by omega) (fun j hj => if_neg hj) (fun j hj => ?_)
  · show ∀ i, cw_fd tn x1 x2 x3 x4 x5 A i = kp_fd (v 13) (kp_five x1 x2 x3 x4 x5 (R 8)) (R 7) 20 i % 256
    rw [h13]
    exact by_fd hA.1 h1 h2 h3 h4 h5
  · exact kp_fd_b hA.2 20
  · show v 13 + 20 = tn + 20
    rw [h13]
  · have e7 : j ≠ 7 ∧ j ≠ 8 := by
      simp only [List.mem_cons, List.not_mem_nil, or_false] at hj
      omega
    unfold pl_U
    rw [if_neg e7.1, if_neg e7.2]
theorem RST_end (h : RST A tn lv L Q f k rw_ fr st fl sp sn ik i0 i1 yk yv yR v R) {n : Int} (hn : 0 ≤ n ∧ n ≤ tn) : RST A n lv L Q f k rw_ fr st fl sp sn ik i0 i1 yk yv yR (pl_U v 13 n) R := by
  obtain ⟨hA, h13, hb⟩ := h.2.2.1
  exact RST_tape h hA rfl (by omega) (fun j hj => if_neg hj) (fun _ _ => rfl)
theorem RST_row (h : RST A tn lv L Q f k rw_ fr st fl sp sn ik i0 i1 yk yv yR v R) {Rx : Nat → Int → Int} (hj : ∀ j, j ≠ 2 → Rx j = R j) (hr : KR (Rx 2) (rk A tn lv L (rk_n tn)).2.1 (rk A tn lv L (rk_n tn)).2.2) (hf : ∀ i, 111 ≤ i → Rx 2 i = R 2 i) : RST A 0 (rk A tn lv L (rk_n tn)).2.1 (rk A tn lv L (rk_n tn)).2.2 Q f 0 rw_ fr 0 fl sp (rk A tn lv L (rk_n tn)).1.2 ik i0 i1 yk yv yR (pl_U (pl_U (pl_U (pl_U v 13 0) 6 (rk A tn lv L (rk_n tn)).1.2) 34 0) 0 0) Rx := by
  obtain ⟨hB, g2, ⟨hA, -, -⟩, g6, hp, hfr, ⟨-, g7, g8, -⟩, g10, ⟨g11, g12⟩, g13⟩ := h
  have hok := (rk_ok (A := A) (b := tn) hB.2.1 (rk_n tn)).1
  have e7 := rk_7 (A := A) (b := tn) (v := lv) (R := L) (rk_n tn)
  have e4 : (rk A tn lv L (rk_n tn)).2.1 4 = lv 4 := by
    have e1 := hB.1.1.2.2.2.2.1
    have e2 := hr.1.2.2.2.2.1
    rw [← e1, ← e2]
    exact hf 112 (by decide)
  refine ⟨KB_num hB hr hok (by rw [e7]; exact hB.2.2.1) e4 (fun i a b => hf i (by omega)), g2, ⟨TA_fr hA (hj 7 (by decide)), rfl, ⟨Int.le_refl _, by decide⟩⟩, ?_, PSR_0 _ _ hp.1.1 _, ?_, ⟨rfl, g7, g8, rfl⟩, ?_, ⟨RIM_fr g11 (hj 3 (by decide)) (hj 4 (by decide)), RIM_fr g12 (hj 3 (by decide)) (hj 4 (by decide))⟩, RYS_fr g13 rfl rfl (hj 23 (by decide))⟩
  · rw [hj 6 (by decide)]; exact g6
  · rw [hj 1 (by decide)]; exact hfr
  · rw [hj 22 (by decide)]; exact g10
/-- other images, another land of the same numbers -/
theorem RST_ims (h : RST A tn lv L Q f k rw_ fr st fl sp sn ik i0 i1 yk yv yR v R) {j0 j1 : (Nat → Int) × (Nat → Int → Int) × (Int → im_T)} (h0 : RIM R ik 0 j0) (h1 : RIM R ik 1 j1) : RST A tn lv L Q f k rw_ fr st fl sp sn ik j0 j1 yk yv yR v R := by
  obtain ⟨hB, g2, g3, g6, hp, hf, g7, g10, -, g13⟩ := h
  exact ⟨hB, g2, g3, g6, hp, hf, g7, g10, ⟨h0, h1⟩, g13⟩
theorem RST_land (h : RST A tn lv L Q f k rw_ fr st fl sp sn ik i0 i1 yk yv yR v R) {lv' : Nat → Int} {L' : Nat → Int → Int} {Q' : Int → im_T} (hK : KB (R 2) lv' L' Q') (h0 : lv' 0 = lv 0) : RST A tn lv' L' Q' f k rw_ fr st fl sp sn ik i0 i1 yk yv yR v R := by
  obtain ⟨hB, g2, g3, g6, hp, hf, g7, g10, g11, g13⟩ := h
  exact ⟨hK, g2, g3, g6, by rw [h0]; exact hp, hf, g7, g10, g11, g13⟩
end Rtp
theorem KB_take {K : Int → Int} {iv v : Nat → Int} {iR R : Nat → Int → Int} {Q : Int → im_T} (h : KB K iv iR Q) (ho : LOK v R) : KB K (pl_v v iv) (pl_R R iR) Q := by
  obtain ⟨h1, h2, h3, h4, h5⟩ := h
  have e8 : ∀ (a b : Int → Int) (j : Int), 0 ≤ j → j < 8 → im_cpy a b 0 0 8 j = a j := fun a b j q1 q2 => by rw [im_cpy_at, if_pos ⟨q1, q2⟩]
  refine ⟨KR_LQ h1 h2 (LQ_take v iv R iR) (fun j q1 q2 => ⟨e8 _ _ j q1 q2, e8 _ _ j q1 q2⟩), LOK_take ho h2, ?_, h4, h5⟩
  rw [(pl_R_q R iR 0 (by decide) (by decide)).2.2.2.2.1]
  exact h3
/-- the texts of a land's laws -/
def LWS (lv : Nat → Int) (g : Int → Option Nat) (T : List im_T) (Q : Int → im_T) : Prop := ∀ t, 0 ≤ t → t < lv 4 → ∃ h, g t = some h ∧ T[h]? = some (Q t) ∧ TXOK (Q t)
theorem LWS_lwr {lv : Nat → Int} {L : Nat → Int → Int} {g : Int → Option Nat} {T : List im_T} {Q : Int → im_T} (hlo : LOK lv L) (h : LWS lv g T Q) : LWR lv g T (lwf lv Q) := by
  have hf := lk_for hlo
  unfold lwf
  by_cases c : lv 5 < 0
  · rw [if_pos c]
    exact Or.inl ⟨c, rfl⟩
  · rw [if_neg c]
    obtain ⟨x, h1, h2, h3⟩ := h (lv 5) (by omega) hf.2
    exact Or.inr ⟨by omega, x, _, h1, h2, h3, rfl⟩
theorem LWS_v {lv lv' : Nat → Int} {g : Int → Option Nat} {T : List im_T} {Q : Int → im_T} (h : LWS lv g T Q) (e : lv' 4 = lv 4) : LWS lv' g T Q := fun t a b => h t a (by omega)
theorem LWS_T {lv : Nat → Int} {g : Int → Option Nat} {T : List im_T} {Q : Int → im_T} (h : LWS lv g T Q) (N : List im_T) : LWS lv g (T ++ N) Q := fun t a b => by
  obtain ⟨x, h1, h2, h3⟩ := h t a b
  exact ⟨x, h1, by rw [List.getElem?_append_left (List.getElem?_eq_some_iff.mp h2).1]; exact h2, h3⟩
theorem GV_T {g : Int → Option Nat} {T : List im_T} (h : GV g T) (N : List im_T) : GV g (T ++ N) := fun i t e => by
  have := h i t e
  rw [List.length_append]
  omega
theorem pl_g_if {g g2 : Int → Option Nat} : ∀ (m : Nat) (i : Int), pl_g g g2 m i = if 0 ≤ i ∧ i < (m : Int) then g2 i else g i
  | 0, i => by
    rw [if_neg (by omega)]
    rfl
  | m + 1, i => by
    have ih := pl_g_if (g := g) (g2 := g2) m i
    show im_up (pl_g g g2 m) (m : Int) (g2 (m : Int)) i = _
    unfold im_up
    by_cases e : i = (m : Int)
    · subst e
      rw [if_pos rfl, if_pos (by omega)]
    · rw [if_neg e, ih]
      by_cases c : 0 ≤ i ∧ i < (m : Int)
      · rw [if_pos c, if_pos (by omega)]
      · rw [if_neg c, if_neg (by omega)]
theorem GV_take {g g2 : Int → Option Nat} {T : List im_T} (h : GV g T) (h2 : GV g2 T) : GV (pl_g g g2 6) T := fun i t e => by
  rw [pl_g_if] at e
  split at e
  · exact h2 i t e
  · exact h i t e
theorem LWS_take {iv v : Nat → Int} {g ig : Int → Option Nat} {T : List im_T} {Q : Int → im_T} (h : LWS iv ig T Q) (h4 : iv 4 ≤ 6) : LWS (pl_v v iv) (pl_g g ig 6) T Q := fun t a b => by
  have b' : t < iv 4 := b
  obtain ⟨x, h1, h2, h3⟩ := h t a b'
  refine ⟨x, ?_, h2, h3⟩
  rw [pl_g_if, if_pos (by omega)]
  exact h1
theorem LWS_new {lv : Nat → Int} {g : Int → Option Nat} {T : List im_T} {Q : Int → im_T} {q : im_T} (h : LWS lv g T Q) (hq : TXOK q) : LWS (pl_U lv 4 (lv 4 + 1)) (im_up g (lv 4) (some T.length)) (T ++ [q]) (im_up Q (lv 4) q) := fun t a b => by
  have b' : t < lv 4 + 1 := b
  by_cases e : t = lv 4
  · subst e
    exact ⟨T.length, im_up_self _ _ _, by rw [im_up_self, List.getElem?_append_right (Nat.le_refl _), Nat.sub_self]; rfl, by rw [im_up_self]; exact hq⟩
  · obtain ⟨x, h1, h2, h3⟩ := h t a (by omega)
    refine ⟨x, by rw [im_up_ne _ _ e]; exact h1, ?_, by rw [im_up_ne _ _ e]; exact h3⟩
    rw [im_up_ne _ _ e, List.getElem?_append_left (List.getElem?_eq_some_iff.mp h2).1]
    exact h2
theorem GV_new {g : Int → Option Nat} {T : List im_T} (h : GV g T) (q : im_T) (n : Int) : GV (im_up g n (some T.length)) (T ++ [q]) := fun i t e => by
  rw [List.length_append]
  unfold im_up at e
  split at e
  · cases e
    exact Nat.lt_succ_self _
  · have := h i t e
    exact Nat.lt_succ_of_lt this
theorem cw_nt_ok {u : Int × Int × Int} {c k : Int → Int} (h : TS u c) (hk : ∀ x, -1 ≤ k x ∧ k x ≤ 1000) : TXOK (cw_nt u c k) := by
  obtain ⟨h1, h2, h3, h4⟩ := h
  refine ⟨?_, ?_, fun i => ?_, fun i => ?_, ⟨h2.1, ?_⟩, ⟨h1.1, ?_⟩, h3⟩
  · show u.1.toNat ≤ 500
    omega
  · show (u.2.1 * 5).toNat ≤ 100
    omega
  · show -2147483648 ≤ (if i < u.1 then c i else 0) ∧ (if i < u.1 then c i else 0) < 2147483648
    have := h4 i
    split <;> omega
  · show -1 ≤ (if i < u.2.1 * 5 then k i else 0) ∧ (if i < u.2.1 * 5 then k i else 0) ≤ 1000
    have := hk i
    split <;> omega
  · show 5 * u.2.1 ≤ (((u.2.1 * 5).toNat : Nat) : Int)
    omega
  · show u.1 ≤ 500
    omega
/-! lands alike: days to come -/
theorem LQ_ffgo {lw : Option im_T} {v v' : Nat → Int} {R R' : Nat → Int → Int} (h : LQ v R v' R') : ∀ k : Nat, LQ (ff_go lw v R k).1 (ff_go lw v R k).2 (ff_go lw v' R' k).1 (ff_go lw v' R' k).2
  | 0 => h
  | k + 1 => (LQ_send (LQ_ffgo h k) (k : Int)).2
theorem pl_arr_66 {p n : Int} {v v' : Nat → Int} {R R' : Nat → Int → Int} (h0 : v 0 = v' 0) (h6 : v 6 = v' 6) : (pl_arr p n v R).1 6 = (pl_arr p n v' R').1 6 := by
  unfold pl_arr
  rw [← h0]
  split
  · exact h6
  · show v 6 + n = v' 6 + n
    rw [h6]
theorem LQ_dy6 {v v' : Nat → Int} {R R' : Nat → Int → Int} (h : LQ v R v' R') (hlo : LOK v R) : ∀ k : Nat, (k : Int) ≤ v 1 → (pl_dy v R k).1 6 = (pl_dy v' R' k).1 6
  | 0, _ => rfl
  | k + 1, hk => by
    have hg := lk_grp hlo
    have ih := LQ_dy6 h hlo k (by omega)
    obtain ⟨i1, i2⟩ := LQ_dy h hlo k (by omega)
    have hP := (PDI_k hlo k (by omega)).2.2.2.2.2.2.2.1 (k : Int)
    obtain ⟨k4, k5, k6⟩ := i1.2.2.1 (k : Int) (by omega) (by omega)
    have kb := (i1.2.1 ((pl_dy v R k).2.1 4 (k : Int)) hP.1 (by omega)).1
    show (pl_d1 (k : Int) (pl_dy v R k)).1 6 = (pl_d1 (k : Int) (pl_dy v' R' k)).1 6
    unfold pl_d1
    rw [← k6]
    by_cases c0 : 0 < (pl_dy v R k).2.1 6 (k : Int) - 1
    · rw [if_pos c0, if_pos c0]
      exact ih
    · rw [if_neg c0, if_neg c0]
      rw [← k4, ← kb, ← k5]
      exact pl_arr_66 (i1.1 0 (by decide)) ih
theorem LQ_day6 {v v' : Nat → Int} {R R' : Nat → Int → Int} (h : LQ v R v' R') (hlo : LOK v R) : (pl_day v R).2.1 6 = (pl_day v' R').2.1 6 := by
  have hg := lk_grp hlo
  have t := LQ_dy6 h hlo (v 1).toNat (by omega)
  have e1 := h.1 1 (by decide)
  unfold pl_day
  rw [← e1]
  exact t
theorem LQ_ff {lw : Option im_T} {v v' : Nat → Int} {R R' : Nat → Int → Int} (h : LQ v R v' R') (hlo : LOK v R) (hd : R 7 0 ≤ 999) : ∀ m : Nat, LQ (ff lw v R m).1 (ff lw v R m).2.1 (ff lw v' R' m).1 (ff lw v' R' m).2.1 ∧ (ff lw v R m).2.2 = (ff lw v' R' m).2.2
  | 0 => ⟨h, rfl⟩
  | m + 1 => by
    obtain ⟨i1, i2⟩ := LQ_ff (lw := lw) h hlo hd m
    have hI := FFI_m lw hlo hd m
    have g0 := LQ_ffgo (lw := lw) i1 ((ff lw v R m).1 0).toNat
    have gk := ff_go_ok lw hI.1 ((ff lw v R m).1 0).toNat
    have e0 := i1.1 0 (by decide)
    have d1 : LQ (ff_d lw (ff lw v R m)).1 (ff_d lw (ff lw v R m)).2 (ff_d lw (ff lw v' R' m)).1 (ff_d lw (ff lw v' R' m)).2 := by
      unfold ff_d
      rw [← e0]
      exact (LQ_day g0 gk.1).2
    have d6 : (ff_d lw (ff lw v R m)).1 6 = (ff_d lw (ff lw v' R' m)).1 6 := by
      unfold ff_d
      rw [← e0]
      exact LQ_day6 g0 gk.1
    refine ⟨d1, ?_⟩
    show ((if (ff lw v R m).2.2.1 = 0 ∧ 0 < (ff_d lw (ff lw v R m)).1 6 then (m : Int) + 1 else (ff lw v R m).2.2.1), (ff lw v R m).2.2.2.1 + (ff_d lw (ff lw v R m)).1 6, max (ff lw v R m).2.2.2.2 ((ff_d lw (ff lw v R m)).1 1)) = ((if (ff lw v' R' m).2.2.1 = 0 ∧ 0 < (ff_d lw (ff lw v' R' m)).1 6 then (m : Int) + 1 else (ff lw v' R' m).2.2.1), (ff lw v' R' m).2.2.2.1 + (ff_d lw (ff lw v' R' m)).1 6, max (ff lw v' R' m).2.2.2.2 ((ff_d lw (ff lw v' R' m)).1 1))
    rw [i2, d6, d1.1 1 (by decide)]
theorem LQ_ddact {lw : Option im_T} {v v' : Nat → Int} {R R' : Nat → Int → Int} (h : LQ v R v' R') (what p : Int) : LQ (dd_act lw what p v R).1 (dd_act lw what p v R).2 (dd_act lw what p v' R').1 (dd_act lw what p v' R').2 := by
  unfold dd_act
  split
  · exact (LQ_grow h p 1).2
  split
  · exact (LQ_grow h p (-1)).2
  · exact (LQ_send h p).2
theorem LQ_dd {lw : Option im_T} : ∀ (n : Nat) {z z' : dd_S}, LQ z.1 z.2.1 z'.1 z'.2.1 → z.2.2 = z'.2.2 → LOK z.1 z.2.1 → LQ (dd lw n z).1 (dd lw n z).2.1 (dd lw n z').1 (dd lw n z').2.1 ∧ (dd lw n z).2.2 = (dd lw n z').2.2
  | 0, z, z', h, h2, _ => ⟨h, h2⟩
  | n + 1, z, z', h, h2, hlo => by
    have e0 := h.1 0 (by decide)
    have e7 := h.2.2.2 0 (by decide) (by decide)
    show LQ (if z.2.1 7 0 < 999 ∧ 0 < z.1 0 then dd lw n (dd_1 lw z) else z).1 (if z.2.1 7 0 < 999 ∧ 0 < z.1 0 then dd lw n (dd_1 lw z) else z).2.1 (if z'.2.1 7 0 < 999 ∧ 0 < z'.1 0 then dd lw n (dd_1 lw z') else z').1 (if z'.2.1 7 0 < 999 ∧ 0 < z'.1 0 then dd lw n (dd_1 lw z') else z').2.1 ∧ (if z.2.1 7 0 < 999 ∧ 0 < z.1 0 then dd lw n (dd_1 lw z) else z).2.2 = (if z'.2.1 7 0 < 999 ∧ 0 < z'.1 0 then dd lw n (dd_1 lw z') else z').2.2
    rw [← e0, ← e7]
    by_cases c : z.2.1 7 0 < 999 ∧ 0 < z.1 0
    · rw [if_pos c, if_pos c]
      have ha := LQ_ddact (lw := lw) h (dr_next (dr_next z.2.2.1) % 3) (dr_next z.2.2.1 % z.1 0)
      have hok := (dd_act_ok lw (dr_next (dr_next z.2.2.1) % 3) (dr_next z.2.2.1 % z.1 0) hlo).1
      have hday := LQ_day ha hok
      refine LQ_dd n ?_ ?_ (LOK_day hok).1
      · unfold dd_1
        rw [← h2, ← e0]
        exact hday.2
      · unfold dd_1
        rw [← h2, ← e0]
        dsimp only
        rw [LQ_day6 ha hok]
    · rw [if_neg c, if_neg c]
      exact ⟨h, h2⟩
