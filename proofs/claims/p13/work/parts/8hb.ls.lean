/-! rules: a lookup switch; rows that are read alone -/
section ImLs
variable {ro : ab_R} {C : Nat → List Value → ab_W → ab_O → Prop} {own : Nat} {ret : Option FieldType} {code : ab_C} {n : Nat} {T : List im_T} {Q : Option im_V → im_W → Prop}
theorem im_ls (tgt : Nat) {pc t : Nat} {d x : Int} {qs : Array (Int × Int)} {L : im_L} {r : List im_V} {w : im_W} (hc : code pc = some (.lookupswitch d qs, t)) (hx : im_ir x) (ho : (qs.toList.zip (qs.toList.drop 1)).all (fun (a, next) => a.1 < next.1) = true) (h0 : 0 ≤ (pc : Int) + Op.lookupswitch.offset qs.toList d x) (e : ((pc : Int) + Op.lookupswitch.offset qs.toList d x).toNat = tgt) (k : im_wp ro C own ret code n T Q (tgt, L, r, w)) : im_wp ro C own ret code n T Q (pc, L, .inl x :: r, w) := by
  have ex := im_i hx
  refine ax_sw (ps := [(qs.toList.zip (qs.toList.drop 1)).all (fun (a, next) => a.1 < next.1) = true, 0 ≤ (pc : Int) + Op.lookupswitch.offset qs.toList d (Int32.ofInt x).toInt]) (x := (im_l n L, im_k n r, im_w n T w, 0, 0)) tgt hc rfl ?_ ⟨ho, by rw [ex]; exact h0, trivial⟩ k
  unfold ab_lsw
  rw [ex]
  exact e
theorem im_gs {pc t ix j : Nat} {L : im_L} {st : List im_V} {w : im_W} (hc : code pc = some (.getstatic ix, t)) (hj : ab_lk (ab_sT own) ix = some j) (k : im_wp ro C own ret code n T Q (pc + 3, L, mr (1000000 + j) :: st, w)) : im_wp ro C own ret code n T Q (pc, L, st, w) := by
  obtain ⟨o, m, hX, hQ⟩ := k
  refine ⟨o, m + 1, ⟨_, t, hc, Or.inl ⟨[], _, ?_, trivial, hX⟩⟩, hQ⟩
  show (match ab_lk (ab_sT own) ix with
    | some j => _
    | none => _) = _
  rw [hj]
  rfl
theorem im_far {w : im_W} {o : Nat} (ho : 1000000 ≤ o) (hl : w.length < 1000) (hT : T.length < 1000) : (im_w n T w)[o]? = none := List.getElem?_eq_none (by rw [im_w_len]; omega)
theorem im_ral {pc t o m : Nat} {f : Nat → Int32} {L : im_L} {r : List im_V} {w : im_W} (hc : code pc = some (.arraylength, t)) (ho : 1000000 ≤ o) (hro : ro (o - 1000000) = some (m, f)) (hl : w.length < 1000) (hT : T.length < 1000) (k : im_wp ro C own ret code n T Q (pc + 1, L, .inl (m : Int) :: r, w)) : im_wp ro C own ret code n T Q (pc, L, mr o :: r, w) := by
  obtain ⟨q, j, hX, hQ⟩ := k
  refine ⟨q, j + 1, ⟨_, t, hc, Or.inl ⟨[], _, ?_, trivial, hX⟩⟩, hQ⟩
  show (match (im_w n T w)[o]? with
    | some (.inl (t, n, _)) => _
    | none => _
    | _ => none) = _
  rw [im_far ho hl hT]
  show (match (if 1000000 ≤ o then ro (o - 1000000) else none) with
    | some (n, _) => _
    | none => none) = _
  rw [if_pos ho, hro]
  rfl
theorem im_rai {pc t o m : Nat} {f : Nat → Int32} {i z : Int} {L : im_L} {r : List im_V} {w : im_W} (hc : code pc = some (.iaload, t)) (ho : 1000000 ≤ o) (hro : ro (o - 1000000) = some (m, f)) (hl : w.length < 1000) (hT : T.length < 1000) (hi : 0 ≤ i ∧ i < m ∧ i < 2147483648) (hf : f i.toNat = Int32.ofInt z) (k : im_wp ro C own ret code n T Q (pc + 1, L, .inl z :: r, w)) : im_wp ro C own ret code n T Q (pc, L, .inl i :: mr o :: r, w) := by
  obtain ⟨q, j, hX, hQ⟩ := k
  obtain ⟨g1, g2⟩ := im_ix hi
  refine ⟨q, j + 1, ⟨_, t, hc, Or.inl ⟨[vp_in (Int32.ofInt i) m], _, ?_, ⟨g1, trivial⟩, hX⟩⟩, hQ⟩
  show (match (im_w n T w)[o]? with
    | some (.inl (0, n, .inl f)) => _
    | none => _
    | _ => none) = _
  rw [im_far ho hl hT]
  show (match (if 1000000 ≤ o then ro (o - 1000000) else none) with
    | some (n, f) => _
    | none => none) = _
  rw [if_pos ho, hro]
  show some ([vp_in (Int32.ofInt i) m], pc + 1, im_l n L, Value.int (f (Int32.ofInt i).toNatClampNeg) :: im_k n r, im_w n T w, 0, 0) = _
  rw [g2, hf]
  rfl
end ImLs
