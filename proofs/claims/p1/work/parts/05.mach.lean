/-! the steps of the abstract machine -/
def ab_ty (ci k : Nat) : FieldType := match ci with
  | 0 => tyX0 k
  | 1 => tyX1 k
  | 2 => tyX2 k
  | 3 => tyX3 k
  | 4 => tyX4 k
  | 5 => tyX5 k
  | 6 => tyX6 k
  | 7 => tyX7 k
  | 8 => tyX8 k
  | 9 => tyX9 k
  | _ => .int
def ab_fin (ci k : Nat) : Bool := match vwCl[ci]? with
  | some (_, T, _) => (T k).2.2.2
  | none => true
def ab_new (ci : Nat) : List Value := match ci with
  | 0 => [.null, .null, .int 0, .int 0, .int 0, .int 0, .int 0]
  | 1 => [.null, .null, .null, .null, .null, .null, .null, .null, .null, .null, .null, .int 0, .int 0, .int 0, .int 0, .int 0, .int 0, .int 0]
  | 2 => [.null, .int 0]
  | 3 => [.null, .null, .null, .null, .null, .null, .null, .null, .null, .int 0, .int 0, .int 0, .int 0, .int 0, .int 0, .int 0, .int 0, .int 0, .int 0, .int 0]
  | 4 => [.null, .int 0, .int 0]
  | 5 => [.null, .null, .int 0, .int 0, .int 0, .int 0, .int 0, .int 0, .int 0]
  | 6 => [.null, .null, .null, .int 0, .int 0, .int 0, .int 0]
  | 7 => [.null, .null, .int 0, .int 0, .int 0]
  | 8 => [.int 0, .null, .null, .null, .null, .int 0, .null, .null, .null, .null, .null, .null, .int 0, .int 0, .int 0, .int 0]
  | 9 => [.int 0, .null, .null, .null, .null, .null, .int 0, .null, .int 0, .int 0, .int 0, .null, .null, .int 0, .int 0, .null, .null, .null, .int 0, .int 0, .int 0, .int 0, .int 0, .int 0, .int 0, .int 0, .null, .int 0, .int 0, .null, .int 0, .int 0, .null, .null, .int 0, .null, .null, .null, .null, .null, .null, .int 0, .int 0, .int 0, .int 0, .int 0, .int 0, .null, .null, .int 0, .int 0, .int 0]
  | _ => []
def ab_zero (t : ArrayType) : Option (Nat × ((Nat → Int32) ⊕ (Nat → Int64) ⊕ (Nat → UInt32) ⊕ (Nat → UInt64) ⊕ (Nat → Option Nat))) := match t with
  | .int => some (0, .inl (fun _ => 0))
  | .byte => some (1, .inl (fun _ => 0))
  | .long => some (2, .inr (.inl (fun _ => 0)))
  | .boolean => some (3, .inl (fun _ => 0))
  | _ => none
def ab_elem (t : Nat) : Nat := match t with
  | 4 => 1
  | _ => 7
def ab_sum (st : List Value) : Nat := (st.map fun v => v.category).sum
/-- a step without a branch or a call: on what conditions, and to where -/
def ab_nx (ro : ab_R) (own : Nat) (ini : Bool) (i : Instr) (tgt pc : Nat) (L : ab_L) (st : List Value) (w : ab_W) (a b : Nat) : Option (List Prop × ab_S) :=
  match i with
  | .iconst n => some ([], pc + 1, L, .int (Int32.ofInt n) :: st, w, a, b)
  | .bipush n => some ([], pc + 2, L, .int ((Int8.ofInt n).toInt32) :: st, w, a, b)
  | .sipush n => some ([], pc + 3, L, .int ((Int16.ofInt n).toInt32) :: st, w, a, b)
  | .lconst n => some ([], pc + 1, L, .long (Int64.ofNat (n : Nat)) :: st, w, a, b)
  | .aconst_null => some ([], pc + 1, L, .null :: st, w, a, b)
  | .ldc ix => match ab_lk (ab_cT own) ix with
    | some (.int v) => some ([], pc + 2, L, .int v :: st, w, a, b)
    | some (.ref v) => some ([], pc + 2, L, .ref v :: st, w, a, b)
    | _ => none
  | .ldc_w ix => match ab_lk (ab_cT own) ix with
    | some (.int v) => some ([], pc + 3, L, .int v :: st, w, a, b)
    | _ => none
  | .ldc2_w ix => match ab_lk (ab_cT own) ix with
    | some (.long v) => some ([], pc + 3, L, .long v :: st, w, a, b)
    | _ => none
  | .iload k => match ab_ld L k with
    | some (.int x) => some ([], pc + 2, L, .int x :: st, w, a, b)
    | _ => none
  | .iload_n k => match ab_ld L (k : Nat) with
    | some (.int x) => some ([], pc + 1, L, .int x :: st, w, a, b)
    | _ => none
  | .lload k => match ab_ld L k with
    | some (.long x) => some ([], pc + 2, L, .long x :: st, w, a, b)
    | _ => none
  | .lload_n k => match ab_ld L (k : Nat) with
    | some (.long x) => some ([], pc + 1, L, .long x :: st, w, a, b)
    | _ => none
  | .aload k => match ab_ld L k with
    | some (.ref x) => some ([], pc + 2, L, .ref x :: st, w, a, b)
    | some .null => some ([], pc + 2, L, .null :: st, w, a, b)
    | _ => none
  | .aload_n k => match ab_ld L (k : Nat) with
    | some (.ref x) => some ([], pc + 1, L, .ref x :: st, w, a, b)
    | some .null => some ([], pc + 1, L, .null :: st, w, a, b)
    | _ => none
  | .istore k => match st with
    | .int x :: r => if k < L.length then some ([], pc + 2, ab_st1 L k (.int x), r, w, a, b) else none
    | _ => none
  | .istore_n k => match st with
    | .int x :: r => if (k : Nat) < L.length then some ([], pc + 1, ab_st1 L (k : Nat) (.int x), r, w, a, b) else none
    | _ => none
  | .lstore k => match st with
    | .long x :: r => if k + 1 < L.length then some ([], pc + 2, ab_st2 L k (.long x), r, w, a, b) else none
    | _ => none
  | .lstore_n k => match st with
    | .long x :: r => if (k : Nat) + 1 < L.length then some ([], pc + 1, ab_st2 L (k : Nat) (.long x), r, w, a, b) else none
    | _ => none
  | .astore k => match st with
    | .ref x :: r => if k < L.length then some ([], pc + 2, ab_st1 L k (.ref x), r, w, a, b) else none
    | .null :: r => if k < L.length then some ([], pc + 2, ab_st1 L k .null, r, w, a, b) else none
    | _ => none
  | .astore_n k => match st with
    | .ref x :: r => if (k : Nat) < L.length then some ([], pc + 1, ab_st1 L (k : Nat) (.ref x), r, w, a, b) else none
    | .null :: r => if (k : Nat) < L.length then some ([], pc + 1, ab_st1 L (k : Nat) .null, r, w, a, b) else none
    | _ => none
  | .iinc k n => match ab_ld L k with
    | some (.int x) => if k < L.length then some ([], pc + 3, ab_st1 L k (.int (x + Int32.ofInt n)), st, w, a, b) else none
    | _ => none
  | .dup => match st with
    | .int x :: r => some ([], pc + 1, L, .int x :: .int x :: r, w, a, b)
    | .ref x :: r => some ([], pc + 1, L, .ref x :: .ref x :: r, w, a, b)
    | _ => none
  | .dup2 => match st with
    | .int y :: .ref x :: r => some ([], pc + 1, L, .int y :: .ref x :: .int y :: .ref x :: r, w, a, b)
    | .long x :: r => some ([], pc + 1, L, .long x :: .long x :: r, w, a, b)
    | _ => none
  | .pop => match st with
    | .int _ :: r => some ([], pc + 1, L, r, w, a, b)
    | .ref _ :: r => some ([], pc + 1, L, r, w, a, b)
    | _ => none
  | .iadd => match st with
    | .int y :: .int x :: r => some ([], pc + 1, L, .int (x + y) :: r, w, a, b)
    | _ => none
  | .isub => match st with
    | .int y :: .int x :: r => some ([], pc + 1, L, .int (x - y) :: r, w, a, b)
    | _ => none
  | .imul => match st with
    | .int y :: .int x :: r => some ([], pc + 1, L, .int (x * y) :: r, w, a, b)
    | _ => none
  | .iand => match st with
    | .int y :: .int x :: r => some ([], pc + 1, L, .int (x &&& y) :: r, w, a, b)
    | _ => none
  | .ior => match st with
    | .int y :: .int x :: r => some ([], pc + 1, L, .int (x ||| y) :: r, w, a, b)
    | _ => none
  | .ixor => match st with
    | .int y :: .int x :: r => some ([], pc + 1, L, .int (x ^^^ y) :: r, w, a, b)
    | _ => none
  | .ishl => match st with
    | .int y :: .int x :: r => some ([], pc + 1, L, .int (x <<< (y &&& 31)) :: r, w, a, b)
    | _ => none
  | .ishr => match st with
    | .int y :: .int x :: r => some ([], pc + 1, L, .int (x >>> (y &&& 31)) :: r, w, a, b)
    | _ => none
  | .iushr => match st with
    | .int y :: .int x :: r => some ([], pc + 1, L, .int ((x.toUInt32 >>> (y.toUInt32 &&& Int32.toUInt32 31)).toInt32) :: r, w, a, b)
    | _ => none
  | .idiv => match st with
    | .int y :: .int x :: r => some ([¬ y = 0], pc + 1, L, .int (x / y) :: r, w, a, b)
    | _ => none
  | .irem => match st with
    | .int y :: .int x :: r => some ([¬ y = 0], pc + 1, L, .int (x - x / y * y) :: r, w, a, b)
    | _ => none
  | .ineg => match st with
    | .int x :: r => some ([], pc + 1, L, .int (-x) :: r, w, a, b)
    | _ => none
  | .i2l => match st with
    | .int x :: r => some ([], pc + 1, L, .long x.toInt64 :: r, w, a, b)
    | _ => none
  | .l2i => match st with
    | .long x :: r => some ([], pc + 1, L, .int x.toInt32 :: r, w, a, b)
    | _ => none
  | .i2b => match st with
    | .int x :: r => some ([], pc + 1, L, .int x.toInt8.toInt32 :: r, w, a, b)
    | _ => none
  | .i2c => match st with
    | .int x :: r => some ([], pc + 1, L, .int (x.toUInt32 % 65536).toInt32 :: r, w, a, b)
    | _ => none
  | .ladd => match st with
    | .long y :: .long x :: r => some ([], pc + 1, L, .long (x + y) :: r, w, a, b)
    | _ => none
  | .lsub => match st with
    | .long y :: .long x :: r => some ([], pc + 1, L, .long (x - y) :: r, w, a, b)
    | _ => none
  | .lmul => match st with
    | .long y :: .long x :: r => some ([], pc + 1, L, .long (x * y) :: r, w, a, b)
    | _ => none
  | .ldiv => match st with
    | .long y :: .long x :: r => some ([¬ y = 0], pc + 1, L, .long (x / y) :: r, w, a, b)
    | _ => none
  | .lrem => match st with
    | .long y :: .long x :: r => some ([¬ y = 0], pc + 1, L, .long (x - x / y * y) :: r, w, a, b)
    | _ => none
  | .lcmp => match st with
    | .long y :: .long x :: r => some ([], pc + 1, L, .int (lg_cmp x y) :: r, w, a, b)
    | _ => none
  | .goto _ => some ([], tgt, L, st, w, a, b)
  | .tableswitch d lo hi offs => match st with
    | .int x :: r => some ([(x.toInt < lo ∨ hi < x.toInt) ∨ ∃ off, offs[(x.toInt - lo).toNat]? = some off ∧ 0 ≤ (pc : Int) + off, 0 ≤ (pc : Int) + d], ab_ts pc d lo hi offs x, L, r, w, a, b)
    | _ => none
  | .lookupswitch d ps => match st with
    | .int x :: r => some ([(ps.toList.zip (ps.toList.drop 1)).all (fun (a, next) => a.1 < next.1) = true, 0 ≤ (pc : Int) + Op.lookupswitch.offset ps.toList d x.toInt], ab_lsw pc d ps x, L, r, w, a, b)
    | _ => none
  | .getfield ix => match st with
    | .ref o :: r => match ab_lk (ab_fT own) ix, w[o]? with
      | some (ci, k), some (.inr (cj, fs)) => cond (Nat.beq ci cj) (match fs[k]? with
        | some v => some ([], pc + 3, L, v :: r, w, a, b)
        | none => none) none
      | _, _ => none
    | _ => none
  | .putfield ix => match st with
    | v :: .ref o :: r => match ab_lk (ab_fT own) ix, w[o]? with
      | some (ci, k), some (.inr (cj, fs)) => cond (Nat.beq ci cj && (!ab_fin ci k || (ini && Nat.beq ci own)) && Nat.blt k fs.length) (match ab_fit (ab_ty ci k) v with
        | some ps => some (ps, pc + 3, L, r, w.set o (.inr (cj, fs.set k v)), a, b)
        | none => none) none
      | _, _ => none
    | _ => none
  | .iaload => match st with
    | .int i :: .ref o :: r => match w[o]? with
      | some (.inl (0, n, .inl f)) => some ([vp_in i n], pc + 1, L, .int (f i.toNatClampNeg) :: r, w, a, b)
      | none => match (if 1000000 ≤ o then ro (o - 1000000) else none) with
        | some (n, f) => some ([vp_in i n], pc + 1, L, .int (f i.toNatClampNeg) :: r, w, a, b)
        | none => none
      | _ => none
    | _ => none
  | .baload => match st with
    | .int i :: .ref o :: r => match w[o]? with
      | some (.inl (1, n, .inl f)) => some ([vp_in i n], pc + 1, L, .int (f i.toNatClampNeg) :: r, w, a, b)
      | some (.inl (3, n, .inl f)) => some ([vp_in i n], pc + 1, L, .int (f i.toNatClampNeg) :: r, w, a, b)
      | _ => none
    | _ => none
  | .laload => match st with
    | .int i :: .ref o :: r => match w[o]? with
      | some (.inl (2, n, .inr (.inl f))) => some ([vp_in i n], pc + 1, L, .long (f i.toNatClampNeg) :: r, w, a, b)
      | _ => none
    | _ => none
  | .aaload => match st with
    | .int i :: .ref o :: r => match w[o]? with
      | some (.inl (4, n, .inr (.inr (.inr (.inr f))))) => some ([vp_in i n], pc + 1, L, va_rf (f i.toNatClampNeg) :: r, w, a, b)
      | some (.inl (5, n, .inr (.inr (.inr (.inr f))))) => some ([vp_in i n], pc + 1, L, va_rf (f i.toNatClampNeg) :: r, w, a, b)
      | _ => none
    | _ => none
  | .iastore => match st with
    | .int x :: .int i :: .ref o :: r => match w[o]? with
      | some (.inl (0, n, .inl f)) => some ([vp_in i n], pc + 1, L, r, w.set o (.inl (0, n, .inl (upd f i.toNatClampNeg x))), a, b)
      | _ => none
    | _ => none
  | .bastore => match st with
    | .int x :: .int i :: .ref o :: r => match w[o]? with
      | some (.inl (1, n, .inl f)) => some ([vp_in i n], pc + 1, L, r, w.set o (.inl (1, n, .inl (upd f i.toNatClampNeg (vp_nar .byte x)))), a, b)
      | some (.inl (3, n, .inl f)) => some ([vp_in i n], pc + 1, L, r, w.set o (.inl (3, n, .inl (upd f i.toNatClampNeg (vp_nar .boolean x)))), a, b)
      | _ => none
    | _ => none
  | .lastore => match st with
    | .long x :: .int i :: .ref o :: r => match w[o]? with
      | some (.inl (2, n, .inr (.inl f))) => some ([vp_in i n], pc + 1, L, r, w.set o (.inl (2, n, .inr (.inl (vp_updL f i.toNatClampNeg x)))), a, b)
      | _ => none
    | _ => none
  | .aastore => match st with
    | .ref v :: .int i :: .ref o :: r => match w[o]?, w[v]? with
      | some (.inl (t, n, .inr (.inr (.inr (.inr f))))), some (.inr (ci, _)) => cond ((Nat.beq t 4 || Nat.beq t 5) && Nat.beq ci (ab_elem t)) (some ([vp_in i n], pc + 1, L, r, w.set o (.inl (t, n, .inr (.inr (.inr (.inr (va_up f i.toNatClampNeg (some v))))))), a, b)) none
      | _, _ => none
    | .null :: .int i :: .ref o :: r => match w[o]? with
      | some (.inl (t, n, .inr (.inr (.inr (.inr f))))) => cond (Nat.beq t 4 || Nat.beq t 5) (some ([vp_in i n], pc + 1, L, r, w.set o (.inl (t, n, .inr (.inr (.inr (.inr (va_up f i.toNatClampNeg none)))))), a, b)) none
      | _ => none
    | _ => none
  | .arraylength => match st with
    | .ref o :: r => match w[o]? with
      | some (.inl (t, n, _)) => cond (Nat.blt t 6) (some ([], pc + 1, L, .int (Int32.ofNat n) :: r, w, a, b)) none
      | none => match (if 1000000 ≤ o then ro (o - 1000000) else none) with
        | some (n, _) => some ([], pc + 1, L, .int (Int32.ofNat n) :: r, w, a, b)
        | none => none
      | _ => none
    | _ => none
  | .new ix => match ab_lk (ab_nT own) ix with
    | some ci => some ([], pc + 3, L, .ref w.length :: st, w ++ [.inr (ci, ab_new ci)], a + 1, b + (ab_new ci).length)
    | none => none
  | .newarray t => match st with
    | .int n :: r => match ab_zero t with
      | some (k, z) => some ([¬ n < 0, n.toNatClampNeg ≤ 60000000], pc + 2, L, .ref w.length :: r, w ++ [.inl (k, n.toNatClampNeg, z)], a + 1, b + n.toNatClampNeg)
      | none => none
    | _ => none
  | .anewarray ix => match st with
    | .int n :: r => match ab_lk (ab_aT own) ix with
      | some k => some ([¬ n < 0, n.toNatClampNeg ≤ 60000000], pc + 3, L, .ref w.length :: r, w ++ [.inl (k, n.toNatClampNeg, .inr (.inr (.inr (.inr (fun _ => none)))))], a + 1, b + n.toNatClampNeg)
      | none => none
    | _ => none
  | .getstatic ix => match ab_lk (ab_sT own) ix with
    | some j => some ([], pc + 3, L, .ref (1000000 + j) :: st, w, a, b)
    | none => none
  | .invokestatic ix => match ab_lk (ab_pT own) ix, st with
    | some 0, .int y :: .int x :: r => cond (Nat.ble (ab_sum r) 8) (some ([], pc + 3, L, .int (if y < x then y else x) :: r, w, a, b)) none
    | some 1, .int y :: .int x :: r => cond (Nat.ble (ab_sum r) 8) (some ([], pc + 3, L, .int (if x < y then y else x) :: r, w, a, b)) none
    | some 2, .int x :: r => cond (Nat.ble (ab_sum r) 8) (some ([], pc + 3, L, .int (if 0 ≤ x then x else 0 - x) :: r, w, a, b)) none
    | some 3, .int n :: .int dp :: .ref o1 :: .int sp :: .ref o0 :: r => match w[o0]?, w[o1]? with
      | some (.inl (0, n0, .inl f)), some (.inl (0, n1, .inl g)) => cond (Nat.ble (ab_sum r) 8) (some ([¬ sp < 0, ¬ dp < 0, ¬ n < 0, sp.toNatClampNeg + n.toNatClampNeg ≤ n0, dp.toNatClampNeg + n.toNatClampNeg ≤ n1], pc + 3, L, r, w.set o1 (.inl (0, n1, .inl (va_cpy f g sp.toNatClampNeg dp.toNatClampNeg n.toNatClampNeg))), a, b)) none
      | _, _ => none
    | _, _ => none
  | .invokespecial ix => match ab_lk (ab_oT own) ix, st with
    | some _, .ref _ :: r => cond (Nat.ble (ab_sum r) 8) (some ([], pc + 3, L, r, w, a, b)) none
    | _, _ => none
  | _ => none
/-- a branch: its condition, where it goes then, where else -/
def ab_br (i : Instr) (tgt pc : Nat) (L : ab_L) (st : List Value) (w : ab_W) (a b : Nat) : Option (Prop × ab_S × ab_S) :=
  match i with
  | .ifCond .eq _ => match st with
    | .int x :: r => some (x = 0, (tgt, L, r, w, a, b), (pc + 3, L, r, w, a, b))
    | _ => none
  | .if_icmp .eq _ => match st with
    | .int y :: .int x :: r => some (x = y, (tgt, L, r, w, a, b), (pc + 3, L, r, w, a, b))
    | _ => none
  | .ifCond .ne _ => match st with
    | .int x :: r => some (¬ x = 0, (tgt, L, r, w, a, b), (pc + 3, L, r, w, a, b))
    | _ => none
  | .if_icmp .ne _ => match st with
    | .int y :: .int x :: r => some (¬ x = y, (tgt, L, r, w, a, b), (pc + 3, L, r, w, a, b))
    | _ => none
  | .ifCond .lt _ => match st with
    | .int x :: r => some (x < 0, (tgt, L, r, w, a, b), (pc + 3, L, r, w, a, b))
    | _ => none
  | .if_icmp .lt _ => match st with
    | .int y :: .int x :: r => some (x < y, (tgt, L, r, w, a, b), (pc + 3, L, r, w, a, b))
    | _ => none
  | .ifCond .ge _ => match st with
    | .int x :: r => some (0 ≤ x, (tgt, L, r, w, a, b), (pc + 3, L, r, w, a, b))
    | _ => none
  | .if_icmp .ge _ => match st with
    | .int y :: .int x :: r => some (y ≤ x, (tgt, L, r, w, a, b), (pc + 3, L, r, w, a, b))
    | _ => none
  | .ifCond .gt _ => match st with
    | .int x :: r => some (0 < x, (tgt, L, r, w, a, b), (pc + 3, L, r, w, a, b))
    | _ => none
  | .if_icmp .gt _ => match st with
    | .int y :: .int x :: r => some (y < x, (tgt, L, r, w, a, b), (pc + 3, L, r, w, a, b))
    | _ => none
  | .ifCond .le _ => match st with
    | .int x :: r => some (x ≤ 0, (tgt, L, r, w, a, b), (pc + 3, L, r, w, a, b))
    | _ => none
  | .if_icmp .le _ => match st with
    | .int y :: .int x :: r => some (x ≤ y, (tgt, L, r, w, a, b), (pc + 3, L, r, w, a, b))
    | _ => none
  | .ifnull _ => match st with
    | .ref _ :: r => some (False, (tgt, L, r, w, a, b), (pc + 3, L, r, w, a, b))
    | .null :: r => some (True, (tgt, L, r, w, a, b), (pc + 3, L, r, w, a, b))
    | _ => none
  | .ifnonnull _ => match st with
    | .ref _ :: r => some (True, (tgt, L, r, w, a, b), (pc + 3, L, r, w, a, b))
    | .null :: r => some (False, (tgt, L, r, w, a, b), (pc + 3, L, r, w, a, b))
    | _ => none
  | _ => none
/-- a return: on what condition, with what -/
def ab_rt (ret : Option FieldType) (i : Instr) (st : List Value) : Option (List Prop × Option Value) := match i, ret, st with
  | .ireturn, some .int, [.int x] => some ([], some (.int x))
  | .ireturn, some .boolean, [.int x] => some ([x = 0 ∨ x = 1], some (.int x))
  | .lreturn, some .long, [.long x] => some ([], some (.long x))
  | .areturn, some (.object _), [.ref x] => some ([], some (.ref x))
  | .areturn, some (.object _), [.null] => some ([], some .null)
  | .return_, none, [] => some ([], none)
  | _, _, _ => none
/-- a call: the method, its arguments, what stays on the stack -/
def ab_ca (own : Nat) (i : Instr) (st : List Value) (w : ab_W) : Option (Nat × List Value × List Value) := match i with
  | .invokevirtual ix => match ab_lk (ab_mT own) ix with
    | some (j, n, 0) => match st.drop n with
      | .ref o :: r => match w[o]? with
        | some (.inr (ci, _)) => cond (Nat.beq (st.take n).length n && Nat.ble (ab_sum r) 8 && Nat.beq ci (ab_ow j)) (some (j, .ref o :: (st.take n).reverse, r)) none
        | _ => none
      | _ => none
    | _ => none
  | .invokespecial ix => match ab_lk (ab_mT own) ix with
    | some (j, n, 1) => match st.drop n with
      | .ref o :: r => cond (Nat.beq (st.take n).length n && Nat.ble (ab_sum r) 8) (some (j, .ref o :: (st.take n).reverse, r)) none
      | _ => none
    | some (j, n, 3) => match st.drop n with
      | .ref o :: r => cond (Nat.beq (st.take n).length n && Nat.ble (ab_sum r) 8) (some (j, .ref o :: (st.take n).reverse, r)) none
      | _ => none
    | _ => none
  | .invokestatic ix => match ab_lk (ab_mT own) ix with
    | some (j, n, 2) => cond (Nat.beq (st.take n).length n && Nat.ble (ab_sum (st.drop n)) 8) (some (j, (st.take n).reverse, st.drop n)) none
    | some (j, n, 4) => cond (Nat.beq (st.take n).length n && Nat.ble (ab_sum (st.drop n)) 8) (some (j, (st.take n).reverse, st.drop n)) none
    | _ => none
  | _ => none
def ab_len (i : Instr) : Nat := match i with
  | .iconst _ => 1 | .bipush _ => 2 | .sipush _ => 3 | .lconst _ => 1 | .aconst_null => 1 | .ldc _ => 2 | .ldc_w _ => 3 | .ldc2_w _ => 3
  | .iload _ => 2 | .lload _ => 2 | .aload _ => 2 | .istore _ => 2 | .lstore _ => 2 | .astore _ => 2 | .iinc _ _ => 3 | .goto _ => 3
  | .tableswitch _ _ _ _ => 0 | .lookupswitch _ _ => 0 | .getfield _ => 3 | .putfield _ => 3 | .new _ => 3 | .newarray _ => 2 | .anewarray _ => 3 | .getstatic _ => 3
  | .invokestatic _ => 3 | .invokespecial _ => 3 | .invokevirtual _ => 3 | .ifCond _ _ => 3 | .if_icmp _ _ => 3 | .ifnull _ => 3 | .ifnonnull _ => 3
  | _ => 1
def ab_off (i : Instr) : Option Int := match i with
  | .goto f => some f | .ifCond _ f => some f | .if_icmp _ f => some f | .ifnull f => some f | .ifnonnull f => some f
  | _ => none
def ab_vOk (cc : ByteArray) (code : ab_C) (pc : Nat) : Bool := match code pc with
  | none => true
  | some (i, t) => match decode cc pc with
    | .ok (i', len) => decide (i' = i) && (Nat.beq (ab_len i) 0 || Nat.beq (ab_len i) len) && (match ab_off i with
      | none => true
      | some off => decide ((pc : Int) + off = (t : Int)))
    | .error _ => false
/-- what a call leaves behind in the caller's world -/
def ab_ix : List Nat → Nat → Nat → Option Nat
  | [], _, _ => none
  | x :: t, k, i => cond (Nat.beq x k) (some i) (ab_ix t k (i + 1))
def ab_put (is : List Nat) (n : Nat) (w w1 : ab_W) (p : Nat → Nat) : ab_W := w.mapIdx (fun k e => match ab_ix is k 0 with
  | some i => match w1[i]? with
    | some x => ab_re p id x
    | none => e
  | none => e) ++ (w1.drop n).map (ab_re p id)
abbrev ab_O : Type := Option Value × ab_W × Nat × Nat
/-- a run of at most k steps to a return; C: what calls do -/
def ab_X (ro : ab_R) (C : Nat → List Value → ab_W → ab_O → Prop) (own : Nat) (ini : Bool) (ret : Option FieldType) (code : ab_C) (o : ab_O) : Nat → ab_S → Prop
  | 0, _ => False
  | k + 1, (pc, L, st, w, a, b) => ∃ i t, code pc = some (i, t) ∧
    ((∃ ps s', ab_nx ro own ini i t pc L st w a b = some (ps, s') ∧ ab_all ps ∧ ab_X ro C own ini ret code o k s') ∨
     (∃ c s1 s2, ab_br i t pc L st w a b = some (c, s1, s2) ∧ ((c ∧ ab_X ro C own ini ret code o k s1) ∨ (¬ c ∧ ab_X ro C own ini ret code o k s2))) ∨
     (∃ ps v, ab_rt ret i st = some (ps, v) ∧ ab_all ps ∧ o = (v, w, a, b)) ∨
     (∃ j as r, ab_ca own i st w = some (j, as, r) ∧ ∃ (is : List Nat) (as' : List Value) (wc w1 : ab_W) (v : Option Value) (mc ms : Nat), C j as' wc (v, w1, mc, ms) ∧
       as = as'.map (ab_rv (ab_pi is w.length)) ∧ is.map (fun i => w[i]?) = wc.map (fun e => some (ab_re (ab_pi is w.length) id e)) ∧ is.Nodup ∧ wc.length + mc < 500000 ∧
       ab_X ro C own ini ret code o k (pc + 3, L, (v.map (ab_rv (ab_pi is w.length))).toList ++ r, ab_put is wc.length w w1 (ab_pi is w.length), a + mc, b + ms)))
