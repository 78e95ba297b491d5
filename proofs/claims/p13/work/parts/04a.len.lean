/-! lengths, offsets, the check of a code table -/
def ab_len (i : Instr) : Nat := match i with
  | .iconst _ => 1 | .bipush _ => 2 | .sipush _ => 3 | .lconst _ => 1 | .aconst_null => 1 | .ldc _ => 2 | .ldc_w _ => 3 | .ldc2_w _ => 3
  | .iload _ => 2 | .lload _ => 2 | .aload _ => 2 | .istore _ => 2 | .lstore _ => 2 | .astore _ => 2 | .iinc _ _ => 3 | .goto _ => 3
  | .tableswitch _ _ _ _ => 0 | .lookupswitch _ _ => 0 | .getfield _ => 3 | .putfield _ => 3 | .new _ => 3 | .newarray _ => 2 | .anewarray _ => 3 | .getstatic _ => 3
  | .invokestatic _ => 3 | .invokespecial _ => 3 | .invokevirtual _ => 3 | .ifCond _ _ => 3 | .if_icmp _ _ => 3 | .ifnull _ => 3 | .ifnonnull _ => 3
  | _ => 1
def ab_off (i : Instr) : Option Int := match i with
  | .goto f => some f | .ifCond _ f => some f | .if_icmp _ f => some f | .ifnull f => some f | .ifnonnull f => some f
  | _ => none
def ab_vOk (cc : ByteArray) (code : ab_C) (pc : Nat) : Bool := match code pc with
  | none => true
  | some (i, t) => match decode cc pc with
    | .ok (i', len) => decide (i' = i) && (Nat.beq (ab_len i) 0 || Nat.beq (ab_len i) len) && (match ab_off i with
      | none => true
      | some off => decide ((pc : Int) + off = (t : Int)))
    | .error _ => false
