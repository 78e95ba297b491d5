/-! the checker: abstract states, steps, measures -/
abbrev ck_T : Type := Nat × Nat × Nat
abbrev ck_V : Type := ty_A × ck_T
abbrev ck_A : Type := List (Option ty_A) × List ck_V × List (Nat × Nat × ty_A)
abbrev ck_H : Type := Nat × Nat × Int × Int
abbrev ck_M : Type := Int × List (Nat × Int)
abbrev ck_N : Type := Nat × ck_A × ck_M × List Nat × Nat
abbrev ck_top : ty_A := (0, -2147483648, 2147483647)
abbrev ck_ltop : ty_A := (1, -9223372036854775808, 9223372036854775807)
def ck_fit (lo hi : Int) : ty_A := if -2147483648 ≤ lo ∧ hi ≤ 2147483647 then (0, lo, hi) else ck_top
def ck_drop (k : Nat) (s : List ck_V) : List ck_V := s.map (fun q => cond (Nat.beq q.2.1 0 || !(Nat.beq q.2.2.1 k)) q (q.1, 0, 0, 0))
def ck_dropF (f : Nat) (s : List ck_V) : List ck_V := s.map (fun q => cond (Nat.beq q.2.1 0 || Nat.beq q.2.1 1 || !(Nat.beq q.2.2.2 f)) q (q.1, 0, 0, 0))
def ck_dropA (s : List ck_V) : List ck_V := s.map (fun q => cond (Nat.beq q.2.1 0 || Nat.beq q.2.1 1) q (q.1, 0, 0, 0))
def ck_fdrop (k : Nat) (s : List (Nat × Nat × ty_A)) : List (Nat × Nat × ty_A) := s.filter (fun q => !(Nat.beq q.1 k))
def ck_fdropF (f : Nat) (s : List (Nat × Nat × ty_A)) : List (Nat × Nat × ty_A) := s.filter (fun q => !(Nat.beq q.2.1 f))
/-- a local gets a value -/
def ck_set (A : ck_A) (k : Nat) (t : Option ty_A) : ck_A := (A.1.set k t, ck_drop k A.2.1, ck_fdrop k A.2.2)
/-- the half of a long below a local that gets a value is gone -/
def ck_kill (A : ck_A) (k : Nat) : ck_A := match k with
  | 0 => A
  | j + 1 => match A.1[j]? with
    | some (some (0, _, _)) => A
    | some (some (2, _, _)) => A
    | some (some (3, _, _)) => A
    | _ => ck_set A j none
def ck_push (A : ck_A) (t : ty_A) (g : ck_T) : ck_A := (A.1, (t, g) :: A.2.1, A.2.2)
def ck_stl (A : ck_A) (s : List ck_V) : ck_A := (A.1, s, A.2.2)
def ck_fct (A : ck_A) (k f : Nat) : Option ty_A := (A.2.2.find? (fun q => Nat.beq q.1 k && Nat.beq q.2.1 f)).map (fun q => q.2.2)
/-- what is known of a value gets narrower -/
def ck_w (f : Nat) : Int × Int := (((f / 10000000000 : Nat) : Int) - 1000, ((f % 10000000000 : Nat) : Int) - 1000)
def ck_app (A : ck_A) (g : ck_T) (t : ty_A) : ck_A := match g.1 with
  | 0 => A
  | 1 => (A.1.set g.2.1 (some t), A.2.1, A.2.2)
  | 3 => (match A.1[g.2.1]? with
    | some (some (0, a, b)) => cond (Nat.beq t.1 0 && (decide (0 < t.2.1) || decide (t.2.2 < 0))) (A.1.set g.2.1 (some (0, max a (ck_w g.2.2).1, min b (ck_w g.2.2).2)), A.2.1, A.2.2) A
    | _ => A)
  | _ => (A.1, A.2.1, (g.2.1, g.2.2, t) :: A.2.2)
def ck_add (x y : ty_A) : ty_A := ck_fit (x.2.1 + y.2.1) (x.2.2 + y.2.2)
def ck_sub (x y : ty_A) : ty_A := ck_fit (x.2.1 - y.2.2) (x.2.2 - y.2.1)
def ck_mul (x y : ty_A) : ty_A := if y.2.1 = y.2.2 ∧ 0 ≤ y.2.1 then ck_fit (x.2.1 * y.2.1) (x.2.2 * y.2.1) else if x.2.1 = x.2.2 ∧ 0 ≤ x.2.1 then ck_fit (y.2.1 * x.2.1) (y.2.2 * x.2.1) else ck_top
def ck_and (x y : ty_A) : ty_A := if y.2.1 = y.2.2 ∧ 0 ≤ y.2.1 then (0, 0, y.2.1) else if x.2.1 = x.2.2 ∧ 0 ≤ x.2.1 then (0, 0, x.2.1) else ck_top
def ck_or (x y : ty_A) : ty_A := if (0 ≤ x.2.1 ∧ x.2.2 ≤ 1023) ∧ 0 ≤ y.2.1 ∧ y.2.2 ≤ 1023 then (0, 0, 1023) else ck_top
def ck_shl (x y : ty_A) : ty_A := if (x.2.1 = 1 ∧ x.2.2 = 1) ∧ 0 ≤ y.2.1 ∧ y.2.2 ≤ 9 then (0, 0, 512) else ck_top
def ck_rem (x y : ty_A) : ty_A := if 0 ≤ x.2.1 then (0, 0, y.2.2 - 1) else ck_top
def ck_div (x y : ty_A) : ty_A := if 0 ≤ x.2.1 ∧ y.2.1 = y.2.2 then (0, 0, x.2.2 / y.2.1) else ck_top
def ck_min (x y : ty_A) : ty_A := (0, min x.2.1 y.2.1, min x.2.2 y.2.2)
def ck_max (x y : ty_A) : ty_A := (0, max x.2.1 y.2.1, max x.2.2 y.2.2)
def ck_sum (s : List ck_V) : Nat := (s.map (fun q => cond (Nat.beq q.1.1 1) 2 1)).sum
def ck_in (x : ty_A) (n : Nat) : Bool := Nat.beq x.1 0 && decide (0 ≤ x.2.1) && decide (x.2.2 < (n : Int))
def ck_seg (sg : List ty_F) (x : ty_A) : ty_A := match sg.find? (fun q => decide ((q.1 : Int) ≤ x.2.1) && decide (x.2.2 < (q.2.1 : Int)) && Nat.beq q.2.2.1 1 && Nat.beq q.2.2.2.1 0) with
  | some q => (0, q.2.2.2.2.1, q.2.2.2.2.2)
  | none => ck_top
def ck_ssg (sg : List ty_F) (x v : ty_A) : Bool := sg.all (fun q => decide (x.2.2 < (q.1 : Int)) || decide ((q.2.1 : Int) ≤ x.2.1) || (decide (q.2.2.2.2.1 ≤ v.2.1) && decide (v.2.2 ≤ q.2.2.2.2.2)))
def ck_bin (A : ck_A) (pc : Nat) (f : ty_A → ty_A → ty_A) : Option (Nat × ck_A × ck_H) := match A.2.1 with
  | (y, _) :: (x, _) :: r => cond (Nat.beq x.1 0 && Nat.beq y.1 0) (some (pc + 1, ck_push (ck_stl A r) (f x y) (0, 0, 0), (0, 0, 0, 0))) none
  | _ => none
def ck_lfit (lo hi : Int) : ty_A := if -9223372036854775808 ≤ lo ∧ hi ≤ 9223372036854775807 then (1, lo, hi) else ck_ltop
def ck_ladd (x y : ty_A) : ty_A := ck_lfit (x.2.1 + y.2.1) (x.2.2 + y.2.2)
def ck_lsub (x y : ty_A) : ty_A := ck_lfit (x.2.1 - y.2.2) (x.2.2 - y.2.1)
def ck_lmul (x y : ty_A) : ty_A := if y.2.1 = y.2.2 ∧ 0 ≤ y.2.1 then ck_lfit (x.2.1 * y.2.1) (x.2.2 * y.2.1) else if x.2.1 = x.2.2 ∧ 0 ≤ x.2.1 then ck_lfit (y.2.1 * x.2.1) (y.2.2 * x.2.1) else ck_ltop
def ck_lrem (x y : ty_A) : ty_A := if 0 ≤ x.2.1 then (1, 0, y.2.2 - 1) else ck_ltop
def ck_l2i (x : ty_A) : ty_A := if -2147483648 ≤ x.2.1 ∧ x.2.2 ≤ 2147483647 then (0, x.2.1, x.2.2) else ck_top
def ck_lbin (A : ck_A) (pc : Nat) (f : ty_A → ty_A → ty_A) : Option (Nat × ck_A × ck_H) := match A.2.1 with
  | (y, _) :: (x, _) :: r => cond (Nat.beq x.1 1 && Nat.beq y.1 1) (some (pc + 1, ck_push (ck_stl A r) (f x y) (0, 0, 0), (0, 0, 0, 0))) none
  | _ => none
def ck_ld (A : ck_A) (k l : Nat) (f : Nat → Bool) : Option (Nat × ck_A × ck_H) := match A.1[k]? with
  | some (some t) => cond (f t.1) (some (l, ck_push A t (1, k, 0), (0, 0, 0, 0))) none
  | _ => none
def ck_st1 (A : ck_A) (k l : Nat) (f : ty_A → Bool) : Option (Nat × ck_A × ck_H) := match A.2.1 with
  | (t, _) :: r => cond (f t && Nat.blt k A.1.length) (some (l, ck_set (ck_kill (ck_stl A r) k) k (some t), cond (Nat.beq t.1 0) (2, k, t.2.1, t.2.2) (3, k, 0, 0))) none
  | _ => none
def ck_st2 (A : ck_A) (k l : Nat) : Option (Nat × ck_A × ck_H) := match A.2.1 with
  | (t, _) :: r => cond (Nat.beq t.1 1 && Nat.blt (k + 1) A.1.length) (some (l, ck_set (ck_set (ck_kill (ck_stl A r) k) (k + 1) none) k (some t), (4, k, 0, 0))) none
  | _ => none
def ck_isr (n : Nat) : Bool := Nat.beq n 2 || Nat.beq n 3
def ck_nn (t : ty_A) : Bool := Nat.beq t.1 3 || (Nat.beq t.1 2 && decide (t.2.2 = 0))
def ck_fits (ty : FieldType) (t : ty_A) : Bool := match ty with
  | .int => Nat.beq t.1 0
  | .long => Nat.beq t.1 1
  | .boolean => Nat.beq t.1 0 && decide (0 ≤ t.2.1) && decide (t.2.2 ≤ 1)
  | .object _ => ck_isr t.1
  | .array _ => ck_isr t.1
  | _ => false
def ck_ok (fb : List (Nat × Nat)) (s : Int) (f : Nat) : Bool := !(fb.any (fun q => decide ((q.1 : Int) = s) && (Nat.beq q.2 f || Nat.beq q.2 999)))
/-- rows of which one may be copied into the other -/
def ck_cps (sg0 sg1 : List ty_F) (n0 : Nat) : Bool := match sg1 with
  | [] => true
  | [q] => (match sg0 with
    | [p] => decide (p = q) && Nat.beq q.1 0 && Nat.beq q.2.1 n0 && Nat.beq q.2.2.1 1 && Nat.beq q.2.2.2.1 0
    | _ => false)
  | _ => false
/-- a step without a branch or a call -/
def ck_nx (sp : Nat → ty_S) (fb : List (Nat × Nat)) (own : Nat) (i : Instr) (tgt pc : Nat) (A : ck_A) : Option (Nat × ck_A × ck_H) := match i with
  | .iconst n => some (pc + 1, ck_push A (0, (Int32.ofInt n).toInt, (Int32.ofInt n).toInt) (0, 0, 0), (0, 0, 0, 0))
  | .bipush n => some (pc + 2, ck_push A (0, ((Int8.ofInt n).toInt32).toInt, ((Int8.ofInt n).toInt32).toInt) (0, 0, 0), (0, 0, 0, 0))
  | .sipush n => some (pc + 3, ck_push A (0, ((Int16.ofInt n).toInt32).toInt, ((Int16.ofInt n).toInt32).toInt) (0, 0, 0), (0, 0, 0, 0))
  | .lconst n => some (pc + 1, ck_push A (1, (Int64.ofNat (n : Nat)).toInt, (Int64.ofNat (n : Nat)).toInt) (0, 0, 0), (0, 0, 0, 0))
  | .aconst_null => some (pc + 1, ck_push A (2, 0, 1) (0, 0, 0), (0, 0, 0, 0))
  | .ldc ix => match ab_lk (ab_cT own) ix with
    | some (.int v) => some (pc + 2, ck_push A (0, v.toInt, v.toInt) (0, 0, 0), (0, 0, 0, 0))
    | some (.ref v) => cond (Nat.ble 1000000 v) (some (pc + 2, ck_push A (3, (v : Int), (v : Int)) (0, 0, 0), (0, 0, 0, 0))) none
    | _ => none
  | .ldc_w ix => match ab_lk (ab_cT own) ix with
    | some (.int v) => some (pc + 3, ck_push A (0, v.toInt, v.toInt) (0, 0, 0), (0, 0, 0, 0))
    | _ => none
  | .ldc2_w ix => match ab_lk (ab_cT own) ix with
    | some (.long v) => some (pc + 3, ck_push A (1, v.toInt, v.toInt) (0, 0, 0), (0, 0, 0, 0))
    | _ => none
  | .iload k => ck_ld A k (pc + 2) (fun n => Nat.beq n 0)
  | .iload_n k => ck_ld A (k : Nat) (pc + 1) (fun n => Nat.beq n 0)
  | .lload k => ck_ld A k (pc + 2) (fun n => Nat.beq n 1)
  | .lload_n k => ck_ld A (k : Nat) (pc + 1) (fun n => Nat.beq n 1)
  | .aload k => ck_ld A k (pc + 2) ck_isr
  | .aload_n k => ck_ld A (k : Nat) (pc + 1) ck_isr
  | .istore k => ck_st1 A k (pc + 2) (fun t => Nat.beq t.1 0)
  | .istore_n k => ck_st1 A (k : Nat) (pc + 1) (fun t => Nat.beq t.1 0)
  | .lstore k => ck_st2 A k (pc + 2)
  | .lstore_n k => ck_st2 A (k : Nat) (pc + 1)
  | .astore k => ck_st1 A k (pc + 2) (fun t => ck_isr t.1)
  | .astore_n k => ck_st1 A (k : Nat) (pc + 1) (fun t => ck_isr t.1)
  | .iinc k n => match A.1[k]? with
    | some (some t) => cond (Nat.beq t.1 0 && decide (-2147483648 ≤ t.2.1 + n) && decide (t.2.2 + n ≤ 2147483647) && decide (-128 ≤ n) && decide (n ≤ 127)) (some (pc + 3, ck_set (ck_kill A k) k (some (0, t.2.1 + n, t.2.2 + n)), (1, k, n, 0))) (cond (Nat.beq t.1 0) (some (pc + 3, ck_set (ck_kill A k) k (some ck_top), (2, k, -2147483648, 2147483647))) none)
    | _ => none
  | .dup => match A.2.1 with
    | (t, g) :: r => cond (Nat.beq t.1 0 || ck_nn t) (some (pc + 1, ck_push (ck_push (ck_stl A r) t g) t g, (0, 0, 0, 0))) none
    | _ => none
  | .dup2 => match A.2.1 with
    | (y, g) :: (x, h) :: r => cond (Nat.beq y.1 0 && ck_nn x) (some (pc + 1, ck_stl A ((y, g) :: (x, h) :: (y, g) :: (x, h) :: r), (0, 0, 0, 0))) (cond (Nat.beq y.1 1) (some (pc + 1, ck_stl A ((y, g) :: (y, g) :: (x, h) :: r), (0, 0, 0, 0))) none)
    | (y, g) :: r => cond (Nat.beq y.1 1) (some (pc + 1, ck_stl A ((y, g) :: (y, g) :: r), (0, 0, 0, 0))) none
    | _ => none
  | .pop => match A.2.1 with
    | (t, _) :: r => cond (Nat.beq t.1 0 || ck_nn t) (some (pc + 1, ck_stl A r, (0, 0, 0, 0))) none
    | _ => none
  | .iadd => ck_bin A pc ck_add
  | .isub => ck_bin A pc ck_sub
  | .imul => ck_bin A pc ck_mul
  | .iand => ck_bin A pc ck_and
  | .ior => ck_bin A pc ck_or
  | .ixor => ck_bin A pc (fun _ _ => ck_top)
  | .ishl => ck_bin A pc ck_shl
  | .ishr => ck_bin A pc (fun _ _ => ck_top)
  | .iushr => ck_bin A pc (fun _ _ => ck_top)
  | .idiv => match A.2.1 with
    | (y, _) :: _ => cond (decide (0 < y.2.1)) (ck_bin A pc ck_div) none
    | _ => none
  | .irem => match A.2.1 with
    | (y, _) :: _ => cond (decide (0 < y.2.1)) (ck_bin A pc ck_rem) none
    | _ => none
  | .ineg => match A.2.1 with
    | (x, _) :: r => cond (Nat.beq x.1 0) (some (pc + 1, ck_push (ck_stl A r) (ck_fit (-x.2.2) (-x.2.1)) (0, 0, 0), (0, 0, 0, 0))) none
    | _ => none
  | .i2l => match A.2.1 with
    | (x, _) :: r => cond (Nat.beq x.1 0) (some (pc + 1, ck_push (ck_stl A r) (1, x.2.1, x.2.2) (0, 0, 0), (0, 0, 0, 0))) none
    | _ => none
  | .l2i => match A.2.1 with
    | (x, _) :: r => cond (Nat.beq x.1 1) (some (pc + 1, ck_push (ck_stl A r) (ck_l2i x) (0, 0, 0), (0, 0, 0, 0))) none
    | _ => none
  | .i2b => match A.2.1 with
    | (x, _) :: r => cond (Nat.beq x.1 0) (some (pc + 1, ck_push (ck_stl A r) ck_top (0, 0, 0), (0, 0, 0, 0))) none
    | _ => none
  | .i2c => match A.2.1 with
    | (x, _) :: r => cond (Nat.beq x.1 0) (some (pc + 1, ck_push (ck_stl A r) ck_top (0, 0, 0), (0, 0, 0, 0))) none
    | _ => none
  | .ladd => ck_lbin A pc ck_ladd
  | .lsub => ck_lbin A pc ck_lsub
  | .lmul => ck_lbin A pc ck_lmul
  | .ldiv => match A.2.1 with
    | (y, _) :: _ => cond (decide (0 < y.2.1)) (ck_lbin A pc (fun _ _ => ck_ltop)) none
    | _ => none
  | .lrem => match A.2.1 with
    | (y, _) :: _ => cond (decide (0 < y.2.1)) (ck_lbin A pc ck_lrem) none
    | _ => none
  | .lcmp => match A.2.1 with
    | (y, _) :: (x, _) :: r => cond (Nat.beq x.1 1 && Nat.beq y.1 1) (some (pc + 1, ck_push (ck_stl A r) ck_top (0, 0, 0), (0, 0, 0, 0))) none
    | _ => none
  | .goto _ => some (tgt, A, (0, 0, 0, 0))
  | .getfield ix => match ab_lk (ab_fT own) ix, A.2.1 with
    | some (ci, f), (t, g) :: r => match sp t.2.1.toNat with
      | (0, cj, _, fl) => match fl[f]? with
        | some q => cond (Nat.beq t.1 2 && decide (t.2.2 = 0) && decide (0 ≤ t.2.1) && Nat.beq ci cj) (some (pc + 3, cond (Nat.beq g.1 1) (ck_push (ck_stl A r) ((ck_fct A g.2.1 f).getD (ty_fa q)) (2, g.2.1, f)) (ck_push (ck_stl A r) (ty_fa q) (0, 0, 0)), (0, 0, 0, 0))) none
        | none => none
      | _ => none
    | _, _ => none
  | .putfield ix => match ab_lk (ab_fT own) ix, A.2.1 with
    | some (ci, f), (v, _) :: (t, g) :: r => match sp t.2.1.toNat with
      | (0, cj, _, fl) => match fl[f]? with
        | some q => cond (Nat.beq t.1 2 && decide (t.2.2 = 0) && decide (0 ≤ t.2.1) && Nat.beq ci cj && !ab_fin ci f && ck_fits (ab_ty ci f) v && ty_le v (ty_fa q) && ck_ok fb t.2.1 f) (some (pc + 3, (A.1, ck_dropF f r, cond (Nat.beq g.1 1) ((g.2.1, f, v) :: ck_fdropF f A.2.2) (ck_fdropF f A.2.2)), (0, 0, 0, 0))) none
        | none => none
      | _ => none
    | _, _ => none
  | .iaload => match A.2.1 with
    | (x, _) :: (t, _) :: r => match sp t.2.1.toNat with
      | (1, 0, n, sg) => cond (Nat.beq t.1 2 && decide (t.2.2 = 0) && decide (0 ≤ t.2.1) && ck_in x n) (some (pc + 1, ck_push (ck_stl A r) (ck_seg sg x) (0, 0, 0), (0, 0, 0, 0))) none
      | _ => none
    | _ => none
  | .baload => match A.2.1 with
    | (x, _) :: (t, _) :: r => match sp t.2.1.toNat with
      | (1, k, n, sg) => cond (Nat.beq t.1 2 && decide (t.2.2 = 0) && decide (0 ≤ t.2.1) && (Nat.beq k 1 || Nat.beq k 3) && ck_in x n) (some (pc + 1, ck_push (ck_stl A r) (ck_seg sg x) (0, 0, 0), (0, 0, 0, 0))) none
      | _ => none
    | _ => none
  | .laload => match A.2.1 with
    | (x, _) :: (t, _) :: r => match sp t.2.1.toNat with
      | (2, _, n, _) => cond (Nat.beq t.1 2 && decide (t.2.2 = 0) && decide (0 ≤ t.2.1) && ck_in x n) (some (pc + 1, ck_push (ck_stl A r) ck_ltop (0, 0, 0), (0, 0, 0, 0))) none
      | _ => none
    | _ => none
  | .aaload => match A.2.1 with
    | (x, _) :: (t, _) :: r => match sp t.2.1.toNat with
      | (3, k, n, [q]) => cond (Nat.beq t.1 2 && decide (t.2.2 = 0) && decide (0 ≤ t.2.1) && (Nat.beq k 4 || Nat.beq k 5) && ck_in x n) (some (pc + 1, ck_push (ck_stl A r) (2, q.2.2.2.2.1, cond (Nat.beq q.1 1) 0 1) (0, 0, 0), (0, 0, 0, 0))) none
      | _ => none
    | _ => none
  | .iastore => match A.2.1 with
    | (v, _) :: (x, _) :: (t, _) :: r => match sp t.2.1.toNat with
      | (1, 0, n, sg) => cond (Nat.beq v.1 0 && Nat.beq t.1 2 && decide (t.2.2 = 0) && decide (0 ≤ t.2.1) && ck_in x n && ck_ssg sg x v && ck_ok fb t.2.1 999) (some (pc + 1, ck_stl A r, (0, 0, 0, 0))) none
      | _ => none
    | _ => none
  | .bastore => match A.2.1 with
    | (v, _) :: (x, _) :: (t, _) :: r => match sp t.2.1.toNat with
      | (1, k, n, []) => cond (Nat.beq v.1 0 && Nat.beq t.1 2 && decide (t.2.2 = 0) && decide (0 ≤ t.2.1) && (Nat.beq k 1 || Nat.beq k 3) && ck_in x n && ck_ok fb t.2.1 999) (some (pc + 1, ck_stl A r, (0, 0, 0, 0))) none
      | _ => none
    | _ => none
  | .lastore => match A.2.1 with
    | (v, _) :: (x, _) :: (t, _) :: r => match sp t.2.1.toNat with
      | (2, _, n, _) => cond (Nat.beq v.1 1 && Nat.beq t.1 2 && decide (t.2.2 = 0) && decide (0 ≤ t.2.1) && ck_in x n && ck_ok fb t.2.1 999) (some (pc + 1, ck_stl A r, (0, 0, 0, 0))) none
      | _ => none
    | _ => none
  | .aastore => match A.2.1 with
    | (v, _) :: (x, _) :: (t, _) :: r => match sp t.2.1.toNat with
      | (3, k, n, [q]) => match sp v.2.1.toNat with
        | (0, cj, _, _) => cond (Nat.beq v.1 2 && decide (0 ≤ v.2.1) && decide (v.2.1 = q.2.2.2.2.1) && (decide (v.2.2 = 0) || !(Nat.beq q.1 1)) && Nat.beq t.1 2 && decide (t.2.2 = 0) && decide (0 ≤ t.2.1) && (Nat.beq k 4 || Nat.beq k 5) && Nat.beq cj (ab_elem k) && ck_in x n && ck_ok fb t.2.1 999) (some (pc + 1, ck_stl A r, (0, 0, 0, 0))) none
        | _ => none
      | _ => none
    | _ => none
  | .arraylength => match A.2.1 with
    | (t, _) :: r => match sp t.2.1.toNat with
      | (g, k, n, _) => cond (Nat.beq t.1 2 && decide (t.2.2 = 0) && decide (0 ≤ t.2.1) && (Nat.beq g 1 || Nat.beq g 2 || Nat.beq g 3) && (Nat.beq g 2 || Nat.blt k 6) && Nat.blt n 2147483648) (some (pc + 1, ck_push (ck_stl A r) (0, (n : Int), (n : Int)) (0, 0, 0), (0, 0, 0, 0))) none
    | _ => none
  | .invokestatic ix => match ab_lk (ab_pT own) ix, A.2.1 with
    | some 0, (y, _) :: (x, _) :: r => cond (Nat.beq x.1 0 && Nat.beq y.1 0 && Nat.ble (ck_sum r) 8) (some (pc + 3, ck_push (ck_stl A r) (ck_min x y) (0, 0, 0), (0, 0, 0, 0))) none
    | some 1, (y, _) :: (x, _) :: r => cond (Nat.beq x.1 0 && Nat.beq y.1 0 && Nat.ble (ck_sum r) 8) (some (pc + 3, ck_push (ck_stl A r) (ck_max x y) (0, 0, 0), (0, 0, 0, 0))) none
    | some 2, (x, _) :: r => cond (Nat.beq x.1 0 && Nat.ble (ck_sum r) 8) (some (pc + 3, ck_push (ck_stl A r) ck_top (0, 0, 0), (0, 0, 0, 0))) none
    | some 3, (n, _) :: (dp, _) :: (t1, _) :: (s0, _) :: (t0, _) :: r => match sp t0.2.1.toNat, sp t1.2.1.toNat with
      | (1, 0, n0, sg0), (1, 0, n1, sg1) => cond (ck_cps sg0 sg1 n0 && Nat.beq n.1 0 && Nat.beq dp.1 0 && Nat.beq s0.1 0 && Nat.beq t0.1 2 && decide (t0.2.2 = 0) && decide (0 ≤ t0.2.1) && Nat.beq t1.1 2 && decide (t1.2.2 = 0) && decide (0 ≤ t1.2.1) && decide (0 ≤ n.2.1) && decide (0 ≤ dp.2.1) && decide (0 ≤ s0.2.1) && decide (s0.2.2 + n.2.2 ≤ (n0 : Int)) && decide (dp.2.2 + n.2.2 ≤ (n1 : Int)) && ck_ok fb t1.2.1 999 && Nat.ble (ck_sum r) 8) (some (pc + 3, ck_stl A r, (0, 0, 0, 0))) none
      | _, _ => none
    | _, _ => none
  | _ => none
/-- x narrowed by: x stands so to k -/
def ck_ref (c : Nat) (x k : ty_A) : Option ty_A := match (match c with
    | 0 => (max x.2.1 k.2.1, min x.2.2 k.2.2)
    | 1 => cond (decide (k.2.1 = k.2.2)) (cond (decide (x.2.1 = k.2.1)) (x.2.1 + 1) x.2.1, cond (decide (x.2.2 = k.2.1)) (x.2.2 - 1) x.2.2) (x.2.1, x.2.2)
    | 2 => (x.2.1, min x.2.2 (k.2.2 - 1))
    | 3 => (max x.2.1 k.2.1, x.2.2)
    | 4 => (max x.2.1 (k.2.1 + 1), x.2.2)
    | _ => (x.2.1, min x.2.2 k.2.2) : Int × Int) with
  | (lo, hi) => if lo ≤ hi then some (0, lo, hi) else none
def ck_flip (c : Nat) : Nat := match c with
  | 0 => 0
  | 1 => 1
  | 2 => 4
  | 3 => 5
  | 4 => 2
  | _ => 3
def ck_neg (c : Nat) : Nat := match c with
  | 0 => 1
  | 1 => 0
  | 2 => 3
  | 3 => 2
  | 4 => 5
  | _ => 4
def ck_two (A : ck_A) (c : Nat) (x y : ck_V) : Option ck_A := match ck_ref c x.1 y.1, ck_ref (ck_flip c) y.1 x.1 with
  | some x', some y' => some (ck_app (ck_app A x.2 x') y.2 y')
  | _, _ => none
def ck_cnd (c : ClassFile.Cond) : Nat := match c with
  | .eq => 0
  | .ne => 1
  | .lt => 2
  | .ge => 3
  | .gt => 4
  | .le => 5
/-- a branch: where it goes, if it can, and where else -/
def ck_br (i : Instr) (tgt pc : Nat) (A : ck_A) : Option (Option (Nat × ck_A) × Option (Nat × ck_A)) := match i with
  | .ifCond c _ => match A.2.1 with
    | x :: r => cond (Nat.beq x.1.1 0) (some ((ck_two (ck_stl A r) (ck_cnd c) x ((0, 0, 0), (0, 0, 0))).map (fun B => (tgt, B)), (ck_two (ck_stl A r) (ck_neg (ck_cnd c)) x ((0, 0, 0), (0, 0, 0))).map (fun B => (pc + 3, B)))) none
    | _ => none
  | .if_icmp c _ => match A.2.1 with
    | y :: x :: r => cond (Nat.beq x.1.1 0 && Nat.beq y.1.1 0) (some ((ck_two (ck_stl A r) (ck_cnd c) x y).map (fun B => (tgt, B)), (ck_two (ck_stl A r) (ck_neg (ck_cnd c)) x y).map (fun B => (pc + 3, B)))) none
    | _ => none
  | .ifnull _ => match A.2.1 with
    | (t, g) :: r => cond (Nat.beq t.1 2) (some (cond (decide (t.2.2 = 1)) (some (tgt, ck_stl A r)) none, cond (decide (t.2.1 = 0)) none (some (pc + 3, ck_app (ck_stl A r) g (2, t.2.1, 0))))) none
    | _ => none
  | .ifnonnull _ => match A.2.1 with
    | (t, g) :: r => cond (Nat.beq t.1 2) (some (cond (decide (t.2.1 = 0)) none (some (tgt, ck_app (ck_stl A r) g (2, t.2.1, 0))), cond (decide (t.2.2 = 1)) (some (pc + 3, ck_stl A r)) none)) none
    | _ => none
  | _ => none
def ck_rt (ret : Option FieldType) (rt : Option ty_A) (i : Instr) (A : ck_A) : Bool := match i, ret, A.2.1, rt with
  | .ireturn, some .int, [(t, _)], some r => Nat.beq t.1 0 && ty_le t r
  | .ireturn, some .boolean, [(t, _)], some r => Nat.beq t.1 0 && decide (0 ≤ t.2.1) && decide (t.2.2 ≤ 1) && ty_le t r
  | .lreturn, some .long, [(t, _)], some r => Nat.beq t.1 1 && ty_le t r
  | .areturn, some (.object _), [(t, _)], some r => Nat.beq t.1 2 && ty_le t r
  | .return_, none, [], none => true
  | _, _, _, _ => false
def ck_ca (sp : Nat → ty_S) (own : Nat) (i : Instr) (A : ck_A) : Option (Nat × List ty_A × List ck_T × List ck_V) := match i with
  | .invokevirtual ix => match ab_lk (ab_mT own) ix with
    | some (j, n, 0) => match A.2.1.drop n with
      | (t, g) :: r => match sp t.2.1.toNat with
        | (0, cj, _, _) => cond (Nat.beq (A.2.1.take n).length n && Nat.ble (ck_sum r) 8 && Nat.beq t.1 2 && decide (t.2.2 = 0) && decide (0 ≤ t.2.1) && Nat.beq cj (ab_ow j)) (some (j, t :: ((A.2.1.take n).map Prod.fst).reverse, g :: ((A.2.1.take n).map Prod.snd).reverse, r)) none
        | _ => none
      | _ => none
    | _ => none
  | .invokespecial ix => match ab_lk (ab_mT own) ix with
    | some (j, n, 3) => match A.2.1.drop n with
      | (t, g) :: r => cond (Nat.beq (A.2.1.take n).length n && Nat.ble (ck_sum r) 8 && Nat.beq t.1 2 && decide (t.2.2 = 0)) (some (j, t :: ((A.2.1.take n).map Prod.fst).reverse, g :: ((A.2.1.take n).map Prod.snd).reverse, r)) none
      | _ => none
    | _ => none
  | .invokestatic ix => match ab_lk (ab_mT own) ix with
    | some (j, n, 2) => cond (Nat.beq (A.2.1.take n).length n && Nat.ble (ck_sum (A.2.1.drop n)) 8) (some (j, ((A.2.1.take n).map Prod.fst).reverse, ((A.2.1.take n).map Prod.snd).reverse, A.2.1.drop n)) none
    | some (j, n, 4) => cond (Nat.beq (A.2.1.take n).length n && Nat.ble (ck_sum (A.2.1.drop n)) 8) (some (j, ((A.2.1.take n).map Prod.fst).reverse, ((A.2.1.take n).map Prod.snd).reverse, A.2.1.drop n)) none
    | _ => none
  | _ => none
/-! what includes what -/
def ck_leL : List (Option ty_A) → List (Option ty_A) → Bool
  | [], [] => true
  | _ :: s, none :: t => ck_leL s t
  | some a :: s, some b :: t => ty_le a b && ck_leL s t
  | _, _ => false
def ck_leS : List ck_V → List ck_V → Bool
  | [], [] => true
  | a :: s, b :: t => ty_le a.1 b.1 && (Nat.beq b.2.1 0 || (Nat.beq a.2.1 b.2.1 && Nat.beq a.2.2.1 b.2.2.1 && Nat.beq a.2.2.2 b.2.2.2)) && ck_leS s t
  | _, _ => false
def ck_le (A B : ck_A) : Bool := ck_leL A.1 B.1 && ck_leS A.2.1 B.2.1 && B.2.2.all (fun q => A.2.2.any (fun r => Nat.beq r.1 q.1 && Nat.beq r.2.1 q.2.1 && ty_le r.2.2 q.2.2))
/-! measures -/
def ck_cf (m : ck_M) (k : Nat) : Int := ((m.2.find? (fun q => Nat.beq q.1 k)).map Prod.snd).getD 0
def ck_li (L : ab_L) (k : Nat) : Int := match L[k]? with
  | some (some (.int x)) => x.toInt
  | _ => 0
def ck_sumi (g : Nat → Int) : Nat → Int
  | 0 => 0
  | k + 1 => ck_sumi g k + g k
def ck_sumo (f : Nat → Option Int) : Nat → Option Int
  | 0 => some 0
  | k + 1 => match ck_sumo f k, f k with
    | some a, some b => some (a + b)
    | _, _ => none
def ck_mv (n : Nat) (m : ck_M) (L : ab_L) : Int := m.1 + ck_sumi (fun k => ck_cf m k * ck_li L k) n
def ck_ub (c : Int) (t : Option ty_A) : Option Int := if c = 0 then some 0 else match t with
  | some (0, lo, hi) => some (if 0 ≤ c then c * hi else c * lo)
  | _ => none
def ck_iv (A : ck_A) (k : Nat) : Option ty_A := match A.1[k]? with
  | some t => t
  | none => none
def ck_pos (n : Nat) (m : ck_M) (A : ck_A) : Bool := match ck_sumo (fun k => ck_ub (-(ck_cf m k)) (ck_iv A k)) n with
  | some s => decide (s ≤ m.1)
  | none => false
def ck_oadd (a b : Option Int) : Option Int := match a, b with
  | some x, some y => some (x + y)
  | _, _ => none
def ck_df (H : ck_H) (m m' : ck_M) (A : ck_A) (k : Nat) : Option Int := match H with
  | (0, _, _, _) => ck_ub (ck_cf m' k - ck_cf m k) (ck_iv A k)
  | (1, K, n, _) => cond (Nat.beq k K) (ck_oadd (ck_ub (ck_cf m' k - ck_cf m k) (ck_iv A k)) (some (ck_cf m' k * n))) (ck_ub (ck_cf m' k - ck_cf m k) (ck_iv A k))
  | (2, K, lo, hi) => cond (Nat.beq k K) (ck_oadd (ck_ub (-(ck_cf m k)) (ck_iv A k)) (ck_ub (ck_cf m' k) (some (0, lo, hi)))) (ck_ub (ck_cf m' k - ck_cf m k) (ck_iv A k))
  | (3, K, _, _) => cond (Nat.beq k K) (ck_ub (-(ck_cf m k)) (ck_iv A k)) (ck_ub (ck_cf m' k - ck_cf m k) (ck_iv A k))
  | (_, K, _, _) => cond (Nat.beq k K || Nat.beq k (K + 1)) (ck_ub (-(ck_cf m k)) (ck_iv A k)) (ck_ub (ck_cf m' k - ck_cf m k) (ck_iv A k))
def ck_dec (n : Nat) (H : ck_H) (m m' : ck_M) (A : ck_A) : Bool := match ck_sumo (ck_df H m m' A) n with
  | some s => decide (m'.1 + s < m.1)
  | none => false
abbrev ck_E : Type := Nat × List ty_A × Option ty_A × Nat × Nat
def ck_args : List ty_A → List ty_A → Bool
  | [], [] => true
  | a :: s, b :: t => ty_le a b && ck_args s t
  | _, _ => false
/-- what an answer tells of an argument that is a local -/
def ck_wt (wa wf : Nat) (gs : List ck_T) : ck_T := match wa with
  | 0 => (0, 0, 0)
  | a + 1 => match gs[a]? with
    | some (1, k, _) => (3, k, wf)
    | _ => (0, 0, 0)
def ck_psh (gr : Option ty_A) (g : ck_T) (r : List ck_V) : List ck_V := match gr with
  | some t => (t, g) :: r
  | none => r
/-- a step to a node -/
def ck_to (n : Nat) (T : List ck_N) (H : ck_H) (m : ck_M) (A : ck_A) (x : Nat × ck_A) (k : Nat) : Bool := match T[k]? with
  | some N => Nat.beq N.1 x.1 && ck_le x.2 N.2.1 && ck_dec n H m N.2.2.1 A
  | none => false
/-- cases of a switch -/
def ck_sw (n : Nat) (T : List ck_N) (m : ck_M) (A : ck_A) (x : ck_V) (pc : Nat) (lo : Int) : Nat → List Int → List Nat → Bool
  | _, [], _ => true
  | q, off :: offs, k :: ks => (decide (lo + (q : Int) < x.1.2.1) || decide (x.1.2.2 < lo + (q : Int)) || (decide (0 ≤ (pc : Int) + off) && ck_to n T (0, 0, 0, 0) m A (((pc : Int) + off).toNat, ck_app A x.2 (0, lo + (q : Int), lo + (q : Int))) k)) && ck_sw n T m A x pc lo (q + 1) offs ks
  | _, _ :: _, [] => false
/-- cases of a switch by keys -/
def ck_lsw (n : Nat) (T : List ck_N) (m : ck_M) (A : ck_A) (pc : Nat) : List (Int × Int) → List Nat → Bool
  | [], _ => true
  | p :: ps, k :: ks => decide (0 ≤ (pc : Int) + p.2) && ck_to n T (0, 0, 0, 0) m A (((pc : Int) + p.2).toNat, A) k && ck_lsw n T m A pc ps ks
  | _ :: _, [] => false
def ck_node (sp : Nat → ty_S) (fb : List (Nat × Nat)) (own n : Nat) (ret : Option FieldType) (rt : Option ty_A) (code : ab_C) (E : List ck_E) (T : List ck_N) (N : ck_N) : Bool := Nat.beq N.2.1.1.length n && ck_pos n N.2.2.1 N.2.1 && (match code N.1 with
  | none => false
  | some (i, t) => match N.2.2.2.2 with
    | 0 => (match ck_nx sp fb own i t N.1 N.2.1, N.2.2.2.1 with
      | some (pc', A', H), [k] => ck_to n T H N.2.2.1 N.2.1 (pc', A') k
      | _, _ => false)
    | 1 => (match ck_br i t N.1 N.2.1, N.2.2.2.1 with
      | some (x, y), [k, l] => (match x with
          | none => true
          | some x => ck_to n T (0, 0, 0, 0) N.2.2.1 N.2.1 x k) && (match y with
          | none => true
          | some y => ck_to n T (0, 0, 0, 0) N.2.2.1 N.2.1 y l)
      | _, _ => false)
    | 2 => ck_rt ret rt i N.2.1
    | 3 => (match i, N.2.1.2.1, N.2.2.2.1 with
      | .tableswitch d lo hi offs, x :: r, k :: ks => Nat.beq x.1.1 0 && decide (0 ≤ (N.1 : Int) + d) && ck_to n T (0, 0, 0, 0) N.2.2.1 N.2.1 (((N.1 : Int) + d).toNat, ck_stl N.2.1 r) k && decide ((offs.toList.length : Int) = hi - lo + 1) && ck_sw n T N.2.2.1 (ck_stl N.2.1 r) x N.1 lo 0 offs.toList ks
      | .lookupswitch d ps, x :: r, k :: ks => Nat.beq x.1.1 0 && (ps.toList.zip (ps.toList.drop 1)).all (fun (a, next) => a.1 < next.1) && decide (0 ≤ (N.1 : Int) + d) && ck_to n T (0, 0, 0, 0) N.2.2.1 N.2.1 (((N.1 : Int) + d).toNat, ck_stl N.2.1 r) k && ck_lsw n T N.2.2.1 (ck_stl N.2.1 r) N.1 ps.toList ks
      | _, _, _ => false)
    | e + 4 => (match E[e]?, ck_ca sp own i N.2.1, N.2.2.2.1 with
      | some (j, ga, gr, wa, wf), some (j', ts, gs, r), [k] => Nat.beq j j' && ck_args ts ga && ck_to n T (0, 0, 0, 0) N.2.2.1 N.2.1 (N.1 + 3, (N.2.1.1, ck_psh gr (ck_wt wa wf gs) (ck_dropA r), [])) k
      | _, _, _ => false))
def ck_all (sp : Nat → ty_S) (fb : List (Nat × Nat)) (own n : Nat) (ret : Option FieldType) (rt : Option ty_A) (code : ab_C) (E : List ck_E) (T : List ck_N) : Bool := T.all (ck_node sp fb own n ret rt code E T)
