/-! AN ABSTRACT MACHINE: worlds are lists of cells, a reference is a place in the list; steps are computed; the soundness over the JVM stands in the next parts -/
abbrev ab_W : Type := List va_E
abbrev ab_L : Type := List (Option Value)
abbrev ab_S : Type := Nat × ab_L × List Value × ab_W × Nat × Nat
abbrev ab_R : Type := Nat → Option (Nat × (Nat → Int32))
abbrev ab_C : Type := Nat → Option (Instr × Nat)
def ab_all : List Prop → Prop
  | [] => True
  | p :: ps => p ∧ ab_all ps
def ab_lk {α : Type} (l : List (Nat × α)) (k : Nat) : Option α := match l with
  | [] => none
  | (i, v) :: t => cond (Nat.beq i k) (some v) (ab_lk t k)
theorem ab_lk_mem {α : Type} {l : List (Nat × α)} {k : Nat} {v : α} (h : ab_lk l k = some v) : (k, v) ∈ l := by
  induction l with
  | nil => cases h
  | cons q t ih =>
    obtain ⟨i, u⟩ := q
    unfold ab_lk at h
    cases hb : Nat.beq i k with
    | true =>
      rw [hb] at h
      simp only [cond_true, Option.some.injEq] at h
      have := Nat.eq_of_beq_eq_true hb
      subst this; subst h
      exact List.mem_cons_self
    | false =>
      rw [hb] at h
      exact List.mem_cons_of_mem _ (ih h)
/-- references renamed -/
def ab_rv (ad : Nat → Nat) (v : Value) : Value := match v with
  | .ref a => .ref (ad a)
  | v => v
def ab_rx (ad : Nat → Nat) (x : vp_A) : vp_A := match x with
  | (n, .inr (.inr (.inr (.inr f)))) => (n, .inr (.inr (.inr (.inr (fun i => (f i).map ad)))))
  | x => x
def ab_re (ad : Nat → Nat) (cA : Nat → ClassId) (e : va_E) : va_E := match e with
  | .inl (t, x) => .inl (cA t, ab_rx ad x)
  | .inr (c, fs) => .inr (c, fs.map (ab_rv ad))
def ab_rl (ad : Nat → Nat) (cA : Nat → ClassId) (w : ab_W) : va_W := w.mapIdx (fun k e => (ad k, ab_re ad cA e))
/-- the places of a callee's world in the caller's: its own cells, then new ones; behind 500000 the caller's cells that are outside, behind 510000 those that are outside for it too; behind 1000000 what is the same everywhere -/
def ab_pi (is : List Nat) (n k : Nat) : Nat := if k < is.length then is.getD k 0 else if k < 500000 then n + (k - is.length) else if k < 510000 then k - 500000 else if k < 1000000 then k - 10000 else k
def ab_ld (L : ab_L) (k : Nat) : Option Value := match L[k]? with
  | some (some v) => some v
  | _ => none
/-- the locals with a long at k gone -/
def ab_kill (L : ab_L) (k : Nat) : ab_L := match k with
  | 0 => L
  | j + 1 => match L[j]? with
    | some (some (.long _)) => L.set j none
    | some (some (.double _)) => L.set j none
    | _ => L
def ab_st1 (L : ab_L) (k : Nat) (v : Value) : ab_L := (ab_kill L k).set k (some v)
def ab_st2 (L : ab_L) (k : Nat) (v : Value) : ab_L := ((ab_kill L k).set (k + 1) none).set k (some v)
/-- may a value be put into a field of a type, and on what condition -/
def ab_fit (ty : FieldType) (v : Value) : Option (List Prop) := match ty, v with
  | .int, .int _ => some []
  | .long, .long _ => some []
  | .boolean, .int x => some [x = 0 ∨ x = 1]
  | .object _, .ref _ => some []
  | .object _, .null => some []
  | .array _, .ref _ => some []
  | .array _, .null => some []
  | _, _ => none
def ab_ts (pc : Nat) (d lo hi : Int) (offs : Array Int) (x : Int32) : Nat := if x.toInt < lo ∨ hi < x.toInt then ((pc : Int) + d).toNat else match offs[(x.toInt - lo).toNat]? with
  | some off => ((pc : Int) + off).toNat
  | none => 0
def ab_lsw (pc : Nat) (d : Int) (ps : Array (Int × Int)) (x : Int32) : Nat := ((pc : Int) + Op.lookupswitch.offset ps.toList d x.toInt).toNat
abbrev ab_q (f : Nat → Option Nat) : (Nat → Int32) ⊕ (Nat → Int64) ⊕ (Nat → UInt32) ⊕ (Nat → UInt64) ⊕ (Nat → Option Nat) := .inr (.inr (.inr (.inr f)))
