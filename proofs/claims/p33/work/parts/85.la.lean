/-! the texts that are kept -/
theorem KP_txt {f f' : Nat → Int32} {i t : Nat} (h : KP f) (ho : ∀ j, j ≠ i → f' j = f j) (hi : i < 5721 → kb i (f' i).toInt) (ht : (f 112).toInt ≤ (t : Int)) (h1 : i = 114 + t ∨ (121 + 400 * t ≤ i ∧ i < 521 + 400 * t) ∨ 2921 ≤ i) (h6 : t ≤ 6) : KP f' := by
  obtain ⟨a, b, c, d⟩ := h
  refine ⟨fun j hj => ?_, ?_, ?_, fun s hs => ?_⟩
  · by_cases z : j = i
    · rw [z]
      exact hi (by omega)
    · rw [ho j z]
      exact a j hj
  · rw [ho 110 (by omega), ho 71 (by omega)]
    exact b
  · rw [ho 113 (by omega), ho 112 (by omega)]
    exact c
  · rw [ho 112 (by omega)] at hs
    have k112 := (a 112 (by decide)).2.2.2.2.2.2.1 rfl
    have k114 := (a (114 + s) (by omega)).2.2.2.2.2.2.2.2 (by omega) (by omega)
    obtain ⟨n, m, hg⟩ := d s hs
    refine ⟨n, m, ?_⟩
    rw [ho (114 + s) (by omega)]
    refine glaw_congr (fun p => ?_) m _ hg
    unfold gc
    by_cases z : p < 400 * s + (f (114 + s)).toInt.toNat
    · rw [if_pos z, if_pos z]
      show (f (121 + p)).toInt = (f' (121 + p)).toInt
      rw [ho (121 + p) (by omega)]
    · rw [if_neg z, if_neg z]
theorem KP_law {f f' : Nat → Int32} (h : KP f) (ho : ∀ j, j ≠ 112 → f' j = f j) (h1 : (f' 112).toInt = (f 112).toInt + 1) (h2 : (f' 112).toInt ≤ 6) (hg : gwf f (f 112).toInt.toNat) : KP f' := by
  obtain ⟨a, b, c, d⟩ := h
  have k112 := (a 112 (by decide)).2.2.2.2.2.2.1 rfl
  refine ⟨fun j hj => ?_, ?_, ?_, fun s hs => ?_⟩
  · by_cases z : j = 112
    · rw [z]
      exact ⟨⟨fun _ => by omega, fun _ _ _ => by omega, fun _ _ _ => by omega, fun _ => by omega⟩, fun _ _ => by omega, fun _ _ _ => by omega, fun _ => by omega, fun _ => by omega, fun _ => by omega, fun _ => by omega, fun _ => by omega, fun _ _ => by omega⟩
    · rw [ho j z]
      exact a j hj
  · rw [ho 110 (by omega), ho 71 (by omega)]
    exact b
  · rw [ho 113 (by omega), h1]
    omega
  · have hg2 : gwf f s := by
      by_cases z : (s : Int) < (f 112).toInt
      · exact d s z
      · rw [show s = (f 112).toInt.toNat by omega]
        exact hg
    have k114 := (a (114 + s) (by omega)).2.2.2.2.2.2.2.2 (by omega) (by omega)
    exact gwf_congr (fun k _ => ho _ (by omega)) (ho _ (by omega)) hg2 (by omega) k114.2
/-- a text as it is laid -/
theorem pa_lay {f2 fc : Nat → Int32} {e : Int32} {t : Nat} {o : Bool} (he : 0 ≤ e.toInt) (h1 : (f2 (114 + t)).toInt = e.toInt) (h2 : ∀ j : Nat, (j : Int) < e.toInt → f2 (121 + 400 * t + j) = fc j) (h : GW o (cd fc) e.toInt.toNat 0) : GW o (cf f2) (400 * t + (f2 (114 + t)).toInt.toNat) (400 * t) := by
  have y := gw_shift (c' := cf f2) (s := 400 * t) (fun p => ?_) h
  · rw [Nat.zero_add] at y
    rw [h1, Nat.add_comm]
    exact y
  · unfold gc
    by_cases z : p < e.toInt.toNat
    · rw [if_pos z, if_pos (by omega)]
      show (f2 (121 + (p + 400 * t))).toInt = (fc p).toInt
      rw [show 121 + (p + 400 * t) = 121 + 400 * t + p by omega, h2 p (by omega)]
    · rw [if_neg z, if_neg (by omega)]
/-- what a text tells that was read -/
def rd_ok (b : Bool) (o : Nat) (w1 : ab_W) : Prop := ∃ (pc : Nat) (fc : Nat → Int32) (e : Int32), hx_has w1 o 9 15 (.ref pc) ∧ hx_has w1 o 9 18 (.int e) ∧ w1[pc]? = some (.inl (0, 401, .inl fc)) ∧ (0 ≤ e.toInt ∧ e.toInt ≤ 400) ∧ GW b (cd fc) e.toInt.toNat 0
