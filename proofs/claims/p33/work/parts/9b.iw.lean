/-! the first world: both objects as they are made -/
section Iw
variable {G : Nat → Nat}
def iw_v (G : Nat → Nat) (a : ty_A) (v : Value) : Bool := match v with
  | .int x => Nat.beq a.1 0 && decide (a.2.1 ≤ x.toInt) && decide (x.toInt ≤ a.2.2)
  | .ref k => Nat.beq a.1 2 && !Nat.beq (G k) 0 && decide (((G k : Nat) : Int) = a.2.1)
  | _ => false
theorem iw_v_ok {a : ty_A} {v : Value} (h : iw_v G a v = true) : ty_v G a v := by
  cases v with
  | int x =>
    unfold iw_v at h
    rw [Bool.and_eq_true, Bool.and_eq_true] at h
    exact ⟨Nat.eq_of_beq_eq_true h.1.1, of_decide_eq_true h.1.2, of_decide_eq_true h.2⟩
  | ref k =>
    unfold iw_v at h
    rw [Bool.and_eq_true, Bool.and_eq_true] at h
    refine Or.inl ⟨Nat.eq_of_beq_eq_true h.1.1, fun z => ?_, of_decide_eq_true h.2⟩
    have := h.1.2
    rw [z] at this
    cases this
  | _ => cases h
def iw_fs (G : Nat → Nat) : List ty_F → List Value → Bool
  | [], [] => true
  | q :: l, v :: r => iw_v G (ty_fa q) v && iw_fs G l r
  | _, _ => false
theorem iw_fs_ok : ∀ {l : List ty_F} {r : List Value}, iw_fs G l r = true → r.length = l.length ∧ ∀ (k : Nat) (q : ty_F), l[k]? = some q → ∃ v, r[k]? = some v ∧ ty_v G (ty_fa q) v
  | [], [], _ => ⟨rfl, fun k q hq => by cases hq⟩
  | q :: l, v :: r, h => by
    have h' : (iw_v G (ty_fa q) v && iw_fs G l r) = true := h
    rw [Bool.and_eq_true] at h'
    obtain ⟨h1, h2⟩ := iw_fs_ok h'.2
    refine ⟨by rw [List.length_cons, List.length_cons, h1], fun k q' hq => ?_⟩
    cases k with
    | zero =>
      cases hq
      exact ⟨v, rfl, iw_v_ok h'.1⟩
    | succ k => exact h2 k q' hq
  | [], _ :: _, h => by cases h
  | _ :: _, [], h => by cases h
theorem iw_obj {ci nn : Nat} {fl : List ty_F} {fs : List Value} (h : iw_fs G fl fs = true) : ty_c G (0, ci, nn, fl) (.inr (ci, fs)) := ⟨rfl, rfl, (iw_fs_ok h).1, (iw_fs_ok h).2⟩
theorem iw_row0 {t n : Nat} {sg : List ty_F} (h : ∀ q ∈ sg, q.2.2.2.2.1 ≤ 0 ∧ 0 ≤ q.2.2.2.2.2) : ty_c G (1, t, n, sg) (.inl (t, n, .inl (fun _ => 0))) := Or.inl ⟨rfl, rfl, rfl, fun q hq _ _ _ _ => h q hq⟩
theorem iw_none {t n : Nat} {x : Int} : ty_c G (3, t, n, [(0, 0, 0, 0, x, 0)]) (.inl (t, n, .inr (.inr (.inr (.inr (fun _ => none)))))) := by
  refine ⟨rfl, rfl, rfl, fun i k h => (by cases h), fun q hq h => ?_⟩
  cases List.mem_singleton.mp hq
  cases h
/-- what kept holds at first -/
def iw_kf : Nat → Int32 := (upd (upd (upd (fun _ => 0) 107 10) 108 2) 113 (-1))
theorem iw_kf_at (i : Nat) : (iw_kf i).toInt = if i = 113 then -1 else if i = 108 then 2 else if i = 107 then 10 else 0 := by
  show (upd (upd (upd (fun _ => 0) 107 10) 108 2) 113 (-1) i).toInt = _
  unfold upd
  split
  · rfl
  · split
    · rfl
    · split <;> rfl
theorem iw_kept : ty_c G (1, 0, 5721, [(0, 10, 1, 0, 0, 999), (68, 69, 1, 0, 0, 16), (71, 81, 1, 0, -1, 9), (107, 108, 1, 0, 2, 99), (110, 111, 1, 0, 0, 10), (111, 112, 1, 0, 0, 8), (112, 113, 1, 0, 0, 6), (113, 114, 1, 0, -1, 5), (114, 121, 1, 0, 0, 400)]) (.inl (0, 5721, .inl iw_kf)) := by
  refine Or.inl ⟨rfl, rfl, rfl, fun q hq i h1 h2 _ => ?_⟩
  rw [iw_kf_at]
  simp only [List.mem_cons, List.not_mem_nil, or_false] at hq
  rcases hq with rfl | rfl | rfl | rfl | rfl | rfl | rfl | rfl | rfl <;> dsimp only at h1 h2 ⊢ <;> split <;> (try split) <;> (try split) <;> omega
theorem iw_words : ty_c G (1, 1, 140, [(139, 140, 1, 0, 32, 32)]) (.inl (1, 140, .inl (upd (upd (upd (upd (upd (upd (upd (upd (upd (upd (upd (upd (upd (upd (upd (upd (upd (upd (upd (upd (upd (upd (upd (upd (upd (upd (upd (upd (upd (upd (upd (upd (upd (upd (upd (upd (upd (upd (upd (upd (upd (upd (upd (upd (upd (upd (upd (upd (upd (upd (upd (upd (upd (upd (upd (upd (upd (upd (upd (upd (upd (upd (upd (upd (upd (upd (upd (upd (upd (upd (upd (upd (upd (upd (upd (upd (upd (upd (upd (upd (upd (upd (upd (upd (upd (upd (upd (upd (upd (upd (upd (upd (upd (upd (upd (upd (upd (upd (upd (upd (upd (upd (upd (upd (upd (upd (upd (upd (upd (upd (upd (upd (upd (upd (upd (upd (upd (upd (upd (upd (upd (upd (upd (upd (upd (upd (upd (upd (upd (upd (upd (upd (upd (upd (upd (upd (upd (upd (upd (upd (fun _ => 0) 0 116) 1 101) 2 110) 3 115) 4 32) 5 115) 6 116) 7 97) 8 121) 9 115) 10 32) 11 115) 12 116) 13 101) 14 112) 15 115) 16 32) 17 98) 18 97) 19 114) 20 115) 21 32) 22 105) 23 102) 24 32) 25 111) 26 114) 27 32) 28 97) 29 110) 30 100) 31 32) 32 110) 33 111) 34 116) 35 32) 36 112) 37 97) 38 114) 39 105) 40 115) 41 104) 42 32) 43 98) 44 101) 45 108) 46 111) 47 119) 48 32) 49 100) 50 101) 51 112) 52 116) 53 104) 54 32) 55 119) 56 97) 57 108) 58 107) 59 101) 60 100) 61 32) 62 109) 63 111) 64 111) 65 100) 66 32) 67 99) 68 111) 69 117) 70 110) 71 116) 72 32) 73 111) 74 118) 75 101) 76 114) 77 32) 78 100) 79 97) 80 121) 81 32) 82 100) 83 111) 84 110) 85 101) 86 32) 87 108) 88 97) 89 116) 90 101) 91 115) 92 116) 93 32) 94 115) 95 101) 96 97) 97 32) 98 119) 99 97) 100 108) 101 107) 102 105) 103 110) 104 103) 105 32) 106 114) 107 101) 108 99) 109 107) 110 111) 111 110) 112 32) 113 112) 114 97) 115 115) 116 115) 117 32) 118 108) 119 101) 120 110) 121 100) 122 32) 123 116) 124 111) 125 32) 126 103) 127 114) 128 111) 129 119) 130 32) 131 98) 132 121) 133 32) 134 116) 135 105) 136 109) 137 101) 138 115) 139 32))) := by
  refine Or.inl ⟨rfl, rfl, rfl, fun q hq i h1 h2 _ => ?_⟩
  cases List.mem_singleton.mp hq
  dsimp only at h1 h2
  obtain rfl : i = 139 := by omega
  exact ⟨by decide, by decide⟩
end Iw
def lw_g : List Nat := [1, 2, 11, 11, 11, 11, 15, 12, 12, 13, 14, 14, 16, 17, 18, 54, 11, 11, 11, 11, 15, 12, 12, 13, 14, 14, 16, 3, 19, 4, 5, 20, 14, 6, 5, 20, 4, 5, 20, 14, 21, 7, 4, 5, 20, 14, 54, 11, 11, 11, 11, 15, 12, 12, 13, 14, 14, 16, 11, 11, 11, 22, 23, 11, 11, 8, 24, 9, 25, 26, 29, 54, 11, 11, 11, 11, 15, 12, 12, 13, 14, 14, 16, 54, 11, 11, 11, 11, 15, 12, 12, 13, 14, 14, 16, 30, 31, 32, 33, 34, 35, 36, 37, 38, 39, 40, 41, 42, 43, 44, 45, 46, 47, 48, 49, 50, 51, 52, 53]
def lw_G (k : Nat) : Nat := (lw_g[k]?).getD 0
def lw_w0 : ab_W := [
  .inr (8, [.int 0, .ref 1, .ref 13, .ref 14, .ref 15, .int 0, .ref 27, .ref 29, .ref 33, .ref 41, .ref 65, .ref 70, .int 0, .int (-1), .int (-1), .int 0]),
  .inr (1, [.ref 2, .ref 3, .ref 4, .ref 5, .ref 6, .ref 7, .ref 8, .ref 9, .ref 10, .ref 11, .ref 12, .int 0, .int 0, .int 0, .int 0, .int 0, .int (-1), .int 0]),
  .inl (0, 10, .inl (fun _ => 0)),
  .inl (0, 10, .inl (fun _ => 0)),
  .inl (0, 10, .inl (fun _ => 0)),
  .inl (0, 10, .inl (fun _ => 0)),
  .inl (0, 16, .inl (fun _ => 0)),
  .inl (0, 16, .inl (fun _ => 0)),
  .inl (0, 16, .inl (fun _ => 0)),
  .inl (0, 4, .inl (upd (upd (upd (upd (fun _ => 0) 0 0) 1 10) 2 2) 3 0)),
  .inl (0, 8, .inl (fun _ => 0)),
  .inl (0, 8, .inl (fun _ => 0)),
  .inl (5, 6, .inr (.inr (.inr (.inr (fun _ => none))))),
  .inl (4, 2, .inr (.inr (.inr (.inr (ab_two 71 83))))),
  .inl (3, 2, .inl (fun _ => 0)),
  .inr (1, [.ref 16, .ref 17, .ref 18, .ref 19, .ref 20, .ref 21, .ref 22, .ref 23, .ref 24, .ref 25, .ref 26, .int 0, .int 0, .int 0, .int 0, .int 0, .int (-1), .int 0]),
  .inl (0, 10, .inl (fun _ => 0)),
  .inl (0, 10, .inl (fun _ => 0)),
  .inl (0, 10, .inl (fun _ => 0)),
  .inl (0, 10, .inl (fun _ => 0)),
  .inl (0, 16, .inl (fun _ => 0)),
  .inl (0, 16, .inl (fun _ => 0)),
  .inl (0, 16, .inl (fun _ => 0)),
  .inl (0, 4, .inl (upd (upd (upd (upd (fun _ => 0) 0 0) 1 10) 2 2) 3 0)),
  .inl (0, 8, .inl (fun _ => 0)),
  .inl (0, 8, .inl (fun _ => 0)),
  .inl (5, 6, .inr (.inr (.inr (.inr (fun _ => none))))),
  .inr (4, [.ref 28, .int 0, .int 0]),
  .inl (0, 1224, .inl (fun _ => 0)),
  .inr (0, [.ref 30, .ref 32, .int 0, .int 0, .int 0, .int 0, .int 0]),
  .inr (2, [.ref 31, .int 0]),
  .inl (0, 64, .inl (fun _ => 0)),
  .inl (0, 8, .inl (fun _ => 0)),
  .inr (6, [.ref 34, .ref 36, .ref 40, .int 0, .int 0, .int 0, .int 0]),
  .inr (2, [.ref 35, .int 0]),
  .inl (0, 64, .inl (fun _ => 0)),
  .inr (0, [.ref 37, .ref 39, .int 0, .int 0, .int 0, .int 0, .int 0]),
  .inr (2, [.ref 38, .int 0]),
  .inl (0, 64, .inl (fun _ => 0)),
  .inl (0, 8, .inl (fun _ => 0)),
  .inl (0, 25, .inl (fun _ => 0)),
  .inr (3, [.ref 42, .ref 46, .ref 58, .ref 59, .ref 60, .ref 61, .ref 62, .ref 63, .ref 64, .int 0, .int 0, .int 0, .int 0, .int 0, .int 0, .int 0, .int 0, .int 0, .int 0, .int 0]),
  .inr (0, [.ref 43, .ref 45, .int 0, .int 0, .int 0, .int 0, .int 0]),
  .inr (2, [.ref 44, .int 0]),
  .inl (0, 64, .inl (fun _ => 0)),
  .inl (0, 8, .inl (fun _ => 0)),
  .inr (1, [.ref 47, .ref 48, .ref 49, .ref 50, .ref 51, .ref 52, .ref 53, .ref 54, .ref 55, .ref 56, .ref 57, .int 0, .int 0, .int 0, .int 0, .int 0, .int (-1), .int 0]),
  .inl (0, 10, .inl (fun _ => 0)),
  .inl (0, 10, .inl (fun _ => 0)),
  .inl (0, 10, .inl (fun _ => 0)),
  .inl (0, 10, .inl (fun _ => 0)),
  .inl (0, 16, .inl (fun _ => 0)),
  .inl (0, 16, .inl (fun _ => 0)),
  .inl (0, 16, .inl (fun _ => 0)),
  .inl (0, 4, .inl (upd (upd (upd (upd (fun _ => 0) 0 0) 1 10) 2 2) 3 0)),
  .inl (0, 8, .inl (fun _ => 0)),
  .inl (0, 8, .inl (fun _ => 0)),
  .inl (5, 6, .inr (.inr (.inr (.inr (fun _ => none))))),
  .inl (0, 10, .inl (fun _ => 0)),
  .inl (0, 10, .inl (fun _ => 0)),
  .inl (0, 10, .inl (fun _ => 0)),
  .inl (0, 100, .inl (fun _ => 0)),
  .inl (2, 99, .inr (.inl (fun _ => 0))),
  .inl (0, 10, .inl (fun _ => 0)),
  .inl (0, 10, .inl (fun _ => 0)),
  .inr (5, [.ref 66, .ref 67, .int 0, .int 0, .int 0, .int 0, .int 0, .int 0, .int 0]),
  .inl (0, 400, .inl (fun _ => 0)),
  .inr (7, [.ref 68, .ref 69, .int 0, .int 0, .int 0]),
  .inl (0, 436, .inl (fun _ => 0)),
  .inl (0, 60, .inl (fun _ => 0)),
  .inl (0, 5, .inl (fun _ => 0)),
  .inr (1, [.ref 72, .ref 73, .ref 74, .ref 75, .ref 76, .ref 77, .ref 78, .ref 79, .ref 80, .ref 81, .ref 82, .int 0, .int 0, .int 0, .int 0, .int 0, .int (-1), .int 0]),
  .inl (0, 10, .inl (fun _ => 0)),
  .inl (0, 10, .inl (fun _ => 0)),
  .inl (0, 10, .inl (fun _ => 0)),
  .inl (0, 10, .inl (fun _ => 0)),
  .inl (0, 16, .inl (fun _ => 0)),
  .inl (0, 16, .inl (fun _ => 0)),
  .inl (0, 16, .inl (fun _ => 0)),
  .inl (0, 4, .inl (upd (upd (upd (upd (fun _ => 0) 0 0) 1 10) 2 2) 3 0)),
  .inl (0, 8, .inl (fun _ => 0)),
  .inl (0, 8, .inl (fun _ => 0)),
  .inl (5, 6, .inr (.inr (.inr (.inr (fun _ => none))))),
  .inr (1, [.ref 84, .ref 85, .ref 86, .ref 87, .ref 88, .ref 89, .ref 90, .ref 91, .ref 92, .ref 93, .ref 94, .int 0, .int 0, .int 0, .int 0, .int 0, .int (-1), .int 0]),
  .inl (0, 10, .inl (fun _ => 0)),
  .inl (0, 10, .inl (fun _ => 0)),
  .inl (0, 10, .inl (fun _ => 0)),
  .inl (0, 10, .inl (fun _ => 0)),
  .inl (0, 16, .inl (fun _ => 0)),
  .inl (0, 16, .inl (fun _ => 0)),
  .inl (0, 16, .inl (fun _ => 0)),
  .inl (0, 4, .inl (upd (upd (upd (upd (fun _ => 0) 0 0) 1 10) 2 2) 3 0)),
  .inl (0, 8, .inl (fun _ => 0)),
  .inl (0, 8, .inl (fun _ => 0)),
  .inl (5, 6, .inr (.inr (.inr (.inr (fun _ => none))))),
  .inr (9, [.int 0, .ref 96, .ref 97, .ref 98, .ref 99, .ref 100, .int 0, .ref 101, .int 0, .int 0, .int 0, .ref 102, .ref 103, .int 0, .int (-1), .ref 104, .ref 105, .ref 106, .int 0, .int 0, .int 0, .int 0, .int 0, .int 0, .int 0, .int 0, .ref 107, .int 0, .int 0, .ref 108, .int 0, .int 0, .ref 109, .ref 110, .int 0, .ref 111, .ref 112, .ref 113, .ref 114, .ref 115, .ref 116, .int (-1), .int 0, .int 0, .int 0, .int 0, .int 0, .ref 117, .ref 118, .int (-1), .int 0, .int 0]),
  .inl (0, 7, .inl (fun _ => 0)),
  .inl (0, 5721, .inl (upd (upd (upd (fun _ => 0) 107 10) 108 2) 113 (-1))),
  .inl (0, 11442, .inl (fun _ => 0)),
  .inl (3, 2, .inl (fun _ => 0)),
  .inl (0, 142, .inl (fun _ => 0)),
  .inl (1, 140, .inl (upd (upd (upd (upd (upd (upd (upd (upd (upd (upd (upd (upd (upd (upd (upd (upd (upd (upd (upd (upd (upd (upd (upd (upd (upd (upd (upd (upd (upd (upd (upd (upd (upd (upd (upd (upd (upd (upd (upd (upd (upd (upd (upd (upd (upd (upd (upd (upd (upd (upd (upd (upd (upd (upd (upd (upd (upd (upd (upd (upd (upd (upd (upd (upd (upd (upd (upd (upd (upd (upd (upd (upd (upd (upd (upd (upd (upd (upd (upd (upd (upd (upd (upd (upd (upd (upd (upd (upd (upd (upd (upd (upd (upd (upd (upd (upd (upd (upd (upd (upd (upd (upd (upd (upd (upd (upd (upd (upd (upd (upd (upd (upd (upd (upd (upd (upd (upd (upd (upd (upd (upd (upd (upd (upd (upd (upd (upd (upd (upd (upd (upd (upd (upd (upd (upd (upd (upd (upd (upd (upd (fun _ => 0) 0 116) 1 101) 2 110) 3 115) 4 32) 5 115) 6 116) 7 97) 8 121) 9 115) 10 32) 11 115) 12 116) 13 101) 14 112) 15 115) 16 32) 17 98) 18 97) 19 114) 20 115) 21 32) 22 105) 23 102) 24 32) 25 111) 26 114) 27 32) 28 97) 29 110) 30 100) 31 32) 32 110) 33 111) 34 116) 35 32) 36 112) 37 97) 38 114) 39 105) 40 115) 41 104) 42 32) 43 98) 44 101) 45 108) 46 111) 47 119) 48 32) 49 100) 50 101) 51 112) 52 116) 53 104) 54 32) 55 119) 56 97) 57 108) 58 107) 59 101) 60 100) 61 32) 62 109) 63 111) 64 111) 65 100) 66 32) 67 99) 68 111) 69 117) 70 110) 71 116) 72 32) 73 111) 74 118) 75 101) 76 114) 77 32) 78 100) 79 97) 80 121) 81 32) 82 100) 83 111) 84 110) 85 101) 86 32) 87 108) 88 97) 89 116) 90 101) 91 115) 92 116) 93 32) 94 115) 95 101) 96 97) 97 32) 98 119) 99 97) 100 108) 101 107) 102 105) 103 110) 104 103) 105 32) 106 114) 107 101) 108 99) 109 107) 110 111) 111 110) 112 32) 113 112) 114 97) 115 115) 116 115) 117 32) 118 108) 119 101) 120 110) 121 100) 122 32) 123 116) 124 111) 125 32) 126 103) 127 114) 128 111) 129 119) 130 32) 131 98) 132 121) 133 32) 134 116) 135 105) 136 109) 137 101) 138 115) 139 32)),
  .inl (1, 400, .inl (fun _ => 0)),
  .inl (0, 5, .inl (fun _ => 0)),
  .inl (0, 401, .inl (fun _ => 0)),
  .inl (0, 401, .inl (fun _ => 0)),
  .inl (0, 401, .inl (fun _ => 0)),
  .inl (0, 8, .inl (fun _ => 0)),
  .inl (0, 10, .inl (fun _ => 0)),
  .inl (0, 1152, .inl (fun _ => 0)),
  .inl (0, 1152, .inl (fun _ => 0)),
  .inl (0, 10, .inl (fun _ => 0)),
  .inl (0, 10, .inl (fun _ => 0)),
  .inl (0, 10, .inl (fun _ => 0)),
  .inl (2, 198, .inr (.inl (fun _ => 0))),
  .inl (1, 990, .inl (fun _ => 0)),
  .inl (0, 10, .inl (fun _ => 0)),
  .inl (2, 2, .inr (.inl (fun _ => 0))),
  .inl (0, 71, .inl (fun _ => 0))]
theorem iw_two : ty_c lw_G (3, 4, 2, [(1, 0, 0, 0, 54, 0)]) (.inl (4, 2, .inr (.inr (.inr (.inr (ab_two 71 83)))))) := by
  refine ⟨rfl, rfl, rfl, fun i k h => ?_, fun q hq _ i hi => ?_⟩
  · unfold ab_two at h
    have e : k = 71 ∨ k = 83 := by
      split at h
      · cases h; exact Or.inl rfl
      · split at h
        · cases h; exact Or.inr rfl
        · cases h
    refine ⟨by rcases e with rfl | rfl <;> decide, fun q hq => ?_⟩
    cases List.mem_singleton.mp hq
    rcases e with rfl | rfl <;> rfl
  · match i, hi with
    | 0, _ => exact fun z => by cases z
    | 1, _ => exact fun z => by cases z
    | i + 2, hi => exact absurd hi (by omega)
def iw_all (G : Nat → Nat) : Nat → ab_W → Prop
  | _, [] => True
  | k, c :: w => ty_c G (sp_ (G k)) c ∧ iw_all G (k + 1) w
theorem iw_all_ok {G : Nat → Nat} : ∀ {w : ab_W} {b k : Nat} {c : va_E}, iw_all G b w → w[k]? = some c → ty_c G (sp_ (G (b + k))) c
  | [], _, _, _, _, h => by cases h
  | d :: w, b, 0, c, h, hk => by cases hk; exact h.1
  | d :: w, b, k + 1, c, h, hk => by
    have := iw_all_ok (b := b + 1) (k := k) h.2 hk
    rw [show b + 1 + k = b + (k + 1) by omega] at this
    exact this
set_option maxRecDepth 100000 in
set_option maxHeartbeats 4000000 in
theorem iw_w0 : iw_all lw_G 0 lw_w0 :=
  ⟨(iw_obj (by decide +kernel)),
    (iw_obj (by decide +kernel)),
    (iw_row0 (by decide)),
    (iw_row0 (by decide)),
    (iw_row0 (by decide)),
    (iw_row0 (by decide)),
    (iw_row0 (by decide)),
    (iw_row0 (by decide)),
    (iw_row0 (by decide)),
    (Or.inl ⟨rfl, rfl, rfl, fun q hq => nomatch hq⟩),
    (iw_row0 (by decide)),
    (iw_row0 (by decide)),
    iw_none,
    iw_two,
    (iw_row0 (by decide)),
    (iw_obj (by decide +kernel)),
    (iw_row0 (by decide)),
    (iw_row0 (by decide)),
    (iw_row0 (by decide)),
    (iw_row0 (by decide)),
    (iw_row0 (by decide)),
    (iw_row0 (by decide)),
    (iw_row0 (by decide)),
    (Or.inl ⟨rfl, rfl, rfl, fun q hq => nomatch hq⟩),
    (iw_row0 (by decide)),
    (iw_row0 (by decide)),
    iw_none,
    (iw_obj (by decide +kernel)),
    (iw_row0 (by decide)),
    (iw_obj (by decide +kernel)),
    (iw_obj (by decide +kernel)),
    (iw_row0 (by decide)),
    (iw_row0 (by decide)),
    (iw_obj (by decide +kernel)),
    (iw_obj (by decide +kernel)),
    (iw_row0 (by decide)),
    (iw_obj (by decide +kernel)),
    (iw_obj (by decide +kernel)),
    (iw_row0 (by decide)),
    (iw_row0 (by decide)),
    (iw_row0 (by decide)),
    (iw_obj (by decide +kernel)),
    (iw_obj (by decide +kernel)),
    (iw_obj (by decide +kernel)),
    (iw_row0 (by decide)),
    (iw_row0 (by decide)),
    (iw_obj (by decide +kernel)),
    (iw_row0 (by decide)),
    (iw_row0 (by decide)),
    (iw_row0 (by decide)),
    (iw_row0 (by decide)),
    (iw_row0 (by decide)),
    (iw_row0 (by decide)),
    (iw_row0 (by decide)),
    (Or.inl ⟨rfl, rfl, rfl, fun q hq => nomatch hq⟩),
    (iw_row0 (by decide)),
    (iw_row0 (by decide)),
    iw_none,
    (iw_row0 (by decide)),
    (iw_row0 (by decide)),
    (iw_row0 (by decide)),
    (iw_row0 (by decide)),
    ⟨rfl, rfl, rfl⟩,
    (iw_row0 (by decide)),
    (iw_row0 (by decide)),
    (iw_obj (by decide +kernel)),
    (iw_row0 (by decide)),
    (iw_obj (by decide +kernel)),
    (iw_row0 (by decide)),
    (iw_row0 (by decide)),
    (iw_row0 (by decide)),
    (iw_obj (by decide +kernel)),
    (iw_row0 (by decide)),
    (iw_row0 (by decide)),
    (iw_row0 (by decide)),
    (iw_row0 (by decide)),
    (iw_row0 (by decide)),
    (iw_row0 (by decide)),
    (iw_row0 (by decide)),
    (Or.inl ⟨rfl, rfl, rfl, fun q hq => nomatch hq⟩),
    (iw_row0 (by decide)),
    (iw_row0 (by decide)),
    iw_none,
    (iw_obj (by decide +kernel)),
    (iw_row0 (by decide)),
    (iw_row0 (by decide)),
    (iw_row0 (by decide)),
    (iw_row0 (by decide)),
    (iw_row0 (by decide)),
    (iw_row0 (by decide)),
    (iw_row0 (by decide)),
    (Or.inl ⟨rfl, rfl, rfl, fun q hq => nomatch hq⟩),
    (iw_row0 (by decide)),
    (iw_row0 (by decide)),
    iw_none,
    (iw_obj (by decide +kernel)),
    (iw_row0 (by decide)),
    iw_kept,
    (iw_row0 (by decide)),
    (iw_row0 (by decide)),
    (iw_row0 (by decide)),
    iw_words,
    (iw_row0 (by decide)),
    (iw_row0 (by decide)),
    (iw_row0 (by decide)),
    (iw_row0 (by decide)),
    (iw_row0 (by decide)),
    (iw_row0 (by decide)),
    (iw_row0 (by decide)),
    (iw_row0 (by decide)),
    (iw_row0 (by decide)),
    (iw_row0 (by decide)),
    (iw_row0 (by decide)),
    (iw_row0 (by decide)),
    ⟨rfl, rfl, rfl⟩,
    (iw_row0 (by decide)),
    (iw_row0 (by decide)),
    ⟨rfl, rfl, rfl⟩,
    (iw_row0 (by decide)), trivial⟩
theorem lw_Glt {k : Nat} (h : lw_G k ≠ 0) : k < 119 := by
  apply Decidable.byContradiction
  intro z
  apply h
  unfold lw_G
  rw [List.getElem?_eq_none (show lw_g.length ≤ k from Nat.not_lt.mp z)]
  rfl
theorem lw_ty : ty_w sp_ lw_G lw_w0 := ⟨fun k c hc => by have := iw_all_ok iw_w0 hc; rw [Nat.zero_add] at this; exact this, fun k hk => lw_Glt hk, by decide⟩
theorem lw_u {s p : Nat} (h0 : s ≠ 0) (h : ∀ k < 119, lw_G k = s → k = p) {k : Nat} (hk : lw_G k = s) : k = p := h k (lw_Glt (by rw [hk]; exact h0)) hk
theorem mv_b0 (i : Nat) : mv_b i 0 := ⟨fun _ => ⟨by omega, by omega⟩, fun _ _ _ => ⟨by omega, by omega⟩, fun _ _ _ => ⟨by omega, by omega⟩, fun _ => ⟨by omega, by omega⟩⟩
theorem lw_KP : KP iw_kf := by
  have e0 : (iw_kf 110).toInt = 0 := iw_kf_at 110
  have e1 : (iw_kf 112).toInt = 0 := iw_kf_at 112
  have e2 : (iw_kf 113).toInt = -1 := iw_kf_at 113
  refine ⟨fun i hi => ?_, fun z => by omega, by omega, fun t ht => by omega⟩
  rw [iw_kf_at]
  split
  · next z => subst z; exact ⟨⟨fun z => by omega, fun _ z _ => by omega, fun _ z _ => by omega, fun z => by omega⟩, fun _ z => by omega, fun _ z _ => by omega, fun z => by omega, fun z => by omega, fun z => by omega, fun z => by omega, fun z => by omega, fun _ z => by omega⟩
  · split
    · next z => subst z; exact ⟨⟨fun z => by omega, fun _ z _ => by omega, fun _ z _ => by omega, fun z => by omega⟩, fun _ z => by omega, fun _ z _ => by omega, fun z => by omega, fun z => by omega, fun z => by omega, fun z => by omega, fun z => by omega, fun _ z => by omega⟩
    · split
      · next z => subst z; exact ⟨⟨fun z => by omega, fun _ z _ => by omega, fun _ z _ => by omega, fun z => by omega⟩, fun _ z => by omega, fun _ z _ => by omega, fun z => by omega, fun z => by omega, fun z => by omega, fun z => by omega, fun z => by omega, fun _ z => by omega⟩
      · next h1 h2 h3 =>
        refine ⟨mv_b0 i, fun _ _ => ⟨by omega, by omega, fun _ => by omega⟩, fun _ _ _ => ⟨by omega, by omega⟩, fun z => absurd z h3, fun _ => ⟨by omega, by omega⟩, fun _ => ⟨by omega, by omega⟩, fun _ => ⟨by omega, by omega⟩, fun z => absurd z h1, fun _ _ => ⟨by omega, by omega⟩⟩
theorem lw_row {s m p : Nat} {f0 : Nat → Int32} {P : (Nat → Int32) → Prop} (h0 : s ≠ 0) (h : ∀ k < 119, lw_G k = s → k = p) (g : lw_w0[p]? = some (.inl (0, m, .inl f0))) (hP : P f0) : FRow lw_G s m P lw_w0 := by
  intro k f hk hc
  obtain rfl := lw_u h0 h hk
  rw [g] at hc
  cases hc
  exact hP
theorem lw_FT : FT lw_G lw_w0 := by
  intro k ci fs x y hk hc h5 h3 hx
  obtain rfl := lw_u (p := 65) (by decide) (by decide +kernel) hk
  have g : lw_w0[65]? = some (.inr (5, [.ref 66, .ref 67, .int 0, .int 0, .int 0, .int 0, .int 0, .int 0, .int 0])) := rfl
  rw [g] at hc
  cases hc
  cases h5
  exact absurd hx (by decide)
theorem lw_FP : FP lw_G lw_w0 := by
  intro k f hk hc
  obtain rfl := lw_u (p := 28) (by decide) (by decide +kernel) hk
  have g : lw_w0[28]? = some (.inl (0, 1224, .inl (fun _ => 0))) := rfl
  rw [g] at hc
  cases hc
  exact fun s _ => ⟨fun i _ _ => ⟨(by decide : (0 : Int) ≤ (0 : Int32).toInt), (by decide : (0 : Int32).toInt ≤ 9)⟩, (by decide : (0 : Int) ≤ (0 : Int32).toInt), (by decide : (0 : Int32).toInt ≤ 16)⟩
theorem lw_FM : FM lw_G lw_w0 := by
  refine ⟨lw_row (p := 97) (by decide) (by decide +kernel) rfl lw_KP, lw_row (p := 100) (f0 := fun _ => 0) (by decide) (by decide +kernel) rfl ⟨fun i _ => mv_b0 i, fun i _ => mv_b0 i⟩, lw_row (p := 109) (f0 := fun _ => 0) (by decide) (by decide +kernel) rfl (fun j _ i _ => mv_b0 i), lw_row (p := 110) (f0 := fun _ => 0) (by decide) (by decide +kernel) rfl (fun j _ i _ => mv_b0 i), ?_⟩
  intro p q f h hp hcp hq hcq k hk hne
  obtain rfl := lw_u (p := 99) (by decide) (by decide +kernel) hq
  have g : lw_w0[99]? = some (.inl (3, 2, .inl (fun _ => 0))) := rfl
  rw [g] at hcq
  cases hcq
  exact absurd (by decide : (0 : Int32).toInt = 0) hne
theorem lw_FA : FA lw_G lw_w0 := ⟨lw_FT, lw_FP, lw_FM⟩
/-- what the law keeps -/
def GE (G : Nat → Nat) : Prop := G 0 = 1 ∧ G 95 = 30 ∧ (∀ p p', G p = 32 → G p' = 32 → p = p') ∧ ∀ p p', G p = 33 → G p' = 33 → p = p'
def LI (G : Nat → Nat) (w : ab_W) : Prop := ty_w sp_ G w ∧ FA G w ∧ ∃ b c : Int32, hx_has w 0 8 0 (.int b) ∧ hx_has w 95 9 13 (.int c) ∧ b.toInt = c.toInt
theorem lw_GE : GE lw_G := ⟨rfl, rfl, fun p p' h h' => (lw_u (p := 97) (by decide) (by decide +kernel) h).trans (lw_u (p := 97) (by decide) (by decide +kernel) h').symm, fun p p' h h' => (lw_u (p := 98) (by decide) (by decide +kernel) h).trans (lw_u (p := 98) (by decide) (by decide +kernel) h').symm⟩
theorem lw_LI : LI lw_G lw_w0 := ⟨lw_ty, lw_FA, 0, 0, ⟨_, rfl, rfl⟩, ⟨_, rfl, rfl⟩, rfl⟩
