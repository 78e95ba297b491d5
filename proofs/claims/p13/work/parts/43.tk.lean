/-! tokens of a tape: where they begin and end, their codes, their numbers -/
def tk_kd (b : Int) : Int := if 97 ≤ b ∧ b ≤ 122 then 1 else if 48 ≤ b ∧ b ≤ 57 then 2 else 3
def tk_skip (A : Int → Int) (N : Int) : Nat → Int → Int
  | 0, a => a
  | n + 1, a => if a < N ∧ A a = 32 then tk_skip A N n (a + 1) else a
def tk_ext (A : Int → Int) (N t : Int) : Nat → Int → Int
  | 0, a => a
  | n + 1, a => if a < N ∧ t ≠ 3 ∧ tk_kd (A a) = t then tk_ext A N t n (a + 1) else a
/-- where the token that begins at s ends -/
def tk_end (A : Int → Int) (N s : Int) : Int := if s < N then tk_ext A N (tk_kd (A s)) 401 (s + 1) else s
def tk_kind (A : Int → Int) (N s : Int) : Int := if s < N then tk_kd (A s) else 0
def tk_P (A : Int → Int) (N : Int) : Nat → Int
  | 0 => tk_skip A N 401 0
  | i + 1 => tk_skip A N 401 (tk_end A N (tk_P A N i))
theorem tk_skip_b {A : Int → Int} {N : Int} : ∀ (n : Nat) (a : Int), a ≤ N → a ≤ tk_skip A N n a ∧ tk_skip A N n a ≤ N
  | 0, a, h => ⟨Int.le_refl _, h⟩
  | n + 1, a, h => by
    unfold tk_skip
    split
    · have := tk_skip_b (A := A) (N := N) n (a + 1) (by omega)
      omega
    · exact ⟨Int.le_refl _, h⟩
theorem tk_skip_at {A : Int → Int} {N : Int} : ∀ (n : Nat) (a : Int), N - a < n → ¬ (tk_skip A N n a < N ∧ A (tk_skip A N n a) = 32)
  | 0, a, h => by
    intro q
    have q1 : a < N := q.1
    omega
  | n + 1, a, h => by
    unfold tk_skip
    split
    · exact tk_skip_at n (a + 1) (by omega)
    · rename_i q; exact q
theorem tk_skip_more {A : Int → Int} {N : Int} : ∀ (n m : Nat) (a : Int), N - a < n → N - a < m → tk_skip A N n a = tk_skip A N m a
  | 0, 0, a, _, _ => rfl
  | 0, m + 1, a, h1, h2 => by
    show a = tk_skip A N (m + 1) a
    unfold tk_skip
    rw [if_neg (by omega)]
  | n + 1, 0, a, h1, h2 => by
    show tk_skip A N (n + 1) a = a
    unfold tk_skip
    rw [if_neg (by omega)]
  | n + 1, m + 1, a, h1, h2 => by
    unfold tk_skip
    split
    · exact tk_skip_more n m (a + 1) (by omega) (by omega)
    · rfl
theorem tk_ext_b {A : Int → Int} {N t : Int} : ∀ (n : Nat) (a : Int), a ≤ N → a ≤ tk_ext A N t n a ∧ tk_ext A N t n a ≤ N
  | 0, a, h => ⟨Int.le_refl _, h⟩
  | n + 1, a, h => by
    unfold tk_ext
    split
    · have := tk_ext_b (A := A) (N := N) (t := t) n (a + 1) (by omega)
      omega
    · exact ⟨Int.le_refl _, h⟩
theorem tk_ext_more {A : Int → Int} {N t : Int} : ∀ (n m : Nat) (a : Int), N - a < n → N - a < m → tk_ext A N t n a = tk_ext A N t m a
  | 0, 0, a, _, _ => rfl
  | 0, m + 1, a, h1, h2 => by
    show a = tk_ext A N t (m + 1) a
    unfold tk_ext
    rw [if_neg (by omega)]
  | n + 1, 0, a, h1, h2 => by
    show tk_ext A N t (n + 1) a = a
    unfold tk_ext
    rw [if_neg (by omega)]
  | n + 1, m + 1, a, h1, h2 => by
    unfold tk_ext
    split
    · exact tk_ext_more n m (a + 1) (by omega) (by omega)
    · rfl
theorem tk_end_b {A : Int → Int} {N s : Int} (h : s ≤ N) : s ≤ tk_end A N s ∧ tk_end A N s ≤ N ∧ (s < N → s < tk_end A N s) := by
  unfold tk_end
  split
  · have := tk_ext_b (A := A) (N := N) (t := tk_kd (A s)) 401 (s + 1) (by omega)
    omega
  · omega
theorem tk_P_b {A : Int → Int} {N : Int} (hN : 0 ≤ N) : ∀ i, 0 ≤ tk_P A N i ∧ tk_P A N i ≤ N
  | 0 => tk_skip_b 401 0 hN
  | i + 1 => by
    have h := tk_P_b (A := A) hN i
    have h2 := tk_end_b (A := A) h.2
    have h3 := tk_skip_b (A := A) (N := N) 401 (tk_end A N (tk_P A N i)) h2.2.1
    show 0 ≤ tk_skip A N 401 _ ∧ tk_skip A N 401 _ ≤ N
    omega
theorem tk_P_up {A : Int → Int} {N : Int} (hN : 0 ≤ N) (i : Nat) : tk_P A N i ≤ tk_P A N (i + 1) ∧ (tk_P A N i < N → tk_P A N i < tk_P A N (i + 1)) := by
  have h := tk_P_b (A := A) hN i
  have h2 := tk_end_b (A := A) h.2
  have h3 := tk_skip_b (A := A) (N := N) 401 (tk_end A N (tk_P A N i)) h2.2.1
  show _ ≤ tk_skip A N 401 _ ∧ (_ → _ < tk_skip A N 401 _)
  omega
theorem tk_P_far {A : Int → Int} {N : Int} (hN : 0 ≤ N) : ∀ i : Nat, (i : Int) ≤ tk_P A N i ∨ tk_P A N i = N
  | 0 => by
    have := tk_P_b (A := A) hN 0
    left
    show (0 : Int) ≤ _
    omega
  | i + 1 => by
    have h := tk_P_b (A := A) hN i
    have h1 := tk_P_b (A := A) hN (i + 1)
    have h2 := tk_P_up (A := A) hN i
    rcases tk_P_far (A := A) hN i with q | q
    · by_cases e : tk_P A N i < N
      · left
        have := h2.2 e
        omega
      · right
        omega
    · right
      omega
/-- the letters from s on, so many -/
def tk_seg (A : Int → Int) (s : Int) : Nat → List Int
  | 0 => []
  | n + 1 => A s :: tk_seg A (s + 1) n
theorem tk_seg_len (A : Int → Int) : ∀ (n : Nat) (s : Int), (tk_seg A s n).length = n
  | 0, _ => rfl
  | n + 1, s => by show (tk_seg A (s + 1) n).length + 1 = n + 1; rw [tk_seg_len A n (s + 1)]
theorem tk_seg_at (A : Int → Int) : ∀ (n : Nat) (s : Int) (i : Nat), i < n → (tk_seg A s n)[i]? = some (A (s + i))
  | 0, s, i, h => absurd h (Nat.not_lt_zero i)
  | n + 1, s, 0, _ => by show some (A s) = some (A (s + 0)); rw [Int.add_zero]
  | n + 1, s, i + 1, h => by
    show (tk_seg A (s + 1) n)[i]? = _
    rw [tk_seg_at A n (s + 1) i (by omega), show s + 1 + (i : Int) = s + ((i + 1 : Nat) : Int) by omega]
theorem tk_seg_eq {A : Int → Int} {s : Int} {n : Nat} {l : List Int} (hl : l.length = n) (h : ∀ i : Nat, i < n → l[i]? = some (A (s + i))) : tk_seg A s n = l := by
  apply List.ext_getElem?
  intro i
  by_cases hi : i < n
  · rw [tk_seg_at A n s i hi, h i hi]
  · rw [List.getElem?_eq_none (by rw [tk_seg_len]; omega), List.getElem?_eq_none (by omega)]
/-- the words, 1 on -/
def tk_words : List (List Int) := [[116, 101, 110, 115], [115, 116, 97, 121, 115], [115, 116, 101, 112, 115], [98, 97, 114, 115], [105, 102], [111, 114], [97, 110, 100], [110, 111, 116], [112, 97, 114, 105, 115, 104], [98, 101, 108, 111, 119], [100, 101, 112, 116, 104], [119, 97, 108, 107, 101, 100], [109, 111, 111, 100], [99, 111, 117, 110, 116], [111, 118, 101, 114], [100, 97, 121], [100, 111, 110, 101], [108, 97, 116, 101, 115, 116], [115, 101, 97], [119, 97, 108, 107, 105, 110, 103], [114, 101, 99, 107, 111, 110], [112, 97, 115, 115], [108, 101, 110, 100], [116, 111], [103, 114, 111, 119], [98, 121], [116, 105, 109, 101, 115]]
def tk_find (l : List Int) : List (List Int) → Int → Int
  | [], _ => 0
  | w :: r, k => if l = w then k else tk_find l r (k + 1)
def tk_code (A : Int → Int) (N s : Int) : Int := if s < N then (if tk_kd (A s) = 1 then tk_find (tk_seg A s (tk_end A N s - s).toNat) tk_words 1 else if tk_kd (A s) = 2 then 50 else 100 + A s) else 0
theorem tk_find_b (l : List Int) : ∀ (W : List (List Int)) (k : Int), 1 ≤ k → tk_find l W k = 0 ∨ (k ≤ tk_find l W k ∧ tk_find l W k < k + W.length)
  | [], _, _ => Or.inl rfl
  | w :: r, k, hk => by
    unfold tk_find
    split
    · right
      have : (w :: r).length = r.length + 1 := rfl
      omega
    · have h := tk_find_b l r (k + 1) (by omega)
      have : (w :: r).length = r.length + 1 := rfl
      omega
theorem tk_find_at (l : List Int) : ∀ (W : List (List Int)) (k : Int), 1 ≤ k → W.Nodup → ∀ (i : Nat) (w : List Int), W[i]? = some w → (tk_find l W k = k + i ↔ l = w)
  | [], _, _, _, i, w, h => by cases h
  | w0 :: r, k, hk, hn, 0, w, h => by
    cases h
    unfold tk_find
    by_cases e : l = w0
    · rw [if_pos e]; exact ⟨fun _ => e, fun _ => by omega⟩
    · rw [if_neg e]
      have hb := tk_find_b l r (k + 1) (by omega)
      exact ⟨fun q => by omega, fun q => absurd q e⟩
  | w0 :: r, k, hk, hn, i + 1, w, h => by
    have h' : r[i]? = some w := h
    have hn2 := List.nodup_cons.mp hn
    have ih := tk_find_at l r (k + 1) (by omega) hn2.2 i w h'
    unfold tk_find
    by_cases e : l = w0
    · rw [if_pos e]
      refine ⟨fun q => by omega, fun q => ?_⟩
      exact absurd (List.mem_of_getElem? h') (by rw [← q, e]; exact hn2.1)
    · rw [if_neg e]
      rw [show k + ((i + 1 : Nat) : Int) = k + 1 + i by omega]
      exact ih
theorem tk_words_nd : tk_words.Nodup := by decide
theorem tk_words_len : tk_words.length = 27 := rfl
def tk_ok (A : Int → Int) : Prop := ∀ i, 0 ≤ A i ∧ A i ≤ 255
theorem tk_kd_b (b : Int) : tk_kd b = 1 ∨ tk_kd b = 2 ∨ tk_kd b = 3 := by
  unfold tk_kd
  split
  · exact Or.inl rfl
  split
  · exact Or.inr (Or.inl rfl)
  · exact Or.inr (Or.inr rfl)
theorem tk_code_sign {A : Int → Int} (hA : tk_ok A) {N s b : Int} : tk_code A N s = 100 + b ∧ 0 ≤ b ↔ tk_kind A N s = 3 ∧ A s = b := by
  have ha := hA s
  unfold tk_code tk_kind
  by_cases e : s < N
  · rw [if_pos e, if_pos e]
    have hb := tk_find_b (tk_seg A s (tk_end A N s - s).toNat) tk_words 1 (by decide)
    have hl := tk_words_len
    rcases tk_kd_b (A s) with q | q | q
    · rw [if_pos q, q]
      exact ⟨fun t => by omega, fun t => absurd t.1 (by decide)⟩
    · rw [if_neg (by omega), if_pos q, q]
      exact ⟨fun t => by omega, fun t => absurd t.1 (by decide)⟩
    · rw [if_neg (by omega), if_neg (by omega), q]
      exact ⟨fun t => ⟨rfl, by omega⟩, fun t => by omega⟩
  · rw [if_neg e, if_neg e]
    exact ⟨fun t => by omega, fun t => absurd t.1 (by decide)⟩
theorem tk_code_num {A : Int → Int} (hA : tk_ok A) {N s : Int} : tk_code A N s = 50 ↔ tk_kind A N s = 2 := by
  have ha := hA s
  unfold tk_code tk_kind
  by_cases e : s < N
  · rw [if_pos e, if_pos e]
    have hb := tk_find_b (tk_seg A s (tk_end A N s - s).toNat) tk_words 1 (by decide)
    have hl := tk_words_len
    rcases tk_kd_b (A s) with q | q | q
    · rw [if_pos q, q]
      exact ⟨fun t => by omega, fun t => absurd t (by decide)⟩
    · rw [if_neg (by omega), if_pos q, q]
      exact ⟨fun _ => rfl, fun _ => rfl⟩
    · rw [if_neg (by omega), if_neg (by omega), q]
      exact ⟨fun t => by omega, fun t => absurd t (by decide)⟩
  · rw [if_neg e, if_neg e]
    exact ⟨fun t => by omega, fun t => absurd t (by decide)⟩
theorem tk_code_word {A : Int → Int} (hA : tk_ok A) {N s : Int} {i : Nat} {w : List Int} (hw : tk_words[i]? = some w) : tk_code A N s = 1 + i ↔ tk_kind A N s = 1 ∧ tk_seg A s (tk_end A N s - s).toNat = w := by
  have ha := hA s
  have hi := (List.getElem?_eq_some_iff.mp hw).1
  have hl := tk_words_len
  unfold tk_code tk_kind
  by_cases e : s < N
  · rw [if_pos e, if_pos e]
    rcases tk_kd_b (A s) with q | q | q
    · rw [if_pos q, q, tk_find_at _ tk_words 1 (by decide) tk_words_nd i w hw]
      exact ⟨fun t => ⟨rfl, t⟩, fun t => t.2⟩
    · rw [if_neg (by omega), if_pos q, q]
      exact ⟨fun t => by omega, fun t => absurd t.1 (by decide)⟩
    · rw [if_neg (by omega), if_neg (by omega), q]
      exact ⟨fun t => by omega, fun t => absurd t.1 (by decide)⟩
  · rw [if_neg e, if_neg e]
    exact ⟨fun t => by omega, fun t => absurd t.1 (by decide)⟩
theorem tk_code_b {A : Int → Int} (hA : tk_ok A) (N s : Int) : 0 ≤ tk_code A N s ∧ tk_code A N s ≤ 355 := by
  have ha := hA s
  have hb := tk_find_b (tk_seg A s (tk_end A N s - s).toNat) tk_words 1 (by decide)
  have hl := tk_words_len
  unfold tk_code
  split
  · split
    · omega
    · split <;> omega
  · omega
/-- a number, as the reference has it, as the class has it -/
def tk_n1 (A : Int → Int) : Nat → Int → Int → Int
  | 0, _, x => x
  | n + 1, s, x => tk_n1 A n (s + 1) (if 1000000 < x then x else 10 * x + A s - 48)
def tk_n2 (A : Int → Int) : Nat → Int → Int → Int
  | 0, _, x => x
  | n + 1, s, x => tk_n2 A n (s + 1) (min 1001 (x * 10 + A s - 48))
def tk_val (A : Int → Int) (N s : Int) : Int := if tk_kind A N s = 2 then tk_n1 A (tk_end A N s - s).toNat s 0 else 0
theorem tk_n12 {A : Int → Int} : ∀ (n : Nat) (s x : Int), 0 ≤ x → (∀ i, s ≤ i → i < s + n → 48 ≤ A i ∧ A i ≤ 57) → tk_n2 A n s (min 1001 x) = min 1001 (tk_n1 A n s x) ∧ 0 ≤ tk_n1 A n s x
  | 0, s, x, hx, h => ⟨rfl, hx⟩
  | n + 1, s, x, hx, h => by
    have ha := h s (by omega) (by omega)
    have hx2 : 0 ≤ (if 1000000 < x then x else 10 * x + A s - 48) := by split <;> omega
    have ih := tk_n12 (A := A) n (s + 1) (if 1000000 < x then x else 10 * x + A s - 48) hx2 (fun i q1 q2 => h i (by omega) (by omega))
    refine ⟨?_, ih.2⟩
    show tk_n2 A n (s + 1) (min 1001 (min 1001 x * 10 + A s - 48)) = min 1001 (tk_n1 A n (s + 1) (if 1000000 < x then x else 10 * x + A s - 48))
    rw [← ih.1]
    congr 1
    split <;> omega
theorem tk_n1_b {A : Int → Int} : ∀ (n : Nat) (s x : Int), 0 ≤ x ∧ x ≤ 100000000 → (∀ i, s ≤ i → i < s + n → 48 ≤ A i ∧ A i ≤ 57) → 0 ≤ tk_n1 A n s x ∧ tk_n1 A n s x ≤ 100000000
  | 0, s, x, hx, h => hx
  | n + 1, s, x, hx, h => by
    have ha := h s (by omega) (by omega)
    refine tk_n1_b n (s + 1) _ ?_ (fun i q1 q2 => h i (by omega) (by omega))
    split <;> omega
theorem tk_ext_all {A : Int → Int} {N t : Int} : ∀ (n : Nat) (a i : Int), a ≤ i → i < tk_ext A N t n a → tk_kd (A i) = t
  | 0, a, i, h1, h2 => by
    have h2' : i < a := h2
    omega
  | n + 1, a, i, h1, h2 => by
    unfold tk_ext at h2
    split at h2
    · rename_i q
      by_cases e : i = a
      · rw [e]; exact q.2.2
      · exact tk_ext_all n (a + 1) i (by omega) h2
    · omega
theorem tk_digits {A : Int → Int} {N s : Int} (h : tk_kind A N s = 2) : ∀ i, s ≤ i → i < s + (tk_end A N s - s).toNat → 48 ≤ A i ∧ A i ≤ 57 := by
  intro i q1 q2
  have hs : s < N := by
    unfold tk_kind at h
    split at h
    · assumption
    · omega
  have hk : tk_kd (A s) = 2 := by
    unfold tk_kind at h
    rw [if_pos hs] at h
    exact h
  have hb := tk_end_b (A := A) (N := N) (s := s) (by omega)
  have hd : tk_kd (A i) = 2 := by
    by_cases e : i = s
    · rw [e]; exact hk
    · refine tk_ext_all (N := N) 401 (s + 1) i (by omega) ?_
      have e2 : tk_end A N s = tk_ext A N (tk_kd (A s)) 401 (s + 1) := if_pos hs
      rw [← hk]
      omega
  unfold tk_kd at hd
  split at hd
  · omega
  · split at hd
    · assumption
    · omega
theorem tk_val_b {A : Int → Int} (N s : Int) : 0 ≤ tk_val A N s ∧ tk_val A N s ≤ 100000000 := by
  unfold tk_val
  split
  · rename_i h
    exact tk_n1_b _ _ _ (by decide) (tk_digits h)
  · exact ⟨by decide, by decide⟩
/-- the class's number -/
theorem tk_num2 {A : Int → Int} {N s : Int} (h : tk_kind A N s = 2) : tk_n2 A (tk_end A N s - s).toNat s 0 = min 1001 (tk_val A N s) := by
  have e : tk_val A N s = tk_n1 A (tk_end A N s - s).toNat s 0 := if_pos h
  rw [e, ← (tk_n12 _ _ _ (by decide) (tk_digits h)).1]
  rfl
/-- how many tokens there are -/
def tk_cnt (A : Int → Int) (N : Int) : Nat → Nat → Nat
  | 0, i => i
  | n + 1, i => if tk_P A N i < N then tk_cnt A N n (i + 1) else i
theorem tk_cnt_b {A : Int → Int} {N : Int} (hN : 0 ≤ N) : ∀ (n i : Nat), N - i < n → i ≤ tk_cnt A N n i ∧ tk_P A N (tk_cnt A N n i) = N ∧ ((tk_cnt A N n i : Int) ≤ N ∨ tk_cnt A N n i = i) ∧ ∀ j, i ≤ j → j < tk_cnt A N n i → tk_P A N j < N
  | 0, i, h => by
    have h1 := tk_P_far (A := A) hN i
    have h2 := tk_P_b (A := A) hN i
    exact ⟨Nat.le_refl _, by show tk_P A N i = N; omega, Or.inr rfl, fun j q1 q2 => absurd q2 (by show ¬ j < i; omega)⟩
  | n + 1, i, h => by
    have h1 := tk_P_far (A := A) hN i
    have h2 := tk_P_b (A := A) hN i
    unfold tk_cnt
    by_cases e : tk_P A N i < N
    · rw [if_pos e]
      obtain ⟨a1, a2, a3, a4⟩ := tk_cnt_b (A := A) hN n (i + 1) (by omega)
      refine ⟨by omega, a2, Or.inl ?_, fun j q1 q2 => ?_⟩
      · rcases a3 with q | q
        · exact q
        · rw [q]
          rcases h1 with t | t <;> omega
      · by_cases ej : j = i
        · rw [ej]; exact e
        · exact a4 j (by omega) q2
    · rw [if_neg e]
      exact ⟨Nat.le_refl _, by omega, Or.inr rfl, fun j q1 q2 => absurd q2 (by omega)⟩
def tk_nt (A : Int → Int) (N : Int) : Int := (tk_cnt A N 401 0 : Nat)
theorem tk_nt_b {A : Int → Int} {N : Int} (hN : 0 ≤ N ∧ N ≤ 400) : (0 ≤ tk_nt A N ∧ tk_nt A N ≤ N) ∧ tk_P A N (tk_nt A N).toNat = N ∧ ∀ j : Nat, (j : Int) < tk_nt A N → tk_P A N j < N := by
  obtain ⟨a1, a2, a3, a4⟩ := tk_cnt_b (A := A) hN.1 401 0 (by omega)
  unfold tk_nt
  refine ⟨⟨by omega, by omega⟩, ?_, fun j q => a4 j (Nat.zero_le _) (by omega)⟩
  rw [show ((tk_cnt A N 401 0 : Nat) : Int).toNat = tk_cnt A N 401 0 by omega]
  exact a2
/-- codes, values along the tokens -/
def tk_C (A : Int → Int) (N : Int) : Int → Int := fun i => tk_code A N (tk_P A N i.toNat)
def tk_X (A : Int → Int) (N : Int) : Int → Int := fun i => tk_val A N (tk_P A N i.toNat)
def tk_Q (A : Int → Int) (N : Int) : Int → Int := fun i => tk_P A N i.toNat
theorem tk_C_end {A : Int → Int} {N : Int} (hN : 0 ≤ N ∧ N ≤ 400) : ∀ k, tk_nt A N ≤ k → tk_C A N k = 0 := by
  intro k hk
  obtain ⟨h1, h2, -⟩ := tk_nt_b (A := A) hN
  have key : ∀ n : Nat, tk_P A N ((tk_nt A N).toNat + n) = N := by
    intro n
    induction n with
    | zero => exact h2
    | succ n ih =>
      have a := tk_P_up (A := A) hN.1 ((tk_nt A N).toNat + n)
      have b := tk_P_b (A := A) hN.1 ((tk_nt A N).toNat + n + 1)
      show tk_P A N ((tk_nt A N).toNat + n + 1) = N
      omega
  have e := key (k.toNat - (tk_nt A N).toNat)
  rw [show (tk_nt A N).toNat + (k.toNat - (tk_nt A N).toNat) = k.toNat by omega] at e
  unfold tk_C tk_code
  rw [e, if_neg (by omega)]
