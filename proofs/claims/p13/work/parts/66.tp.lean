/-! the reference's tokens: words, rows of letters, of digits -/
/-- the words stand in a row from a place on, a blank behind each -/
def WL (f : Int → Int) : Int → List (List Int) → Prop
  | k, [] => k = 140
  | k, u :: r => (0 ≤ k ∧ k + (u.length : Int) < 140) ∧ (∀ i : Nat, i < u.length → f (k + (i : Int)) = u.getD i 0 ∧ 97 ≤ u.getD i 0 ∧ u.getD i 0 ≤ 122) ∧ f (k + (u.length : Int)) = 32 ∧ WL f (k + (u.length : Int) + 1) r
theorem rq_seg_no {A : Int → Int} {s : Int} {n : Nat} {wl : List Int} {i : Nat} (hi : i < n) (h : ¬ A (s + (i : Int)) = wl.getD i 0) : ¬ tk_seg A s n = wl := by
  intro e
  have h1 := tk_seg_at A n s i hi
  rw [e] at h1
  exact h (by rw [List.getD_eq_getElem?_getD, h1]; rfl)
theorem rq_seg_yes {A : Int → Int} {s : Int} {n : Nat} {wl : List Int} (hn : wl.length = n) (h : ∀ i : Nat, i < n → A (s + (i : Int)) = wl.getD i 0) : tk_seg A s n = wl := by
  refine tk_seg_eq hn (fun i hi => ?_)
  rw [h i hi, List.getD_eq_getElem?_getD, List.getElem?_eq_getElem (by omega)]
  rfl
theorem rq_seg_len {A : Int → Int} {s : Int} {n : Nat} {wl : List Int} (hn : ¬ wl.length = n) : ¬ tk_seg A s n = wl := by
  intro e
  have := tk_seg_len A n s
  rw [e] at this
  exact hn this
theorem tk_find_y (u : List Int) (r : List (List Int)) (k : Int) {l : List Int} (h : l = u) : tk_find l (u :: r) k = k := if_pos h
theorem tk_find_n (u : List Int) (r : List (List Int)) (k : Int) {l : List Int} (h : ¬ l = u) : tk_find l (u :: r) k = tk_find l r (k + 1) := if_neg h
/-- the tape as numbers 0 .. 255 -/
def TA (A : Int → Int) (R : Nat → Int → Int) : Prop := (∀ i, A i = R 7 i % 256) ∧ ∀ i, -128 ≤ R 7 i ∧ R 7 i ≤ 127
theorem TA_ok {A : Int → Int} {R : Nat → Int → Int} (h : TA A R) : tk_ok A := fun i => by
  have h1 := h.1 i
  omega
/-- tokens, as many as were made -/
def TKI (A : Int → Int) (N : Int) (n : Nat) (c9 c10 c11 : Int → Int) : Prop := ∀ j : Nat, j < n → tk_P A N j < N ∧ c9 j = tk_C A N j ∧ c10 j = tk_X A N j ∧ c11 j = tk_Q A N j
def SW (v : Nat → Int) (R : Nat → Int → Int) (n : Int) (c9 c10 c11 : Int → Int) : im_W := MW (pl_U v 18 n) (pl_U (pl_U (pl_U R 9 c9) 10 c10) 11 c11)
theorem TKI_nt {A : Int → Int} {N : Int} (hN : 0 ≤ N ∧ N ≤ 400) {n : Nat} {c9 c10 c11 : Int → Int} (h : TKI A N n c9 c10 c11) (he : tk_P A N n = N) : tk_nt A N = n := by
  obtain ⟨h1, h2, h3⟩ := tk_nt_b (A := A) hN
  have e : ((tk_nt A N).toNat : Int) = tk_nt A N := by omega
  by_cases q : tk_nt A N < n
  · have := (h (tk_nt A N).toNat (by omega)).1
    omega
  · by_cases q2 : (n : Int) < tk_nt A N
    · have := h3 n q2
      omega
    · omega
theorem TKI_end {A : Int → Int} {N : Int} (hN : 0 ≤ N ∧ N ≤ 400) {n : Nat} {c9 c10 c11 : Int → Int} {R : Nat → Int → Int} (h : TKI A N n c9 c10 c11) (he : tk_P A N n = N) : TKS A N (pl_U (pl_U (pl_U R 9 (im_up c9 (n : Int) 0)) 10 (im_up c10 (n : Int) 0)) 11 (im_up c11 (n : Int) N)) := by
  have hn := TKI_nt hN h he
  intro i h1 h2
  show im_up c9 (n : Int) 0 i = tk_C A N i ∧ im_up c10 (n : Int) 0 i = tk_X A N i ∧ im_up c11 (n : Int) N i = tk_Q A N i
  by_cases e : i = (n : Int)
  · subst e
    rw [im_up_self, im_up_self, im_up_self, tk_C_end hN _ (by omega)]
    have e1 : tk_P A N ((n : Int)).toNat = N := by rw [show ((n : Int)).toNat = n by omega]; exact he
    refine ⟨rfl, ?_, e1.symm⟩
    unfold tk_X tk_val tk_kind
    rw [e1, if_neg (by rw [if_neg (by omega)]; decide)]
  · rw [im_up_ne _ _ e, im_up_ne _ _ e, im_up_ne _ _ e]
    obtain ⟨a1, a2, a3, a4⟩ := h i.toNat (by omega)
    rw [show ((i.toNat : Nat) : Int) = i by omega] at a2 a3 a4
    exact ⟨a2, a3, a4⟩
theorem TKI_s {A : Int → Int} {N : Int} {n : Nat} {c9 c10 c11 : Int → Int} (h : TKI A N n c9 c10 c11) {k x y : Int} (hk : tk_P A N n = k) (hk2 : k < N) (hx : x = tk_code A N k) (hy : y = tk_val A N k) : TKI A N (n + 1) (im_up c9 (n : Int) x) (im_up c10 (n : Int) y) (im_up c11 (n : Int) k) := by
  intro j hj
  by_cases e : j = n
  · subst e
    rw [im_up_self, im_up_self, im_up_self]
    have ej : ((j : Int)).toNat = j := by omega
    refine ⟨by omega, ?_, ?_, ?_⟩
    · rw [hx]; show _ = tk_code A N (tk_P A N ((j : Int)).toNat); rw [ej, hk]
    · rw [hy]; show _ = tk_val A N (tk_P A N ((j : Int)).toNat); rw [ej, hk]
    · show k = tk_P A N ((j : Int)).toNat; rw [ej, hk]
  · rw [im_up_ne _ _ (by omega), im_up_ne _ _ (by omega), im_up_ne _ _ (by omega)]
    exact h j (by omega)
theorem tk_skip_blank {A : Int → Int} {N k : Int} (hN : N ≤ 400) (hk : 0 ≤ k ∧ k < N) (h : A k = 32) : tk_skip A N 401 k = tk_skip A N 401 (k + 1) := by
  have e : tk_skip A N 401 k = tk_skip A N 400 (k + 1) := by
    show (if k < N ∧ A k = 32 then tk_skip A N 400 (k + 1) else k) = _
    rw [if_pos ⟨hk.2, h⟩]
  rw [e]
  exact tk_skip_more 400 401 (k + 1) (by omega) (by omega)
theorem tk_skip_here {A : Int → Int} {N k : Int} (h : ¬ (k < N ∧ A k = 32)) : tk_skip A N 401 k = k := by
  show (if k < N ∧ A k = 32 then tk_skip A N 400 (k + 1) else k) = _
  rw [if_neg h]
section Tp
variable {ro : ab_R} {T : List im_T} {d : Nat} {v : Nat → Int} {R : Nat → Int → Int} {A : Int → Int} {N : Int}
set_option maxHeartbeats 8000000 in
theorem r_isSmall (hd : 1 ≤ d) (hT : T.length < 1000) {x : Int} (hx : im_ir x) : im_ct ro T d 146 [.inl x] ([]) (fun r w => r = some (.inl (if 97 ≤ x ∧ x ≤ 122 then 1 else 0)) ∧ w = []) := by
  obtain ⟨d, rfl⟩ : ∃ e, d = e + 1 := ⟨d - 1, by omega⟩
  refine im_ct_of (own := 9) (ret := (some .boolean)) (code := ab_k_X9_isSmall) (nL := 1) (L0 := [some (.inl x)]) (n := 0) rfl rfl rfl rfl rfl rfl rfl rfl rfl ?_
  refine im_g 2 (y := (3, _, _, _)) rfl trivial ?_
  refine im_b rfl rfl ⟨(by omega), (by omega), trivial⟩ (fun br1 => ?_) (fun br1 => ?_)
  · refine im_g 1 (y := (17, _, _, _)) rfl trivial ?_
    refine im_r rfl rfl ⟨(by decide), trivial⟩ rfl ?_
    rw [if_neg (by omega)]
    exact ⟨rfl, rfl⟩
  · refine im_g 2 (y := (9, _, _, _)) rfl trivial ?_
    refine im_b rfl rfl ⟨(by omega), (by omega), trivial⟩ (fun br2 => ?_) (fun br2 => ?_)
    · refine im_g 1 (y := (17, _, _, _)) rfl trivial ?_
      refine im_r rfl rfl ⟨(by decide), trivial⟩ rfl ?_
      rw [if_neg (by omega)]
      exact ⟨rfl, rfl⟩
    · refine im_g 2 (y := (17, _, _, _)) rfl trivial ?_
      refine im_r rfl rfl ⟨(by decide), trivial⟩ rfl ?_
      rw [if_pos (by omega)]
      exact ⟨rfl, rfl⟩
set_option maxHeartbeats 8000000 in
theorem r_isDigit (hd : 1 ≤ d) (hT : T.length < 1000) {x : Int} (hx : im_ir x) : im_ct ro T d 147 [.inl x] ([]) (fun r w => r = some (.inl (if 48 ≤ x ∧ x ≤ 57 then 1 else 0)) ∧ w = []) := by
  obtain ⟨d, rfl⟩ : ∃ e, d = e + 1 := ⟨d - 1, by omega⟩
  refine im_ct_of (own := 9) (ret := (some .boolean)) (code := ab_k_X9_isDigit) (nL := 1) (L0 := [some (.inl x)]) (n := 0) rfl rfl rfl rfl rfl rfl rfl rfl rfl ?_
  refine im_g 2 (y := (3, _, _, _)) rfl trivial ?_
  refine im_b rfl rfl ⟨(by omega), (by omega), trivial⟩ (fun br1 => ?_) (fun br1 => ?_)
  · refine im_g 1 (y := (17, _, _, _)) rfl trivial ?_
    refine im_r rfl rfl ⟨(by decide), trivial⟩ rfl ?_
    rw [if_neg (by omega)]
    exact ⟨rfl, rfl⟩
  · refine im_g 2 (y := (9, _, _, _)) rfl trivial ?_
    refine im_b rfl rfl ⟨(by omega), (by omega), trivial⟩ (fun br2 => ?_) (fun br2 => ?_)
    · refine im_g 1 (y := (17, _, _, _)) rfl trivial ?_
      refine im_r rfl rfl ⟨(by decide), trivial⟩ rfl ?_
      rw [if_neg (by omega)]
      exact ⟨rfl, rfl⟩
    · refine im_g 2 (y := (17, _, _, _)) rfl trivial ?_
      refine im_r rfl rfl ⟨(by decide), trivial⟩ rfl ?_
      rw [if_pos (by omega)]
      exact ⟨rfl, rfl⟩
set_option maxHeartbeats 8000000 in
theorem r_wordOf (hd : 1 ≤ d) (hT : T.length < 1000) (hA : TA A R) (hW : WL (R 6) 0 tk_words) {a to_ : Int} (ha : 0 ≤ a ∧ a ≤ to_ ∧ to_ ≤ 400) : im_ct ro T d 148 [mr 0, .inl a, .inl to_] (MW v R) (fun r w => r = some (.inl (tk_find (tk_seg A a (to_ - a).toNat) tk_words 1)) ∧ w = MW v R) := by
  obtain ⟨d, rfl⟩ : ∃ e, d = e + 1 := ⟨d - 1, by omega⟩
  refine im_ct_of (own := 9) (ret := (some .int)) (code := ab_k_X9_wordOf) (nL := 8) (L0 := [some (mr 0), some (.inl a), some (.inl to_), none, none, none, none, none]) (n := 24) rfl rfl rfl rfl rfl rfl rfl rfl rfl ?_
  refine im_g 4 (y := (5, _, _, _)) rfl trivial ?_
  have key : ∀ (r : List (List Int)) (k ww : Int) (x5 x6 x7 : Option im_V), WL (R 6) k r → tk_find (tk_seg A a (to_ - a).toNat) r ww = tk_find (tk_seg A a (to_ - a).toNat) tk_words 1 → im_wp ro (ab_Ev ro ab_codes d) 9 (some .int) ab_k_X9_wordOf 24 T (fun r w => r = some (.inl (tk_find (tk_seg A a (to_ - a).toNat) tk_words 1)) ∧ w = MW v R) (5, [some (mr 0), some (.inl a), some (.inl to_), some (.inl (ww)), some (.inl (k)), x5, x6, x7], [], MW v R) := by
    intro r
    induction r with
    | nil =>
      intro k ww x5 x6 x7 hw hf
      have hk : k = 140 := hw
      refine im_g 4 (y := (12, _, _, _)) rfl trivial ?_
      refine im_bT rfl rfl ⟨(by first | (constructor <;> omega) | decide | omega), (by first | (constructor <;> omega) | decide | omega), trivial⟩ (by show ((140 : Nat) : Int) ≤ k; omega) ?_
      refine im_g 1 (y := (127, _, _, _)) rfl trivial ?_
      refine im_r rfl rfl trivial rfl ?_
      rw [← hf]
      exact ⟨rfl, rfl⟩
    | cons u r ih =>
      intro k ww x5 x6 x7 hw hf
      obtain ⟨hk0, hu, hu32, hr⟩ := hw
      have nxt : ∀ y5 y6 y7 : Option im_V, ¬ tk_seg A a (to_ - a).toNat = u → im_wp ro (ab_Ev ro ab_codes d) 9 (some .int) ab_k_X9_wordOf 24 T (fun r w => r = some (.inl (tk_find (tk_seg A a (to_ - a).toNat) tk_words 1)) ∧ w = MW v R) (5, [some (mr 0), some (.inl a), some (.inl to_), some (.inl (ww + 1)), some (.inl (k + ((u.length : Int) + 1))), y5, y6, y7], [], MW v R) := by
        intro y5 y6 y7 hne
        have t := ih (k + (u.length : Int) + 1) (ww + 1) y5 y6 y7 hr (by rw [← hf, tk_find_n u r ww hne])
        rw [show k + (u.length : Int) + 1 = k + ((u.length : Int) + 1) by omega] at t
        exact t
      have out0 : ∀ (i : Int), (0 ≤ i ∧ i ≤ 400) → ¬ tk_seg A a (to_ - a).toNat = u → im_wp ro (ab_Ev ro ab_codes d) 9 (some .int) ab_k_X9_wordOf 24 T (fun r w => r = some (.inl (tk_find (tk_seg A a (to_ - a).toNat) tk_words 1)) ∧ w = MW v R) (57, [some (mr 0), some (.inl a), some (.inl to_), some (.inl (ww)), some (.inl (k)), some (.inl (u.length : Int)), some (.inl 0), some (.inl i)], [], MW v R) := by
        intro i hi hne
        refine im_g 2 (y := (61, _, _, _)) rfl trivial ?_
        refine im_b rfl rfl ⟨(by omega), (by omega), trivial⟩ (fun br1 => ?_) (fun br1 => ?_)
        · refine im_g 1 (y := (106, _, _, _)) rfl trivial ?_
          refine im_bT rfl rfl ⟨(by decide), trivial⟩ rfl ?_
          refine im_g 8 (y := (5, _, _, _)) rfl trivial ?_
          exact nxt _ _ _ hne
        · refine im_g 1 (y := (66, _, _, _)) rfl trivial ?_
          refine im_bT rfl rfl ⟨(by decide), trivial⟩ rfl ?_
          refine im_g 1 (y := (106, _, _, _)) rfl trivial ?_
          refine im_bT rfl rfl ⟨(by decide), trivial⟩ rfl ?_
          refine im_g 8 (y := (5, _, _, _)) rfl trivial ?_
          exact nxt _ _ _ hne
      have k2 : ∀ (m i : Nat), i + m = u.length → (to_ - a = (u.length : Int)) → (∀ j : Nat, j < i → A (a + (j : Int)) = u.getD j 0) → im_wp ro (ab_Ev ro ab_codes d) 9 (some .int) ab_k_X9_wordOf 24 T (fun r w => r = some (.inl (tk_find (tk_seg A a (to_ - a).toNat) tk_words 1)) ∧ w = MW v R) (57, [some (mr 0), some (.inl a), some (.inl to_), some (.inl (ww)), some (.inl (k)), some (.inl (u.length : Int)), some (.inl 1), some (.inl (i : Int))], [], MW v R) := by
        intro m
        induction m with
        | zero =>
          intro i hi hlen hj
          refine im_g 2 (y := (61, _, _, _)) rfl trivial ?_
          refine im_bT rfl rfl ⟨(by omega), (by omega), trivial⟩ (by omega) ?_
          refine im_g 1 (y := (106, _, _, _)) rfl trivial ?_
          refine im_bF rfl rfl ⟨(by decide), trivial⟩ (by decide) ?_
          refine im_g 1 (y := (110, _, _, _)) rfl trivial ?_
          refine im_r rfl rfl trivial rfl ?_
          rw [← hf, tk_find_y u r ww (rq_seg_yes (A := A) (s := a) (by omega) (fun j q => hj j (by omega)))]
          exact ⟨rfl, rfl⟩
        | succ m ih2 =>
          intro i hi hlen hj
          have hui := hu i (by omega)
          have hta := hA.1 (a + (i : Int))
          have htb := hA.2 (a + (i : Int))
          refine im_g 2 (y := (61, _, _, _)) rfl trivial ?_
          refine im_bF rfl rfl ⟨(by omega), (by omega), trivial⟩ (by omega) ?_
          refine im_g 1 (y := (66, _, _, _)) rfl trivial ?_
          refine im_bF rfl rfl ⟨(by decide), trivial⟩ (by decide) ?_
          refine im_g 12 (y := (88, _, _, _)) rfl ⟨(by omega), (by omega), trivial⟩ ?_
          refine im_b rfl rfl ⟨(by first | (rw [hui.1]; constructor <;> omega) | (constructor <;> omega)), (by first | (rw [hui.1]; constructor <;> omega) | (constructor <;> omega)), trivial⟩ (fun br1 => ?_) (fun br1 => ?_)
          · refine im_g 4 (y := (57, _, _, _)) rfl trivial ?_
            exact out0 ((i : Int) + 1) (by omega) (rq_seg_no (A := A) (s := a) (i := i) (by omega) (by rw [← hui.1]; omega))
          · refine im_g 5 (y := (57, _, _, _)) rfl trivial ?_
            exact ih2 (i + 1) (by omega) hlen (fun j q => by by_cases e : j = i; rw [e, ← hui.1]; omega; exact hj j (by omega))
      have k1 : ∀ (m n : Nat), n + m = u.length → im_wp ro (ab_Ev ro ab_codes d) 9 (some .int) ab_k_X9_wordOf 24 T (fun r w => r = some (.inl (tk_find (tk_seg A a (to_ - a).toNat) tk_words 1)) ∧ w = MW v R) (18, [some (mr 0), some (.inl a), some (.inl to_), some (.inl (ww)), some (.inl (k)), some (.inl (n : Int)), x6, x7], [], MW v R) := by
        intro m
        induction m with
        | zero =>
          intro n hn
          obtain rfl : n = u.length := by omega
          refine im_g 7 (y := (30, _, _, _)) rfl ⟨(by omega), trivial⟩ ?_
          refine im_bT rfl rfl ⟨(by first | (rw [hu32]; decide) | decide), (by first | (rw [hu32]; decide) | decide), trivial⟩ hu32 ?_
          refine im_g 4 (y := (44, _, _, _)) rfl trivial ?_
          refine im_b rfl rfl ⟨(by omega), (by omega), trivial⟩ (fun br1 => ?_) (fun br1 => ?_)
          · refine im_g 4 (y := (57, _, _, _)) rfl trivial ?_
            exact out0 0 (by decide) (rq_seg_len (A := A) (s := a) (by omega))
          · refine im_g 5 (y := (57, _, _, _)) rfl trivial ?_
            exact k2 u.length 0 (by omega) (by omega) (fun j q => absurd q (Nat.not_lt_zero j))
        | succ m ih2 =>
          intro n hn
          have hui := hu n (by omega)
          refine im_g 7 (y := (30, _, _, _)) rfl ⟨(by omega), trivial⟩ ?_
          refine im_bF rfl rfl ⟨(by first | (rw [hui.1]; constructor <;> omega) | decide), (by first | (rw [hui.1]; constructor <;> omega) | decide), trivial⟩ (by rw [hui.1]; omega) ?_
          refine im_g 2 (y := (18, _, _, _)) rfl trivial ?_
          exact ih2 (n + 1) (by omega)
      refine im_g 4 (y := (12, _, _, _)) rfl trivial ?_
      refine im_bF rfl rfl ⟨(by first | (constructor <;> omega) | decide | omega), (by first | (constructor <;> omega) | decide | omega), trivial⟩ (by show ¬ ((140 : Nat) : Int) ≤ k; omega) ?_
      refine im_g 2 (y := (18, _, _, _)) rfl trivial ?_
      exact k1 u.length 0 (by omega)
  exact key tk_words 0 1 none none none hW rfl
set_option maxHeartbeats 8000000 in
theorem r_splits (hd : 2 ≤ d) (hT : T.length < 1000) (hA : TA A R) (hW : WL (R 6) 0 tk_words) (hN : 0 ≤ N ∧ N ≤ 400) : im_ct ro T d 149 [mr 0, .inl N] (MW v R) (fun r w => r = none ∧ ∃ c9 c10 c11, w = SW v R (tk_nt A N) c9 c10 c11 ∧ TKS A N (pl_U (pl_U (pl_U R 9 c9) 10 c10) 11 c11)) := by
  obtain ⟨d, rfl⟩ : ∃ e, d = e + 1 := ⟨d - 1, by omega⟩
  refine im_ct_of (own := 9) (ret := none) (code := ab_k_X9_splits) (nL := 6) (L0 := [some (mr 0), some (.inl N), none, none, none, none]) (n := 24) rfl rfl rfl rfl rfl rfl rfl rfl rfl ?_
  refine im_g 5 (y := (7, _, _, _)) rfl trivial ?_
  have key : ∀ (m : Nat) (k : Int) (n : Nat) (c9 c10 c11 : Int → Int) (x3 x4 x5 : Option im_V), N - k < m → (0 ≤ k ∧ k ≤ N) → (n : Int) ≤ k → tk_skip A N 401 k = tk_P A N n → TKI A N n c9 c10 c11 → im_wp ro (ab_Ev ro ab_codes d) 9 none ab_k_X9_splits 24 T (fun r w => r = none ∧ ∃ c9 c10 c11, w = SW v R (tk_nt A N) c9 c10 c11 ∧ TKS A N (pl_U (pl_U (pl_U R 9 c9) 10 c10) 11 c11)) (7, [some (mr 0), some (.inl N), some (.inl k), x3, x4, x5], [], SW v R (n : Int) c9 c10 c11) := by
    intro m
    induction m with
    | zero => intro k n c9 c10 c11 x3 x4 x5 h1 h2; omega
    | succ m ih =>
      intro k n c9 c10 c11 x3 x4 x5 hm hk hnk hs hI
      have e18 : pl_U v 18 (n : Int) 18 = (n : Int) := rfl
      refine im_g 2 (y := (9, _, _, _)) rfl trivial ?_
      refine im_b rfl rfl ⟨(by omega), (by omega), trivial⟩ (fun br1 => ?_) (fun br1 => ?_)
      · refine im_g 18 (y := (293, _, _, _)) rfl ⟨(by omega), (by omega), (by omega), trivial⟩ ?_
        refine im_r rfl rfl trivial rfl ?_
        have hkN : k = N := by omega
        have hPn : tk_P A N n = N := by
          rw [← hs, hkN]
          exact tk_skip_here (fun z => absurd z.1 (by omega))
        have hnt := TKI_nt hN hI hPn
        rw [show (tk_nt A N) = (n : Int) from hnt]
        exact ⟨rfl, _, _, _, rfl, TKI_end hN hI hPn⟩
      · refine im_g 7 (y := (22, _, _, _)) rfl ⟨(by omega), trivial⟩ ?_
        refine im_b rfl rfl ⟨(by first | (have t := hA.2 k; show im_ir (R 7 k); constructor <;> omega) | decide), (by first | (have t := hA.2 k; show im_ir (R 7 k); constructor <;> omega) | decide), trivial⟩ (fun br2 => ?_) (fun br2 => ?_)
        · have hb : ¬ R 7 k = 32 := br2
          have hak := hA.1 k
          have hbk := hA.2 k
          have hA32 : ¬ A k = 32 := by omega
          have hPk : tk_P A N n = k := by rw [← hs]; exact tk_skip_here (fun z => hA32 z.2)
          have hkl : k < N := by omega
          have hen : tk_end A N k = tk_ext A N (tk_kd (A k)) 401 (k + 1) := if_pos hkl
          have heb := tk_end_b (A := A) (N := N) (s := k) (by omega)
          have hcd : tk_code A N k = (if tk_kd (A k) = 1 then tk_find (tk_seg A k (tk_end A N k - k).toNat) tk_words 1 else if tk_kd (A k) = 2 then 50 else 100 + A k) := if_pos hkl
          have hkn : tk_kind A N k = tk_kd (A k) := if_pos hkl
          have hPs : tk_P A N (n + 1) = tk_skip A N 401 (tk_end A N k) := by
            show tk_skip A N 401 (tk_end A N (tk_P A N n)) = _
            rw [hPk]
          refine im_eqs (y := (31, [some (mr 0), some (.inl N), some (.inl k), some (.inl (R 7 k)), x4, x5], [], SW v R (n : Int) c9 c10 c11)) rfl ?_
          refine im_g 5 (y := (37, _, _, _)) rfl trivial ?_
          refine im_call [] rfl rfl (r_isSmall (x := R 7 k) (by omega) hT (by have t := hA.2 (k); constructor <;> omega)) rfl rfl rfl (by decide) rfl (by decide) hT (fun v1 w1 hq => ?_)
          obtain ⟨rfl, rfl⟩ := hq
          refine ⟨_, _, SW v R (n : Int) c9 c10 c11, rfl, rfl, rfl, ?_⟩
          refine im_b rfl rfl ⟨(by split <;> decide), trivial⟩ (fun br1 => ?_) (fun br1 => ?_)
          · have c40 : ¬ (97 ≤ R 7 k ∧ R 7 k ≤ 122) := by
              intro hh
              rw [if_pos hh] at br1
              exact absurd br1 (by decide)
            clear br1
            refine im_g 1 (y := (69, _, _, _)) rfl trivial ?_
            refine im_call [] rfl rfl (r_isDigit (x := R 7 k) (by omega) hT (by have t := hA.2 (k); constructor <;> omega)) rfl rfl rfl (by decide) rfl (by decide) hT (fun v1 w1 hq => ?_)
            obtain ⟨rfl, rfl⟩ := hq
            refine ⟨_, _, SW v R (n : Int) c9 c10 c11, rfl, rfl, rfl, ?_⟩
            refine im_b rfl rfl ⟨(by split <;> decide), trivial⟩ (fun br2 => ?_) (fun br2 => ?_)
            · have c72 : ¬ (48 ≤ R 7 k ∧ R 7 k ≤ 57) := by
                intro hh
                rw [if_pos hh] at br2
                exact absurd br2 (by decide)
              clear br2
              have hkd : tk_kd (A k) = 3 := by unfold tk_kd; rw [if_neg (by omega), if_neg (by omega)]
              have hto : k + 1 = tk_end A N k := by rw [hen, hkd]; exact (if_neg (fun z => z.2.1 rfl)).symm
              refine im_g 17 (y := (129, _, _, _)) rfl ⟨(by omega), (by omega), trivial⟩ ?_
              refine im_call [] rfl rfl (r_isSmall (x := R 7 k) (by omega) hT (by have t := hA.2 (k); constructor <;> omega)) rfl rfl rfl (by decide) rfl (by decide) hT (fun v1 w1 hq => ?_)
              obtain ⟨rfl, rfl⟩ := hq
              refine ⟨_, _, MW (pl_U v 18 (n : Int)) (pl_U (pl_U (pl_U R 9 c9) 10 (im_up c10 (n : Int) 0)) 11 (im_up c11 (n : Int) k)), rfl, rfl, rfl, ?_⟩
              refine im_bT rfl rfl ⟨(by split <;> decide), trivial⟩ (by rw [if_neg (by omega)]) ?_
              refine im_g 1 (y := (146, _, _, _)) rfl trivial ?_
              refine im_call [] rfl rfl (r_isDigit (x := R 7 k) (by omega) hT (by have t := hA.2 (k); constructor <;> omega)) rfl rfl rfl (by decide) rfl (by decide) hT (fun v1 w1 hq => ?_)
              obtain ⟨rfl, rfl⟩ := hq
              refine ⟨_, _, MW (pl_U v 18 (n : Int)) (pl_U (pl_U (pl_U R 9 c9) 10 (im_up c10 (n : Int) 0)) 11 (im_up c11 (n : Int) k)), rfl, rfl, rfl, ?_⟩
              refine im_bT rfl rfl ⟨(by split <;> decide), trivial⟩ (by rw [if_neg (by omega)]) ?_
              refine im_g 8 (y := (169, _, _, _)) rfl ⟨(by omega), trivial⟩ ?_
              refine im_eqs (y := (169, [some (mr 0), some (.inl N), some (.inl k), some (.inl (R 7 k)), some (.inl (k + 1)), some (.inl k)], [], SW v R (n : Int) (im_up c9 (n : Int) (100 + im_and (R 7 k) 255)) (im_up c10 (n : Int) 0) (im_up c11 (n : Int) k))) rfl ?_
              refine im_g 2 (y := (173, _, _, _)) rfl trivial ?_
              refine im_bF rfl rfl ⟨(by omega), (by omega), trivial⟩ (by omega) ?_
              refine im_g 1 (y := (177, _, _, _)) rfl trivial ?_
              refine im_call [] rfl rfl (r_isDigit (x := R 7 k) (by omega) hT (by have t := hA.2 (k); constructor <;> omega)) rfl rfl rfl (by decide) rfl (by decide) hT (fun v1 w1 hq => ?_)
              obtain ⟨rfl, rfl⟩ := hq
              refine ⟨_, _, SW v R (n : Int) (im_up c9 (n : Int) (100 + im_and (R 7 k) 255)) (im_up c10 (n : Int) 0) (im_up c11 (n : Int) k), rfl, rfl, rfl, ?_⟩
              refine im_bT rfl rfl ⟨(by split <;> decide), trivial⟩ (by rw [if_neg (by omega)]) ?_
              refine im_eqs (y := (247, [some (mr 0), some (.inl N), some (.inl k), some (.inl (R 7 k)), some (.inl (k + 1)), some (.inl k)], [], SW v R (n : Int) (im_up c9 (n : Int) (100 + im_and (R 7 k) 255)) (im_up c10 (n : Int) 0) (im_up c11 (n : Int) k))) rfl ?_
              have hI2 := TKI_s hI (x := 100 + im_and (R 7 k) 255) (y := 0) hPk hkl (by rw [hcd, hkd, if_neg (by decide), if_neg (by decide), im_and255, hak]) (by unfold tk_val; rw [hkn, if_neg (by omega)])
              refine im_g 9 (y := (7, _, _, _)) rfl trivial ?_
              exact ih (k + 1) (n + 1) _ _ _ _ _ _ (by omega) (by omega) (by omega) (by rw [hPs, ← hto]) hI2
            · have c72 : 48 ≤ R 7 k ∧ R 7 k ≤ 57 := by
                by_cases hh : 48 ≤ R 7 k ∧ R 7 k ≤ 57
                · exact hh
                · rw [if_neg hh] at br2; exact absurd rfl br2
              clear br2
              have hkd : tk_kd (A k) = 2 := by unfold tk_kd; rw [if_neg (by omega), if_pos (by omega)]
              have ke : ∀ (p : Nat) (to_ : Int), N - to_ < p → (k < to_ ∧ to_ ≤ N) → tk_ext A N 2 p to_ = tk_end A N k → im_wp ro (ab_Ev ro ab_codes d) 9 none ab_k_X9_splits 24 T (fun r w => r = none ∧ ∃ c9 c10 c11, w = SW v R (tk_nt A N) c9 c10 c11 ∧ TKS A N (pl_U (pl_U (pl_U R 9 c9) 10 c10) 11 c11)) (75, [some (mr 0), some (.inl N), some (.inl k), some (.inl (R 7 k)), some (.inl to_), x5], [], SW v R (n : Int) c9 c10 c11) := by
                intro p
                induction p with
                | zero => intro to_ h1 h2; omega
                | succ p ihp =>
                  intro to_ h1 h2 h3
                  have hat := hA.1 to_
                  have hbt := hA.2 to_
                  unfold tk_ext at h3
                  refine im_g 2 (y := (78, _, _, _)) rfl trivial ?_
                  refine im_b rfl rfl ⟨(by omega), (by omega), trivial⟩ (fun br1 => ?_) (fun br1 => ?_)
                  · rw [if_neg (fun z => absurd z.1 (by omega))] at h3
                    have hto := h3
                    refine im_g 17 (y := (129, _, _, _)) rfl ⟨(by omega), (by omega), trivial⟩ ?_
                    refine im_call [] rfl rfl (r_isSmall (x := R 7 k) (by omega) hT (by have t := hA.2 (k); constructor <;> omega)) rfl rfl rfl (by decide) rfl (by decide) hT (fun v1 w1 hq => ?_)
                    obtain ⟨rfl, rfl⟩ := hq
                    refine ⟨_, _, MW (pl_U v 18 (n : Int)) (pl_U (pl_U (pl_U R 9 c9) 10 (im_up c10 (n : Int) 0)) 11 (im_up c11 (n : Int) k)), rfl, rfl, rfl, ?_⟩
                    refine im_bT rfl rfl ⟨(by split <;> decide), trivial⟩ (by rw [if_neg (by omega)]) ?_
                    refine im_g 1 (y := (146, _, _, _)) rfl trivial ?_
                    refine im_call [] rfl rfl (r_isDigit (x := R 7 k) (by omega) hT (by have t := hA.2 (k); constructor <;> omega)) rfl rfl rfl (by decide) rfl (by decide) hT (fun v1 w1 hq => ?_)
                    obtain ⟨rfl, rfl⟩ := hq
                    refine ⟨_, _, MW (pl_U v 18 (n : Int)) (pl_U (pl_U (pl_U R 9 c9) 10 (im_up c10 (n : Int) 0)) 11 (im_up c11 (n : Int) k)), rfl, rfl, rfl, ?_⟩
                    refine im_bF rfl rfl ⟨(by split <;> decide), trivial⟩ (by rw [if_pos (by omega)]; decide) ?_
                    refine im_g 5 (y := (169, _, _, _)) rfl ⟨(by omega), trivial⟩ ?_
                    have hdg : ∀ i, k ≤ i → i < to_ → 48 ≤ A i ∧ A i ≤ 57 := by
                      intro i q1 q2
                      exact tk_digits (A := A) (N := N) (s := k) (by rw [hkn, hkd]) i q1 (by rw [← hto]; omega)
                    have kv : ∀ (p : Nat) (i y : Int), i + (p : Int) = to_ → k ≤ i → (0 ≤ y ∧ y ≤ 100000000) → tk_n1 A p i y = tk_val A N k → im_wp ro (ab_Ev ro ab_codes d) 9 none ab_k_X9_splits 24 T (fun r w => r = none ∧ ∃ c9 c10 c11, w = SW v R (tk_nt A N) c9 c10 c11 ∧ TKS A N (pl_U (pl_U (pl_U R 9 c9) 10 c10) 11 c11)) (169, [some (mr 0), some (.inl N), some (.inl k), some (.inl (R 7 k)), some (.inl to_), some (.inl i)], [], SW v R (n : Int) (im_up c9 (n : Int) (50)) (im_up c10 (n : Int) y) (im_up c11 (n : Int) k)) := by
                      intro p
                      induction p with
                      | zero =>
                        intro i y q1 q2 q3 q4
                        refine im_g 2 (y := (173, _, _, _)) rfl trivial ?_
                        refine im_bT rfl rfl ⟨(by omega), (by omega), trivial⟩ (by omega) ?_
                        have hI2 := TKI_s hI (x := 50) (y := y) hPk hkl (by rw [hcd, hkd, if_neg (by decide), if_pos rfl]) (q4)
                        refine im_g 9 (y := (7, _, _, _)) rfl trivial ?_
                        exact ih (to_) (n + 1) _ _ _ _ _ _ (by omega) (by omega) (by omega) (by rw [hPs, ← hto]) hI2
                      | succ p ihp =>
                        intro i y q1 q2 q3 q4
                        have hdi := hdg i q2 (by omega)
                        have hai := hA.1 i
                        have hbi := hA.2 i
                        have euy := im_up_self c10 (n : Int) y
                        refine im_g 2 (y := (173, _, _, _)) rfl trivial ?_
                        refine im_bF rfl rfl ⟨(by omega), (by omega), trivial⟩ (by omega) ?_
                        refine im_g 1 (y := (177, _, _, _)) rfl trivial ?_
                        refine im_call [] rfl rfl (r_isDigit (x := R 7 k) (by omega) hT (by have t := hA.2 (k); constructor <;> omega)) rfl rfl rfl (by decide) rfl (by decide) hT (fun v1 w1 hq => ?_)
                        obtain ⟨rfl, rfl⟩ := hq
                        refine ⟨_, _, SW v R (n : Int) (im_up c9 (n : Int) (50)) (im_up c10 (n : Int) y) (im_up c11 (n : Int) k), rfl, rfl, rfl, ?_⟩
                        refine im_bF rfl rfl ⟨(by split <;> decide), trivial⟩ (by rw [if_pos (by omega)]; decide) ?_
                        refine im_g 10 (y := (202, _, _, _)) rfl ⟨(by omega), trivial⟩ ?_
                        refine im_b rfl rfl ⟨(by first | decide | (show im_ir (im_up c10 (n : Int) y (n : Int)); rw [euy]; constructor <;> omega)), (by first | decide | (show im_ir (im_up c10 (n : Int) y (n : Int)); rw [euy]; constructor <;> omega)), trivial⟩ (fun br1 => ?_) (fun br1 => ?_)
                        · refine im_g 17 (y := (169, _, _, _)) rfl ⟨(by omega), (by omega), (by omega), trivial⟩ ?_
                          have hy1 : ¬ 1000000 < y := by have t : im_up c10 (n : Int) y (n : Int) ≤ 1000000 := br1; rw [euy] at t; omega
                          have t := ihp (i + 1) (10 * y + R 7 i - 48) (by omega) (by omega) (by omega) (by rw [← q4]; show _ = tk_n1 A p (i + 1) (if 1000000 < y then y else 10 * y + A i - 48); rw [if_neg hy1]; rw [show A i = R 7 i by omega])
                          refine im_eqs ?_ t
                          show ((169, [some (mr 0), some (.inl N), some (.inl k), some (.inl (R 7 k)), some (.inl to_), some (.inl (i + 1))], [], SW v R (n : Int) (im_up c9 (n : Int) (50)) (im_up (im_up c10 (n : Int) y) (n : Int) (10 * im_up c10 (n : Int) y (n : Int) + R 7 i - 48)) (im_up c11 (n : Int) k)) : im_S) = _
                          rw [im_up_up, euy]
                        · refine im_g 9 (y := (169, _, _, _)) rfl ⟨(by omega), (by omega), trivial⟩ ?_
                          have hy1 : 1000000 < y := by have t : ¬ im_up c10 (n : Int) y (n : Int) ≤ 1000000 := br1; rw [euy] at t; omega
                          have t := ihp (i + 1) (y) (by omega) (by omega) (by omega) (by rw [← q4]; show _ = tk_n1 A p (i + 1) (if 1000000 < y then y else 10 * y + A i - 48); rw [if_pos hy1])
                          refine im_eqs ?_ t
                          show ((169, [some (mr 0), some (.inl N), some (.inl k), some (.inl (R 7 k)), some (.inl to_), some (.inl (i + 1))], [], SW v R (n : Int) (im_up c9 (n : Int) (50)) (im_up (im_up c10 (n : Int) y) (n : Int) (im_up c10 (n : Int) y (n : Int))) (im_up c11 (n : Int) k)) : im_S) = _
                          rw [im_up_up, euy]
                    refine im_eqs (y := (169, [some (mr 0), some (.inl N), some (.inl k), some (.inl (R 7 k)), some (.inl to_), some (.inl k)], [], SW v R (n : Int) (im_up c9 (n : Int) (50)) (im_up c10 (n : Int) 0) (im_up c11 (n : Int) k))) rfl ?_
                    exact kv (to_ - k).toNat k 0 (by omega) (by omega) (by decide) (by unfold tk_val; rw [hkn, if_pos hkd, ← hto])
                  · refine im_g 4 (y := (88, _, _, _)) rfl ⟨(by omega), trivial⟩ ?_
                    refine im_call [] rfl rfl (r_isDigit (x := R 7 to_) (by omega) hT (by have t := hA.2 (to_); constructor <;> omega)) rfl rfl rfl (by decide) rfl (by decide) hT (fun v1 w1 hq => ?_)
                    obtain ⟨rfl, rfl⟩ := hq
                    refine ⟨_, _, SW v R (n : Int) c9 c10 c11, rfl, rfl, rfl, ?_⟩
                    refine im_b rfl rfl ⟨(by split <;> decide), trivial⟩ (fun br2 => ?_) (fun br2 => ?_)
                    · have c91 : ¬ (48 ≤ R 7 to_ ∧ R 7 to_ ≤ 57) := by
                        intro hh
                        rw [if_pos hh] at br2
                        exact absurd br2 (by decide)
                      clear br2
                      have hkt : ¬ tk_kd (A to_) = 2 := by unfold tk_kd; split; decide; rw [if_neg (by omega)]; decide
                      rw [if_neg (fun z => hkt z.2.2)] at h3
                      have hto := h3
                      refine im_g 17 (y := (129, _, _, _)) rfl ⟨(by omega), (by omega), trivial⟩ ?_
                      refine im_call [] rfl rfl (r_isSmall (x := R 7 k) (by omega) hT (by have t := hA.2 (k); constructor <;> omega)) rfl rfl rfl (by decide) rfl (by decide) hT (fun v1 w1 hq => ?_)
                      obtain ⟨rfl, rfl⟩ := hq
                      refine ⟨_, _, MW (pl_U v 18 (n : Int)) (pl_U (pl_U (pl_U R 9 c9) 10 (im_up c10 (n : Int) 0)) 11 (im_up c11 (n : Int) k)), rfl, rfl, rfl, ?_⟩
                      refine im_bT rfl rfl ⟨(by split <;> decide), trivial⟩ (by rw [if_neg (by omega)]) ?_
                      refine im_g 1 (y := (146, _, _, _)) rfl trivial ?_
                      refine im_call [] rfl rfl (r_isDigit (x := R 7 k) (by omega) hT (by have t := hA.2 (k); constructor <;> omega)) rfl rfl rfl (by decide) rfl (by decide) hT (fun v1 w1 hq => ?_)
                      obtain ⟨rfl, rfl⟩ := hq
                      refine ⟨_, _, MW (pl_U v 18 (n : Int)) (pl_U (pl_U (pl_U R 9 c9) 10 (im_up c10 (n : Int) 0)) 11 (im_up c11 (n : Int) k)), rfl, rfl, rfl, ?_⟩
                      refine im_bF rfl rfl ⟨(by split <;> decide), trivial⟩ (by rw [if_pos (by omega)]; decide) ?_
                      refine im_g 5 (y := (169, _, _, _)) rfl ⟨(by omega), trivial⟩ ?_
                      have hdg : ∀ i, k ≤ i → i < to_ → 48 ≤ A i ∧ A i ≤ 57 := by
                        intro i q1 q2
                        exact tk_digits (A := A) (N := N) (s := k) (by rw [hkn, hkd]) i q1 (by rw [← hto]; omega)
                      have kv : ∀ (p : Nat) (i y : Int), i + (p : Int) = to_ → k ≤ i → (0 ≤ y ∧ y ≤ 100000000) → tk_n1 A p i y = tk_val A N k → im_wp ro (ab_Ev ro ab_codes d) 9 none ab_k_X9_splits 24 T (fun r w => r = none ∧ ∃ c9 c10 c11, w = SW v R (tk_nt A N) c9 c10 c11 ∧ TKS A N (pl_U (pl_U (pl_U R 9 c9) 10 c10) 11 c11)) (169, [some (mr 0), some (.inl N), some (.inl k), some (.inl (R 7 k)), some (.inl to_), some (.inl i)], [], SW v R (n : Int) (im_up c9 (n : Int) (50)) (im_up c10 (n : Int) y) (im_up c11 (n : Int) k)) := by
                        intro p
                        induction p with
                        | zero =>
                          intro i y q1 q2 q3 q4
                          refine im_g 2 (y := (173, _, _, _)) rfl trivial ?_
                          refine im_bT rfl rfl ⟨(by omega), (by omega), trivial⟩ (by omega) ?_
                          have hI2 := TKI_s hI (x := 50) (y := y) hPk hkl (by rw [hcd, hkd, if_neg (by decide), if_pos rfl]) (q4)
                          refine im_g 9 (y := (7, _, _, _)) rfl trivial ?_
                          exact ih (to_) (n + 1) _ _ _ _ _ _ (by omega) (by omega) (by omega) (by rw [hPs, ← hto]) hI2
                        | succ p ihp =>
                          intro i y q1 q2 q3 q4
                          have hdi := hdg i q2 (by omega)
                          have hai := hA.1 i
                          have hbi := hA.2 i
                          have euy := im_up_self c10 (n : Int) y
                          refine im_g 2 (y := (173, _, _, _)) rfl trivial ?_
                          refine im_bF rfl rfl ⟨(by omega), (by omega), trivial⟩ (by omega) ?_
                          refine im_g 1 (y := (177, _, _, _)) rfl trivial ?_
                          refine im_call [] rfl rfl (r_isDigit (x := R 7 k) (by omega) hT (by have t := hA.2 (k); constructor <;> omega)) rfl rfl rfl (by decide) rfl (by decide) hT (fun v1 w1 hq => ?_)
                          obtain ⟨rfl, rfl⟩ := hq
                          refine ⟨_, _, SW v R (n : Int) (im_up c9 (n : Int) (50)) (im_up c10 (n : Int) y) (im_up c11 (n : Int) k), rfl, rfl, rfl, ?_⟩
                          refine im_bF rfl rfl ⟨(by split <;> decide), trivial⟩ (by rw [if_pos (by omega)]; decide) ?_
                          refine im_g 10 (y := (202, _, _, _)) rfl ⟨(by omega), trivial⟩ ?_
                          refine im_b rfl rfl ⟨(by first | decide | (show im_ir (im_up c10 (n : Int) y (n : Int)); rw [euy]; constructor <;> omega)), (by first | decide | (show im_ir (im_up c10 (n : Int) y (n : Int)); rw [euy]; constructor <;> omega)), trivial⟩ (fun br1 => ?_) (fun br1 => ?_)
                          · refine im_g 17 (y := (169, _, _, _)) rfl ⟨(by omega), (by omega), (by omega), trivial⟩ ?_
                            have hy1 : ¬ 1000000 < y := by have t : im_up c10 (n : Int) y (n : Int) ≤ 1000000 := br1; rw [euy] at t; omega
                            have t := ihp (i + 1) (10 * y + R 7 i - 48) (by omega) (by omega) (by omega) (by rw [← q4]; show _ = tk_n1 A p (i + 1) (if 1000000 < y then y else 10 * y + A i - 48); rw [if_neg hy1]; rw [show A i = R 7 i by omega])
                            refine im_eqs ?_ t
                            show ((169, [some (mr 0), some (.inl N), some (.inl k), some (.inl (R 7 k)), some (.inl to_), some (.inl (i + 1))], [], SW v R (n : Int) (im_up c9 (n : Int) (50)) (im_up (im_up c10 (n : Int) y) (n : Int) (10 * im_up c10 (n : Int) y (n : Int) + R 7 i - 48)) (im_up c11 (n : Int) k)) : im_S) = _
                            rw [im_up_up, euy]
                          · refine im_g 9 (y := (169, _, _, _)) rfl ⟨(by omega), (by omega), trivial⟩ ?_
                            have hy1 : 1000000 < y := by have t : ¬ im_up c10 (n : Int) y (n : Int) ≤ 1000000 := br1; rw [euy] at t; omega
                            have t := ihp (i + 1) (y) (by omega) (by omega) (by omega) (by rw [← q4]; show _ = tk_n1 A p (i + 1) (if 1000000 < y then y else 10 * y + A i - 48); rw [if_pos hy1])
                            refine im_eqs ?_ t
                            show ((169, [some (mr 0), some (.inl N), some (.inl k), some (.inl (R 7 k)), some (.inl to_), some (.inl (i + 1))], [], SW v R (n : Int) (im_up c9 (n : Int) (50)) (im_up (im_up c10 (n : Int) y) (n : Int) (im_up c10 (n : Int) y (n : Int))) (im_up c11 (n : Int) k)) : im_S) = _
                            rw [im_up_up, euy]
                      refine im_eqs (y := (169, [some (mr 0), some (.inl N), some (.inl k), some (.inl (R 7 k)), some (.inl to_), some (.inl k)], [], SW v R (n : Int) (im_up c9 (n : Int) (50)) (im_up c10 (n : Int) 0) (im_up c11 (n : Int) k))) rfl ?_
                      exact kv (to_ - k).toNat k 0 (by omega) (by omega) (by decide) (by unfold tk_val; rw [hkn, if_pos hkd, ← hto])
                    · have c91 : 48 ≤ R 7 to_ ∧ R 7 to_ ≤ 57 := by
                        by_cases hh : 48 ≤ R 7 to_ ∧ R 7 to_ ≤ 57
                        · exact hh
                        · rw [if_neg hh] at br2; exact absurd rfl br2
                      clear br2
                      refine im_g 2 (y := (75, _, _, _)) rfl trivial ?_
                      have hkt : tk_kd (A to_) = 2 := by unfold tk_kd; rw [if_neg (by omega), if_pos (by omega)]
                      rw [if_pos ⟨by omega, by decide, hkt⟩] at h3
                      exact ihp (to_ + 1) (by omega) (by omega) h3
              exact ke 401 (k + 1) (by omega) (by omega) (by rw [hen, hkd])
          · have c40 : 97 ≤ R 7 k ∧ R 7 k ≤ 122 := by
              by_cases hh : 97 ≤ R 7 k ∧ R 7 k ≤ 122
              · exact hh
              · rw [if_neg hh] at br1; exact absurd rfl br1
            clear br1
            have hkd : tk_kd (A k) = 1 := by unfold tk_kd; rw [if_pos (by omega)]
            have ke : ∀ (p : Nat) (to_ : Int), N - to_ < p → (k < to_ ∧ to_ ≤ N) → tk_ext A N 1 p to_ = tk_end A N k → im_wp ro (ab_Ev ro ab_codes d) 9 none ab_k_X9_splits 24 T (fun r w => r = none ∧ ∃ c9 c10 c11, w = SW v R (tk_nt A N) c9 c10 c11 ∧ TKS A N (pl_U (pl_U (pl_U R 9 c9) 10 c10) 11 c11)) (43, [some (mr 0), some (.inl N), some (.inl k), some (.inl (R 7 k)), some (.inl to_), x5], [], SW v R (n : Int) c9 c10 c11) := by
              intro p
              induction p with
              | zero => intro to_ h1 h2; omega
              | succ p ihp =>
                intro to_ h1 h2 h3
                have hat := hA.1 to_
                have hbt := hA.2 to_
                unfold tk_ext at h3
                refine im_g 2 (y := (46, _, _, _)) rfl trivial ?_
                refine im_b rfl rfl ⟨(by omega), (by omega), trivial⟩ (fun br1 => ?_) (fun br1 => ?_)
                · rw [if_neg (fun z => absurd z.1 (by omega))] at h3
                  have hto := h3
                  refine im_g 1 (y := (69, _, _, _)) rfl trivial ?_
                  refine im_call [] rfl rfl (r_isDigit (x := R 7 k) (by omega) hT (by have t := hA.2 (k); constructor <;> omega)) rfl rfl rfl (by decide) rfl (by decide) hT (fun v1 w1 hq => ?_)
                  obtain ⟨rfl, rfl⟩ := hq
                  refine ⟨_, _, SW v R (n : Int) c9 c10 c11, rfl, rfl, rfl, ?_⟩
                  refine im_bT rfl rfl ⟨(by split <;> decide), trivial⟩ (by rw [if_neg (by omega)]) ?_
                  refine im_g 17 (y := (129, _, _, _)) rfl ⟨(by omega), (by omega), trivial⟩ ?_
                  refine im_call [] rfl rfl (r_isSmall (x := R 7 k) (by omega) hT (by have t := hA.2 (k); constructor <;> omega)) rfl rfl rfl (by decide) rfl (by decide) hT (fun v1 w1 hq => ?_)
                  obtain ⟨rfl, rfl⟩ := hq
                  refine ⟨_, _, MW (pl_U v 18 (n : Int)) (pl_U (pl_U (pl_U R 9 c9) 10 (im_up c10 (n : Int) 0)) 11 (im_up c11 (n : Int) k)), rfl, rfl, rfl, ?_⟩
                  refine im_bF rfl rfl ⟨(by split <;> decide), trivial⟩ (by rw [if_pos (by omega)]; decide) ?_
                  refine im_g 3 (y := (139, _, _, _)) rfl trivial ?_
                  refine im_cM rfl rfl (r_wordOf (v := pl_U v 18 (n : Int)) (R := (pl_U (pl_U (pl_U R 9 c9) 10 (im_up c10 (n : Int) 0)) 11 (im_up c11 (n : Int) k))) (A := A) (by omega) hT (show TA A (pl_U (pl_U (pl_U R 9 c9) 10 (im_up c10 (n : Int) 0)) 11 (im_up c11 (n : Int) k)) from hA) (show WL ((pl_U (pl_U (pl_U R 9 c9) 10 (im_up c10 (n : Int) 0)) 11 (im_up c11 (n : Int) k)) 6) 0 tk_words from hW) (a := k) (to_ := to_) (by omega)) rfl hT (fun v1 w1 hq => ?_)
                  obtain ⟨rfl, rfl⟩ := hq
                  refine ⟨(pl_U v 18 (n : Int)), (pl_U (pl_U (pl_U R 9 c9) 10 (im_up c10 (n : Int) 0)) 11 (im_up c11 (n : Int) k)), rfl, rfl, ?_⟩
                  refine im_g 4 (y := (169, _, _, _)) rfl ⟨(by omega), trivial⟩ ?_
                  refine im_eqs (y := (169, [some (mr 0), some (.inl N), some (.inl k), some (.inl (R 7 k)), some (.inl (to_)), some (.inl k)], [], SW v R (n : Int) (im_up c9 (n : Int) (tk_find (tk_seg A k (to_ - k).toNat) tk_words 1)) (im_up c10 (n : Int) 0) (im_up c11 (n : Int) k))) rfl ?_
                  refine im_g 2 (y := (173, _, _, _)) rfl trivial ?_
                  refine im_bF rfl rfl ⟨(by omega), (by omega), trivial⟩ (by omega) ?_
                  refine im_g 1 (y := (177, _, _, _)) rfl trivial ?_
                  refine im_call [] rfl rfl (r_isDigit (x := R 7 k) (by omega) hT (by have t := hA.2 (k); constructor <;> omega)) rfl rfl rfl (by decide) rfl (by decide) hT (fun v1 w1 hq => ?_)
                  obtain ⟨rfl, rfl⟩ := hq
                  refine ⟨_, _, SW v R (n : Int) (im_up c9 (n : Int) (tk_find (tk_seg A k (to_ - k).toNat) tk_words 1)) (im_up c10 (n : Int) 0) (im_up c11 (n : Int) k), rfl, rfl, rfl, ?_⟩
                  refine im_bT rfl rfl ⟨(by split <;> decide), trivial⟩ (by rw [if_neg (by omega)]) ?_
                  refine im_eqs (y := (247, [some (mr 0), some (.inl N), some (.inl k), some (.inl (R 7 k)), some (.inl (to_)), some (.inl k)], [], SW v R (n : Int) (im_up c9 (n : Int) (tk_find (tk_seg A k (to_ - k).toNat) tk_words 1)) (im_up c10 (n : Int) 0) (im_up c11 (n : Int) k))) rfl ?_
                  have hI2 := TKI_s hI (x := tk_find (tk_seg A k (to_ - k).toNat) tk_words 1) (y := 0) hPk hkl (by rw [hcd, if_pos hkd, ← hto]) (by unfold tk_val; rw [hkn, if_neg (by omega)])
                  refine im_g 9 (y := (7, _, _, _)) rfl trivial ?_
                  exact ih (to_) (n + 1) _ _ _ _ _ _ (by omega) (by omega) (by omega) (by rw [hPs, ← hto]) hI2
                · refine im_g 4 (y := (56, _, _, _)) rfl ⟨(by omega), trivial⟩ ?_
                  refine im_call [] rfl rfl (r_isSmall (x := R 7 to_) (by omega) hT (by have t := hA.2 (to_); constructor <;> omega)) rfl rfl rfl (by decide) rfl (by decide) hT (fun v1 w1 hq => ?_)
                  obtain ⟨rfl, rfl⟩ := hq
                  refine ⟨_, _, SW v R (n : Int) c9 c10 c11, rfl, rfl, rfl, ?_⟩
                  refine im_b rfl rfl ⟨(by split <;> decide), trivial⟩ (fun br2 => ?_) (fun br2 => ?_)
                  · have c59 : ¬ (97 ≤ R 7 to_ ∧ R 7 to_ ≤ 122) := by
                      intro hh
                      rw [if_pos hh] at br2
                      exact absurd br2 (by decide)
                    clear br2
                    have hkt : ¬ tk_kd (A to_) = 1 := by unfold tk_kd; rw [if_neg (by omega)]; split <;> decide
                    rw [if_neg (fun z => hkt z.2.2)] at h3
                    have hto := h3
                    refine im_g 1 (y := (69, _, _, _)) rfl trivial ?_
                    refine im_call [] rfl rfl (r_isDigit (x := R 7 k) (by omega) hT (by have t := hA.2 (k); constructor <;> omega)) rfl rfl rfl (by decide) rfl (by decide) hT (fun v1 w1 hq => ?_)
                    obtain ⟨rfl, rfl⟩ := hq
                    refine ⟨_, _, SW v R (n : Int) c9 c10 c11, rfl, rfl, rfl, ?_⟩
                    refine im_bT rfl rfl ⟨(by split <;> decide), trivial⟩ (by rw [if_neg (by omega)]) ?_
                    refine im_g 17 (y := (129, _, _, _)) rfl ⟨(by omega), (by omega), trivial⟩ ?_
                    refine im_call [] rfl rfl (r_isSmall (x := R 7 k) (by omega) hT (by have t := hA.2 (k); constructor <;> omega)) rfl rfl rfl (by decide) rfl (by decide) hT (fun v1 w1 hq => ?_)
                    obtain ⟨rfl, rfl⟩ := hq
                    refine ⟨_, _, MW (pl_U v 18 (n : Int)) (pl_U (pl_U (pl_U R 9 c9) 10 (im_up c10 (n : Int) 0)) 11 (im_up c11 (n : Int) k)), rfl, rfl, rfl, ?_⟩
                    refine im_bF rfl rfl ⟨(by split <;> decide), trivial⟩ (by rw [if_pos (by omega)]; decide) ?_
                    refine im_g 3 (y := (139, _, _, _)) rfl trivial ?_
                    refine im_cM rfl rfl (r_wordOf (v := pl_U v 18 (n : Int)) (R := (pl_U (pl_U (pl_U R 9 c9) 10 (im_up c10 (n : Int) 0)) 11 (im_up c11 (n : Int) k))) (A := A) (by omega) hT (show TA A (pl_U (pl_U (pl_U R 9 c9) 10 (im_up c10 (n : Int) 0)) 11 (im_up c11 (n : Int) k)) from hA) (show WL ((pl_U (pl_U (pl_U R 9 c9) 10 (im_up c10 (n : Int) 0)) 11 (im_up c11 (n : Int) k)) 6) 0 tk_words from hW) (a := k) (to_ := to_) (by omega)) rfl hT (fun v1 w1 hq => ?_)
                    obtain ⟨rfl, rfl⟩ := hq
                    refine ⟨(pl_U v 18 (n : Int)), (pl_U (pl_U (pl_U R 9 c9) 10 (im_up c10 (n : Int) 0)) 11 (im_up c11 (n : Int) k)), rfl, rfl, ?_⟩
                    refine im_g 4 (y := (169, _, _, _)) rfl ⟨(by omega), trivial⟩ ?_
                    refine im_eqs (y := (169, [some (mr 0), some (.inl N), some (.inl k), some (.inl (R 7 k)), some (.inl (to_)), some (.inl k)], [], SW v R (n : Int) (im_up c9 (n : Int) (tk_find (tk_seg A k (to_ - k).toNat) tk_words 1)) (im_up c10 (n : Int) 0) (im_up c11 (n : Int) k))) rfl ?_
                    refine im_g 2 (y := (173, _, _, _)) rfl trivial ?_
                    refine im_bF rfl rfl ⟨(by omega), (by omega), trivial⟩ (by omega) ?_
                    refine im_g 1 (y := (177, _, _, _)) rfl trivial ?_
                    refine im_call [] rfl rfl (r_isDigit (x := R 7 k) (by omega) hT (by have t := hA.2 (k); constructor <;> omega)) rfl rfl rfl (by decide) rfl (by decide) hT (fun v1 w1 hq => ?_)
                    obtain ⟨rfl, rfl⟩ := hq
                    refine ⟨_, _, SW v R (n : Int) (im_up c9 (n : Int) (tk_find (tk_seg A k (to_ - k).toNat) tk_words 1)) (im_up c10 (n : Int) 0) (im_up c11 (n : Int) k), rfl, rfl, rfl, ?_⟩
                    refine im_bT rfl rfl ⟨(by split <;> decide), trivial⟩ (by rw [if_neg (by omega)]) ?_
                    refine im_eqs (y := (247, [some (mr 0), some (.inl N), some (.inl k), some (.inl (R 7 k)), some (.inl (to_)), some (.inl k)], [], SW v R (n : Int) (im_up c9 (n : Int) (tk_find (tk_seg A k (to_ - k).toNat) tk_words 1)) (im_up c10 (n : Int) 0) (im_up c11 (n : Int) k))) rfl ?_
                    have hI2 := TKI_s hI (x := tk_find (tk_seg A k (to_ - k).toNat) tk_words 1) (y := 0) hPk hkl (by rw [hcd, if_pos hkd, ← hto]) (by unfold tk_val; rw [hkn, if_neg (by omega)])
                    refine im_g 9 (y := (7, _, _, _)) rfl trivial ?_
                    exact ih (to_) (n + 1) _ _ _ _ _ _ (by omega) (by omega) (by omega) (by rw [hPs, ← hto]) hI2
                  · have c59 : 97 ≤ R 7 to_ ∧ R 7 to_ ≤ 122 := by
                      by_cases hh : 97 ≤ R 7 to_ ∧ R 7 to_ ≤ 122
                      · exact hh
                      · rw [if_neg hh] at br2; exact absurd rfl br2
                    clear br2
                    refine im_g 2 (y := (43, _, _, _)) rfl trivial ?_
                    have hkt : tk_kd (A to_) = 1 := by unfold tk_kd; rw [if_pos (by omega)]
                    rw [if_pos ⟨by omega, by decide, hkt⟩] at h3
                    exact ihp (to_ + 1) (by omega) (by omega) h3
            exact ke 401 (k + 1) (by omega) (by omega) (by rw [hen, hkd])
        · refine im_g 2 (y := (7, _, _, _)) rfl trivial ?_
          have hb : R 7 k = 32 := Classical.not_not.mp br2
          have hA32 : A k = 32 := by rw [hA.1 k, hb]; decide
          exact ih (k + 1) n c9 c10 c11 _ _ _ (by omega) (by omega) (by omega) (by rw [← tk_skip_blank hN.2 (by omega) hA32]; exact hs) hI
  refine im_eqs (y := (7, [some (mr 0), some (.inl N), some (.inl 0), none, none, none], [], SW v R ((0 : Nat) : Int) (R 9) (R 10) (R 11))) ?_ ?_
  · show ((7, [some (mr 0), some (.inl N), some (.inl 0), none, none, none], [], MW (pl_U v 18 0) R) : im_S) = (7, [some (mr 0), some (.inl N), some (.inl 0), none, none, none], [], MW (pl_U v 18 0) (pl_U (pl_U (pl_U R 9 (R 9)) 10 (R 10)) 11 (R 11)))
    rfl
  exact key 401 0 0 _ _ _ none none none (by omega) (by omega) (by omega) rfl (fun j hj => absurd hj (Nat.not_lt_zero j))
end Tp
