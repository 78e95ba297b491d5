/-! the reader reads: walked -/
def RdS (od : Bool) (A : Int → Int) (N i l : Int) (u : Int × Int × Int) (c : Int → Int) (q : Nat → Int) : Prop := (q 0 = N ∧ q 6 = e_bi od ∧ q 4 = l ∧ (0 ≤ l ∧ l ≤ 50)) ∧ RSt A q i ∧ TS u c
theorem RdP_S {od : Bool} {A : Int → Int} {N i0 need j l : Int} {m : dM} {u0 u : Int × Int × Int} {c0 c : Int → Int} {q : Nat → Int} (h : RdP od A N i0 u0 c0 need (.inr (j, l, m)) q u c) : RdS od A N j l u c q := by
  obtain ⟨h1, h2, h3, ⟨h4, h5⟩, -⟩ := h
  exact ⟨⟨h1.1, h1.2.1, h5, by omega⟩, h4, h2⟩
theorem RdS_next {od : Bool} {A : Int → Int} {N i l : Int} {u : Int × Int × Int} {c : Int → Int} {q : Nat → Int} (h : RdS od A N i l u c q) : RdS od A N (i + 1) l u c (rd_next A q) := ⟨h.1, RSt_next h.2.1, h.2.2⟩
theorem RdS_fail {od : Bool} {A : Int → Int} {N i l i0 need : Int} {u u0 : Int × Int × Int} {c c0 : Int → Int} {q : Nat → Int} (h : RdS od A N i l u c q) (hu : u.2.1 = u0.2.1) : RdP od A N i0 u0 c0 need (.inl i) (rd_fail q) u c := by
  obtain ⟨⟨h1, h2, h3, h4⟩, h5, h6⟩ := h
  have t := RDd_fail h5
  rw [h1] at t
  exact ⟨⟨h1, h2, by show 0 ≤ q 4 ∧ q 4 ≤ 50; omega⟩, h6, hu, t⟩
theorem RdP_D {od : Bool} {A : Int → Int} {N i0 need f : Int} {u0 u : Int × Int × Int} {c0 c : Int → Int} {q : Nat → Int} (h : RdP od A N i0 u0 c0 need (.inl f) q u c) : RDd q (tk_Q A N f) := h.2.2.2
theorem d_wi_f {c : Int} (h : 9 ≤ c ∧ c ≤ 16) : 0 ≤ d_wi false c ∧ d_wi false c < 8 := by
  have hc : c = 9 ∨ c = 10 ∨ c = 11 ∨ c = 12 ∨ c = 13 ∨ c = 14 ∨ c = 15 ∨ c = 16 := by omega
  rcases hc with rfl | rfl | rfl | rfl | rfl | rfl | rfl | rfl <;> decide
theorem d_wi_t {c : Int} (h : 14 ≤ c ∧ c ≤ 20) : (c = 14 ∧ d_wi true c = 5) ∨ (c = 15 ∧ d_wi true c = 15) ∨ (16 ≤ c ∧ d_wi true c = c - 16) := by
  have hc : c = 14 ∨ c = 15 ∨ c = 16 ∨ c = 17 ∨ c = 18 ∨ c = 19 ∨ c = 20 := by omega
  rcases hc with rfl | rfl | rfl | rfl | rfl | rfl | rfl <;> decide
theorem DPm_wd_f (k u : Int) : DPm false (d_wd k) u := fun h => nomatch h
theorem DPm_wd_lo {k u : Int} (h : 0 ≤ k ∧ k < 15) : DPm true (d_wd k) u := fun _ e e' h1 _ => by show some (e k) = some (e' k); rw [h1 k h.1 h.2]
theorem DPm_wd_hi {p u : Int} (h : 0 ≤ p ∧ p < 10) (hb : BT u p) : DPm true (d_wd (15 + p)) u := fun _ e e' _ h2 => by show some (e (15 + p)) = some (e' (15 + p)); rw [h2 p h.1 h.2 hb]
def RdM (ro : ab_R) (T : List im_T) (n k jx : Nat) (rk nd : Int) : Prop := ∀ (d : Nat) (od : Bool) (q : Nat → Int) (A : Int → Int) (N : Int) (u : Int × Int × Int) (c kk : Int → Int) (o i l : Int) (res : dR), tk_ok A → RdS od A N i l u c q → (0 ≤ o ∧ o ≤ 8) → 8 * (8 - o) + rk ≤ (d : Int) → i ≤ tk_nt A N → u.1 + (tk_nt A N - i) ≤ 436 → dn od (tk_C A N) (tk_X A N) n k o i l d_0 = some res → im_ct ro T d jx [mr 0, .inl o] (RW 0 q A u c kk) (fun r w => r = none ∧ ∃ q' u' c', w = RW 0 q' A u' c' kk ∧ RdP od A N i u c (3 * (8 - o) + nd) res q' u' c')
def RdR (ro : ab_R) (T : List im_T) (n k : Nat) (code : ab_C) (rk nd : Int) : Prop := ∀ (d : Nat) (od : Bool) (q : Nat → Int) (A : Int → Int) (N i0 : Int) (u0 u : Int × Int × Int) (c0 c kk : Int → Int) (o i l ci : Int) (a : dM) (res : dR) (x3 : Option im_V), tk_ok A → RdP od A N i0 u0 c0 (3 * (8 - o) + nd) (.inr (i, l, a)) q u c → 0 ≤ u0.1 → (0 ≤ o ∧ o ≤ 8) → 8 * (8 - o) + rk ≤ (d : Int) → i ≤ tk_nt A N → u0.1 + (tk_nt A N - i0) ≤ 436 → (0 ≤ ci ∧ ci ≤ i) → dn od (tk_C A N) (tk_X A N) n k o i l a = some res → im_wp ro (ab_Ev ro ab_codes d) 5 none code 5 T (fun r w => r = none ∧ ∃ q' u' c', w = RW 0 q' A u' c' kk ∧ RdP od A N i0 u0 c0 (3 * (8 - o) + nd) res q' u' c') (7, [some (mr 0), some (.inl o), some (.inl ci), x3], [], RW 0 q A u c kk)
theorem RdS_N {od : Bool} {A : Int → Int} {N i l : Int} {u : Int × Int × Int} {c : Int → Int} {q : Nat → Int} (h : RdS od A N i l u c q) : 0 ≤ N ∧ N ≤ 400 := by
  obtain ⟨⟨h1, -⟩, h2, -⟩ := h
  have := h2.1
  omega
theorem dn_nt {od : Bool} {A : Int → Int} {N : Int} (hN : 0 ≤ N ∧ N ≤ 400) {n k : Nat} {o i l j l' : Int} {a m : dM} (hk : k ≤ 10) (hi : i ≤ tk_nt A N) (h : dn od (tk_C A N) (tk_X A N) n k o i l a = some (.inr (j, l', m))) : i ≤ j ∧ j ≤ tk_nt A N := ⟨(dn_ge n k o i l a j l' m hk h).1, dn_le (tk_C_end hN) n k o i l a j l' m hk hi h⟩
theorem tk_lt {A : Int → Int} {N : Int} (hN : 0 ≤ N ∧ N ≤ 400) {i : Int} (h : ¬ tk_C A N i = 0) : i + 1 ≤ tk_nt A N := by
  by_cases e : tk_nt A N ≤ i
  · exact absurd (tk_C_end hN i e) h
  · omega
section Rd
variable {ro : ab_R} {T : List im_T} {d : Nat} {q : Nat → Int} {A c k : Int → Int} {u : Int × Int × Int} {od : Bool} {N i l : Int}
set_option maxHeartbeats 8000000 in
theorem c_emit (hd : 1 ≤ d) (hT : T.length < 1000) (hu : TS u c) {wt x : Int} (hx : 0 ≤ x ∧ x ≤ 5000) (hw : 0 ≤ wt ∧ wt ≤ 15) : im_ct ro T d 66 [mr 0, .inl wt, .inl x] (RW 0 q A u c k) (fun r w => r = some (.inl u.1) ∧ w = RW 0 q A (rd_emu u) (rd_emc u c wt x) k) := by
  obtain ⟨d, rfl⟩ : ∃ e, d = e + 1 := ⟨d - 1, by omega⟩
  refine im_ct_of (own := 5) (ret := (some .int)) (code := ab_k_X5_emit) (nL := 4) (L0 := [some (mr 0), some (.inl wt), some (.inl x), none]) (n := 5) rfl rfl rfl rfl rfl rfl rfl rfl rfl ?_
  have hu1 := hu.1
  refine im_g 9 (y := (17, _, _, _)) rfl trivial ?_
  refine im_b rfl rfl ⟨(by omega), (by omega), trivial⟩ (fun br1 => ?_) (fun br1 => ?_)
  · refine im_g 1 (y := (48, _, _, _)) rfl trivial ?_
    refine im_r rfl rfl trivial rfl ?_
    unfold rd_emu rd_emc
    rw [if_neg (by omega), if_neg (by omega)]
    exact ⟨rfl, rfl⟩
  · refine im_g 18 (y := (48, _, _, _)) rfl ⟨(by omega), trivial⟩ ?_
    refine im_r rfl rfl trivial rfl ?_
    unfold rd_emu rd_emc
    rw [if_pos (by omega), if_pos (by omega), ← im_code hx hw]
    exact ⟨rfl, rfl⟩
set_option maxHeartbeats 8000000 in
theorem c_aim (hd : 1 ≤ d) (hT : T.length < 1000) (hu : TS u c) {s : Int} (hs : -1 ≤ s ∧ s ≤ 1000) : im_ct ro T d 67 [mr 0, .inl s] (RW 0 q A u c k) (fun r w => r = none ∧ w = RW 0 q A u (rd_aim u c s) k) := by
  obtain ⟨d, rfl⟩ : ∃ e, d = e + 1 := ⟨d - 1, by omega⟩
  refine im_ct_of (own := 5) (ret := none) (code := ab_k_X5_aim) (nL := 2) (L0 := [some (mr 0), some (.inl s)]) (n := 5) rfl rfl rfl rfl rfl rfl rfl rfl rfl ?_
  have hu1 := hu.1
  have h15 := im_and15 (c s)
  refine im_g 1 (y := (1, _, _, _)) rfl trivial ?_
  refine im_b rfl rfl ⟨(by omega), trivial⟩ (fun br1 => ?_) (fun br1 => ?_)
  · refine im_r rfl rfl trivial rfl ?_
    unfold rd_aim
    rw [if_neg (by omega)]
    exact ⟨rfl, rfl⟩
  · refine im_g 5 (y := (13, _, _, _)) rfl trivial ?_
    refine im_b rfl rfl ⟨(by omega), (by omega), trivial⟩ (fun br2 => ?_) (fun br2 => ?_)
    · refine im_r rfl rfl trivial rfl ?_
      unfold rd_aim
      rw [if_neg (by omega)]
      exact ⟨rfl, rfl⟩
    · refine im_g 18 (y := (47, _, _, _)) rfl ⟨(by omega), (by omega), trivial⟩ ?_
      refine im_r rfl rfl trivial rfl ?_
      unfold rd_aim
      rw [if_pos (by omega), ← im_code (x := u.1) (w := c s % 16) (by omega) (by omega), ← h15]
      exact ⟨rfl, rfl⟩
set_option maxHeartbeats 8000000 in
theorem c_enterN (hd : 2 ≤ d) (hT : T.length < 1000) (h : RSt A q i) {o : Int} (ho : o = 8) : im_ct ro T d 58 [mr 0, .inl o] (RW 0 q A u c k) (fun r w => r = some (.inl 0) ∧ w = RW 0 (rd_fail q) A u c k) := by
  obtain ⟨d, rfl⟩ : ∃ e, d = e + 1 := ⟨d - 1, by omega⟩
  refine im_ct_of (own := 5) (ret := (some .boolean)) (code := ab_k_X5_enter) (nL := 2) (L0 := [some (mr 0), some (.inl o)]) (n := 5) rfl rfl rfl rfl rfl rfl rfl rfl rfl ?_
  refine im_g 2 (y := (3, _, _, _)) rfl trivial ?_
  refine im_bF rfl rfl ⟨(by omega), (by omega), trivial⟩ (by omega) ?_
  refine im_g 1 (y := (7, _, _, _)) rfl trivial ?_
  refine im_call [0,1,2,3,4] rfl rfl (c_fail (q := q) (A := A) (u := u) (c := c) (k := k) (by omega) hT (by rw [h.2.2.2.2.2]; decide)) rfl rfl rfl (by decide) rfl (by decide) hT (fun v1 w1 hq => ?_)
  obtain ⟨rfl, rfl⟩ := hq
  refine ⟨_, _, RW 0 (rd_fail q) A u c k, rfl, rfl, rfl, ?_⟩
  refine im_g 1 (y := (11, _, _, _)) rfl trivial ?_
  refine im_r rfl rfl ⟨(by decide), trivial⟩ rfl ?_
  exact ⟨rfl, rfl⟩
set_option maxHeartbeats 8000000 in
theorem c_enterY (hd : 3 ≤ d) (hT : T.length < 1000) (hA : tk_ok A) (h : RSt A q i) {o : Int} (ho : 0 ≤ o ∧ o < 8) : im_ct ro T d 58 [mr 0, .inl o] (RW 0 q A u c k) (fun r w => r = some (.inl 1) ∧ w = RW 0 (rd_next A q) A u c k) := by
  obtain ⟨d, rfl⟩ : ∃ e, d = e + 1 := ⟨d - 1, by omega⟩
  refine im_ct_of (own := 5) (ret := (some .boolean)) (code := ab_k_X5_enter) (nL := 2) (L0 := [some (mr 0), some (.inl o)]) (n := 5) rfl rfl rfl rfl rfl rfl rfl rfl rfl ?_
  refine im_g 2 (y := (3, _, _, _)) rfl trivial ?_
  refine im_bT rfl rfl ⟨(by omega), (by omega), trivial⟩ (by omega) ?_
  refine im_g 1 (y := (13, _, _, _)) rfl trivial ?_
  refine im_call [0,1,2,3,4] rfl rfl (c_step (q := q) (A := A) (u := u) (c := c) (k := k) (by omega) hT hA h) rfl rfl rfl (by decide) rfl (by decide) hT (fun v1 w1 hq => ?_)
  obtain ⟨rfl, rfl⟩ := hq
  refine ⟨_, _, RW 0 (rd_next A q) A u c k, rfl, rfl, rfl, ?_⟩
  refine im_g 1 (y := (17, _, _, _)) rfl trivial ?_
  refine im_r rfl rfl ⟨(by decide), trivial⟩ rfl ?_
  exact ⟨rfl, rfl⟩
theorem w_sign (hd : 1 ≤ d) (hT : T.length < 1000) (hA : tk_ok A) (h : RdS od A N i l u c q) {b : Int} (hb : 0 ≤ b ∧ b ≤ 255) : im_ct ro T d 64 [mr 0, .inl b] (RW 0 q A u c k) (fun r w => r = some (.inl (if tk_C A N i = 100 + b then 1 else 0)) ∧ w = RW 0 q A u c k) := by
  have e := h.1.1
  subst e
  exact c_isSign hd hT hA h.2.1 hb
theorem w_number (hd : 1 ≤ d) (hT : T.length < 1000) (hA : tk_ok A) (h : RdS od A N i l u c q) : im_ct ro T d 65 [mr 0] (RW 0 q A u c k) (fun r w => ∃ nv, r = some (.inl nv) ∧ w = RW 0 q A u c k ∧ ((tk_C A N i = 50 ∧ nv = min 1001 (tk_X A N i)) ∨ (¬ tk_C A N i = 50 ∧ nv = -1))) := by
  have e := h.1.1
  subst e
  refine im_ct_mono (c_number hd hT hA h.2.1) (fun r w hr => ?_)
  obtain ⟨rfl, rfl⟩ := hr
  by_cases e : tk_C A (q 0) i = 50
  · rw [if_pos e]; exact ⟨_, rfl, rfl, Or.inl ⟨e, rfl⟩⟩
  · rw [if_neg e]; exact ⟨_, rfl, rfl, Or.inr ⟨e, rfl⟩⟩
theorem w_is_tens (hd : 1 ≤ d) (hT : T.length < 1000) (hA : tk_ok A) (h : RdS od A N i l u c q) : im_ct ro T d 63 [mr 0, mr 2000023] (RW 0 q A u c k) (fun r w => r = some (.inl (if tk_C A N i = 1 then 1 else 0)) ∧ w = RW 0 q A u c k) := by
  have e := h.1.1
  subst e
  exact c_is_tens hd hT hA h.2.1
theorem w_is_stays (hd : 1 ≤ d) (hT : T.length < 1000) (hA : tk_ok A) (h : RdS od A N i l u c q) : im_ct ro T d 63 [mr 0, mr 2000024] (RW 0 q A u c k) (fun r w => r = some (.inl (if tk_C A N i = 2 then 1 else 0)) ∧ w = RW 0 q A u c k) := by
  have e := h.1.1
  subst e
  exact c_is_stays hd hT hA h.2.1
theorem w_is_steps (hd : 1 ≤ d) (hT : T.length < 1000) (hA : tk_ok A) (h : RdS od A N i l u c q) : im_ct ro T d 63 [mr 0, mr 2000025] (RW 0 q A u c k) (fun r w => r = some (.inl (if tk_C A N i = 3 then 1 else 0)) ∧ w = RW 0 q A u c k) := by
  have e := h.1.1
  subst e
  exact c_is_steps hd hT hA h.2.1
theorem w_is_bars (hd : 1 ≤ d) (hT : T.length < 1000) (hA : tk_ok A) (h : RdS od A N i l u c q) : im_ct ro T d 63 [mr 0, mr 2000026] (RW 0 q A u c k) (fun r w => r = some (.inl (if tk_C A N i = 4 then 1 else 0)) ∧ w = RW 0 q A u c k) := by
  have e := h.1.1
  subst e
  exact c_is_bars hd hT hA h.2.1
theorem w_is_if (hd : 1 ≤ d) (hT : T.length < 1000) (hA : tk_ok A) (h : RdS od A N i l u c q) : im_ct ro T d 63 [mr 0, mr 2000019] (RW 0 q A u c k) (fun r w => r = some (.inl (if tk_C A N i = 5 then 1 else 0)) ∧ w = RW 0 q A u c k) := by
  have e := h.1.1
  subst e
  exact c_is_if hd hT hA h.2.1
theorem w_is_or (hd : 1 ≤ d) (hT : T.length < 1000) (hA : tk_ok A) (h : RdS od A N i l u c q) : im_ct ro T d 63 [mr 0, mr 2000022] (RW 0 q A u c k) (fun r w => r = some (.inl (if tk_C A N i = 6 then 1 else 0)) ∧ w = RW 0 q A u c k) := by
  have e := h.1.1
  subst e
  exact c_is_or hd hT hA h.2.1
theorem w_is_and (hd : 1 ≤ d) (hT : T.length < 1000) (hA : tk_ok A) (h : RdS od A N i l u c q) : im_ct ro T d 63 [mr 0, mr 2000021] (RW 0 q A u c k) (fun r w => r = some (.inl (if tk_C A N i = 7 then 1 else 0)) ∧ w = RW 0 q A u c k) := by
  have e := h.1.1
  subst e
  exact c_is_and hd hT hA h.2.1
theorem w_is_not (hd : 1 ≤ d) (hT : T.length < 1000) (hA : tk_ok A) (h : RdS od A N i l u c q) : im_ct ro T d 63 [mr 0, mr 2000020] (RW 0 q A u c k) (fun r w => r = some (.inl (if tk_C A N i = 8 then 1 else 0)) ∧ w = RW 0 q A u c k) := by
  have e := h.1.1
  subst e
  exact c_is_not hd hT hA h.2.1
theorem w_is_parish (hd : 1 ≤ d) (hT : T.length < 1000) (hA : tk_ok A) (h : RdS od A N i l u c q) : im_ct ro T d 63 [mr 0, mr 2000011] (RW 0 q A u c k) (fun r w => r = some (.inl (if tk_C A N i = 9 then 1 else 0)) ∧ w = RW 0 q A u c k) := by
  have e := h.1.1
  subst e
  exact c_is_parish hd hT hA h.2.1
theorem w_is_below (hd : 1 ≤ d) (hT : T.length < 1000) (hA : tk_ok A) (h : RdS od A N i l u c q) : im_ct ro T d 63 [mr 0, mr 2000012] (RW 0 q A u c k) (fun r w => r = some (.inl (if tk_C A N i = 10 then 1 else 0)) ∧ w = RW 0 q A u c k) := by
  have e := h.1.1
  subst e
  exact c_is_below hd hT hA h.2.1
theorem w_is_depth (hd : 1 ≤ d) (hT : T.length < 1000) (hA : tk_ok A) (h : RdS od A N i l u c q) : im_ct ro T d 63 [mr 0, mr 2000013] (RW 0 q A u c k) (fun r w => r = some (.inl (if tk_C A N i = 11 then 1 else 0)) ∧ w = RW 0 q A u c k) := by
  have e := h.1.1
  subst e
  exact c_is_depth hd hT hA h.2.1
theorem w_is_walked (hd : 1 ≤ d) (hT : T.length < 1000) (hA : tk_ok A) (h : RdS od A N i l u c q) : im_ct ro T d 63 [mr 0, mr 2000014] (RW 0 q A u c k) (fun r w => r = some (.inl (if tk_C A N i = 12 then 1 else 0)) ∧ w = RW 0 q A u c k) := by
  have e := h.1.1
  subst e
  exact c_is_walked hd hT hA h.2.1
theorem w_is_mood (hd : 1 ≤ d) (hT : T.length < 1000) (hA : tk_ok A) (h : RdS od A N i l u c q) : im_ct ro T d 63 [mr 0, mr 2000015] (RW 0 q A u c k) (fun r w => r = some (.inl (if tk_C A N i = 13 then 1 else 0)) ∧ w = RW 0 q A u c k) := by
  have e := h.1.1
  subst e
  exact c_is_mood hd hT hA h.2.1
theorem w_is_count (hd : 1 ≤ d) (hT : T.length < 1000) (hA : tk_ok A) (h : RdS od A N i l u c q) : im_ct ro T d 63 [mr 0, mr 2000009] (RW 0 q A u c k) (fun r w => r = some (.inl (if tk_C A N i = 14 then 1 else 0)) ∧ w = RW 0 q A u c k) := by
  have e := h.1.1
  subst e
  exact c_is_count hd hT hA h.2.1
theorem w_is_over (hd : 1 ≤ d) (hT : T.length < 1000) (hA : tk_ok A) (h : RdS od A N i l u c q) : im_ct ro T d 63 [mr 0, mr 2000010] (RW 0 q A u c k) (fun r w => r = some (.inl (if tk_C A N i = 15 then 1 else 0)) ∧ w = RW 0 q A u c k) := by
  have e := h.1.1
  subst e
  exact c_is_over hd hT hA h.2.1
theorem w_is_day (hd : 1 ≤ d) (hT : T.length < 1000) (hA : tk_ok A) (h : RdS od A N i l u c q) : im_ct ro T d 63 [mr 0, mr 2000004] (RW 0 q A u c k) (fun r w => r = some (.inl (if tk_C A N i = 16 then 1 else 0)) ∧ w = RW 0 q A u c k) := by
  have e := h.1.1
  subst e
  exact c_is_day hd hT hA h.2.1
theorem w_is_done (hd : 1 ≤ d) (hT : T.length < 1000) (hA : tk_ok A) (h : RdS od A N i l u c q) : im_ct ro T d 63 [mr 0, mr 2000005] (RW 0 q A u c k) (fun r w => r = some (.inl (if tk_C A N i = 17 then 1 else 0)) ∧ w = RW 0 q A u c k) := by
  have e := h.1.1
  subst e
  exact c_is_done hd hT hA h.2.1
theorem w_is_latest (hd : 1 ≤ d) (hT : T.length < 1000) (hA : tk_ok A) (h : RdS od A N i l u c q) : im_ct ro T d 63 [mr 0, mr 2000006] (RW 0 q A u c k) (fun r w => r = some (.inl (if tk_C A N i = 18 then 1 else 0)) ∧ w = RW 0 q A u c k) := by
  have e := h.1.1
  subst e
  exact c_is_latest hd hT hA h.2.1
theorem w_is_sea (hd : 1 ≤ d) (hT : T.length < 1000) (hA : tk_ok A) (h : RdS od A N i l u c q) : im_ct ro T d 63 [mr 0, mr 2000007] (RW 0 q A u c k) (fun r w => r = some (.inl (if tk_C A N i = 19 then 1 else 0)) ∧ w = RW 0 q A u c k) := by
  have e := h.1.1
  subst e
  exact c_is_sea hd hT hA h.2.1
theorem w_is_walking (hd : 1 ≤ d) (hT : T.length < 1000) (hA : tk_ok A) (h : RdS od A N i l u c q) : im_ct ro T d 63 [mr 0, mr 2000008] (RW 0 q A u c k) (fun r w => r = some (.inl (if tk_C A N i = 20 then 1 else 0)) ∧ w = RW 0 q A u c k) := by
  have e := h.1.1
  subst e
  exact c_is_walking hd hT hA h.2.1
theorem w_is_reckon (hd : 1 ≤ d) (hT : T.length < 1000) (hA : tk_ok A) (h : RdS od A N i l u c q) : im_ct ro T d 63 [mr 0, mr 2000000] (RW 0 q A u c k) (fun r w => r = some (.inl (if tk_C A N i = 21 then 1 else 0)) ∧ w = RW 0 q A u c k) := by
  have e := h.1.1
  subst e
  exact c_is_reckon hd hT hA h.2.1
theorem w_is_pass (hd : 1 ≤ d) (hT : T.length < 1000) (hA : tk_ok A) (h : RdS od A N i l u c q) : im_ct ro T d 63 [mr 0, mr 2000001] (RW 0 q A u c k) (fun r w => r = some (.inl (if tk_C A N i = 22 then 1 else 0)) ∧ w = RW 0 q A u c k) := by
  have e := h.1.1
  subst e
  exact c_is_pass hd hT hA h.2.1
theorem w_is_lend (hd : 1 ≤ d) (hT : T.length < 1000) (hA : tk_ok A) (h : RdS od A N i l u c q) : im_ct ro T d 63 [mr 0, mr 2000002] (RW 0 q A u c k) (fun r w => r = some (.inl (if tk_C A N i = 23 then 1 else 0)) ∧ w = RW 0 q A u c k) := by
  have e := h.1.1
  subst e
  exact c_is_lend hd hT hA h.2.1
theorem w_is_to (hd : 1 ≤ d) (hT : T.length < 1000) (hA : tk_ok A) (h : RdS od A N i l u c q) : im_ct ro T d 63 [mr 0, mr 2000016] (RW 0 q A u c k) (fun r w => r = some (.inl (if tk_C A N i = 24 then 1 else 0)) ∧ w = RW 0 q A u c k) := by
  have e := h.1.1
  subst e
  exact c_is_to hd hT hA h.2.1
theorem w_is_grow (hd : 1 ≤ d) (hT : T.length < 1000) (hA : tk_ok A) (h : RdS od A N i l u c q) : im_ct ro T d 63 [mr 0, mr 2000003] (RW 0 q A u c k) (fun r w => r = some (.inl (if tk_C A N i = 25 then 1 else 0)) ∧ w = RW 0 q A u c k) := by
  have e := h.1.1
  subst e
  exact c_is_grow hd hT hA h.2.1
theorem w_is_by (hd : 1 ≤ d) (hT : T.length < 1000) (hA : tk_ok A) (h : RdS od A N i l u c q) : im_ct ro T d 63 [mr 0, mr 2000017] (RW 0 q A u c k) (fun r w => r = some (.inl (if tk_C A N i = 26 then 1 else 0)) ∧ w = RW 0 q A u c k) := by
  have e := h.1.1
  subst e
  exact c_is_by hd hT hA h.2.1
theorem w_is_times (hd : 1 ≤ d) (hT : T.length < 1000) (hA : tk_ok A) (h : RdS od A N i l u c q) : im_ct ro T d 63 [mr 0, mr 2000018] (RW 0 q A u c k) (fun r w => r = some (.inl (if tk_C A N i = 27 then 1 else 0)) ∧ w = RW 0 q A u c k) := by
  have e := h.1.1
  subst e
  exact c_is_times hd hT hA h.2.1
set_option maxHeartbeats 8000000 in
theorem c_close (hd : 3 ≤ d) (hT : T.length < 1000) (hA : tk_ok A) (h : RdS od A N i l u c q) {b : Int} (hb : 0 ≤ b ∧ b ≤ 255) : im_ct ro T d 59 [mr 0, .inl b] (RW 0 q A u c k) (fun r w => r = none ∧ w = RW 0 (if tk_C A N i = 100 + b then rd_next A q else rd_fail q) A u c k) := by
  obtain ⟨d, rfl⟩ : ∃ e, d = e + 1 := ⟨d - 1, by omega⟩
  refine im_ct_of (own := 5) (ret := none) (code := ab_k_X5_close) (nL := 2) (L0 := [some (mr 0), some (.inl b)]) (n := 5) rfl rfl rfl rfl rfl rfl rfl rfl rfl ?_
  refine im_g 2 (y := (2, _, _, _)) rfl trivial ?_
  refine im_call [0,1,2,3,4] rfl rfl (w_sign (q := q) (u := u) (c := c) (k := k) (by omega) hT hA h hb) rfl rfl rfl (by decide) rfl (by decide) hT (fun v1 w1 hq => ?_)
  obtain ⟨rfl, rfl⟩ := hq
  refine ⟨_, _, RW 0 q A u c k, rfl, rfl, rfl, ?_⟩
  refine im_b rfl rfl ⟨(by omega), trivial⟩ (fun br1 => ?_) (fun br1 => ?_)
  · have c5 : ¬ (tk_C A N i = 100 + b) := by
      intro hh
      rw [if_pos hh] at br1
      exact absurd br1 (by decide)
    clear br1
    refine im_g 1 (y := (16, _, _, _)) rfl trivial ?_
    refine im_call [0,1,2,3,4] rfl rfl (c_fail (q := q) (A := A) (u := u) (c := c) (k := k) (by omega) hT (by rw [h.2.1.2.2.2.2.2]; decide)) rfl rfl rfl (by decide) rfl (by decide) hT (fun v1 w1 hq => ?_)
    obtain ⟨rfl, rfl⟩ := hq
    refine ⟨_, _, RW 0 (rd_fail q) A u c k, rfl, rfl, rfl, ?_⟩
    refine im_r rfl rfl trivial rfl ?_
    rw [if_neg c5]
    exact ⟨rfl, rfl⟩
  · have c5 : tk_C A N i = 100 + b := by
      by_cases hh : tk_C A N i = 100 + b
      · exact hh
      · rw [if_neg hh] at br1; exact absurd rfl br1
    clear br1
    refine im_g 1 (y := (9, _, _, _)) rfl trivial ?_
    refine im_call [0,1,2,3,4] rfl rfl (c_step (q := q) (A := A) (u := u) (c := c) (k := k) (by omega) hT hA h.2.1) rfl rfl rfl (by decide) rfl (by decide) hT (fun v1 w1 hq => ?_)
    obtain ⟨rfl, rfl⟩ := hq
    refine ⟨_, _, RW 0 (rd_next A q) A u c k, rfl, rfl, rfl, ?_⟩
    refine im_g 1 (y := (19, _, _, _)) rfl trivial ?_
    refine im_r rfl rfl trivial rfl ?_
    rw [if_pos c5]
    exact ⟨rfl, rfl⟩
set_option maxHeartbeats 8000000 in
theorem c_closeD (hd : 3 ≤ d) (hT : T.length < 1000) {f : Int} (h : RDd q f) {b : Int} : im_ct ro T d 59 [mr 0, .inl b] (RW 0 q A u c k) (fun r w => r = none ∧ w = RW 0 q A u c k) := by
  obtain ⟨d, rfl⟩ : ∃ e, d = e + 1 := ⟨d - 1, by omega⟩
  refine im_ct_of (own := 5) (ret := none) (code := ab_k_X5_close) (nL := 2) (L0 := [some (mr 0), some (.inl b)]) (n := 5) rfl rfl rfl rfl rfl rfl rfl rfl rfl ?_
  refine im_g 2 (y := (2, _, _, _)) rfl trivial ?_
  refine im_call [0,1,2,3,4] rfl rfl (c_isSignD (q := q) (A := A) (u := u) (c := c) (k := k) (by omega) hT h.2.2.1 (b := b)) rfl rfl rfl (by decide) rfl (by decide) hT (fun v1 w1 hq => ?_)
  obtain ⟨rfl, rfl⟩ := hq
  refine ⟨_, _, RW 0 q A u c k, rfl, rfl, rfl, ?_⟩
  refine im_bT rfl rfl ⟨(by omega), trivial⟩ rfl ?_
  refine im_g 1 (y := (16, _, _, _)) rfl trivial ?_
  refine im_call [0,1,2,3,4] rfl rfl (c_fail (q := q) (A := A) (u := u) (c := c) (k := k) (by omega) hT (by have t := h.2.2.2; constructor <;> omega)) rfl rfl rfl (by decide) rfl (by decide) hT (fun v1 w1 hq => ?_)
  obtain ⟨rfl, rfl⟩ := hq
  refine ⟨_, _, RW 0 (rd_fail q) A u c k, rfl, rfl, rfl, ?_⟩
  refine im_r rfl rfl trivial rfl ?_
  rw [RDd_dead h]
  exact ⟨rfl, rfl⟩
set_option maxHeartbeats 8000000 in
theorem c_ruleWord (hd : 2 ≤ d) (hT : T.length < 1000) (hA : tk_ok A) (h : RdS od A N i l u c q) : im_ct ro T d 56 [mr 0] (RW 0 q A u c k) (fun r w => ∃ wv, r = some (.inl wv) ∧ w = RW 0 q A u c k ∧ ((9 ≤ tk_C A N i ∧ tk_C A N i ≤ 16) ∧ wv = d_wi false (tk_C A N i) ∨ ¬ (9 ≤ tk_C A N i ∧ tk_C A N i ≤ 16) ∧ wv = -1)) := by
  obtain ⟨d, rfl⟩ : ∃ e, d = e + 1 := ⟨d - 1, by omega⟩
  refine im_ct_of (own := 5) (ret := (some .int)) (code := ab_k_X5_ruleWord) (nL := 1) (L0 := [some (mr 0)]) (n := 5) rfl rfl rfl rfl rfl rfl rfl rfl rfl ?_
  refine im_g 2 (y := (3, _, _, _)) rfl trivial ?_
  refine im_call [0,1,2,3,4] rfl rfl (w_is_parish (q := q) (u := u) (c := c) (k := k) (by omega) hT hA h) rfl rfl rfl (by decide) rfl (by decide) hT (fun v1 w1 hq => ?_)
  obtain ⟨rfl, rfl⟩ := hq
  refine ⟨_, _, RW 0 q A u c k, rfl, rfl, rfl, ?_⟩
  refine im_b rfl rfl ⟨(by omega), trivial⟩ (fun br1 => ?_) (fun br1 => ?_)
  · have c6 : ¬ (tk_C A N i = 9) := by
      intro hh
      rw [if_pos hh] at br1
      exact absurd br1 (by decide)
    clear br1
    refine im_g 2 (y := (16, _, _, _)) rfl trivial ?_
    refine im_call [0,1,2,3,4] rfl rfl (w_is_count (q := q) (u := u) (c := c) (k := k) (by omega) hT hA h) rfl rfl rfl (by decide) rfl (by decide) hT (fun v1 w1 hq => ?_)
    obtain ⟨rfl, rfl⟩ := hq
    refine ⟨_, _, RW 0 q A u c k, rfl, rfl, rfl, ?_⟩
    refine im_b rfl rfl ⟨(by omega), trivial⟩ (fun br2 => ?_) (fun br2 => ?_)
    · have c19 : ¬ (tk_C A N i = 14) := by
        intro hh
        rw [if_pos hh] at br2
        exact absurd br2 (by decide)
      clear br2
      refine im_g 2 (y := (29, _, _, _)) rfl trivial ?_
      refine im_call [0,1,2,3,4] rfl rfl (w_is_over (q := q) (u := u) (c := c) (k := k) (by omega) hT hA h) rfl rfl rfl (by decide) rfl (by decide) hT (fun v1 w1 hq => ?_)
      obtain ⟨rfl, rfl⟩ := hq
      refine ⟨_, _, RW 0 q A u c k, rfl, rfl, rfl, ?_⟩
      refine im_b rfl rfl ⟨(by omega), trivial⟩ (fun br3 => ?_) (fun br3 => ?_)
      · have c32 : ¬ (tk_C A N i = 15) := by
          intro hh
          rw [if_pos hh] at br3
          exact absurd br3 (by decide)
        clear br3
        refine im_g 2 (y := (42, _, _, _)) rfl trivial ?_
        refine im_call [0,1,2,3,4] rfl rfl (w_is_below (q := q) (u := u) (c := c) (k := k) (by omega) hT hA h) rfl rfl rfl (by decide) rfl (by decide) hT (fun v1 w1 hq => ?_)
        obtain ⟨rfl, rfl⟩ := hq
        refine ⟨_, _, RW 0 q A u c k, rfl, rfl, rfl, ?_⟩
        refine im_b rfl rfl ⟨(by omega), trivial⟩ (fun br4 => ?_) (fun br4 => ?_)
        · have c45 : ¬ (tk_C A N i = 10) := by
            intro hh
            rw [if_pos hh] at br4
            exact absurd br4 (by decide)
          clear br4
          refine im_g 2 (y := (55, _, _, _)) rfl trivial ?_
          refine im_call [0,1,2,3,4] rfl rfl (w_is_depth (q := q) (u := u) (c := c) (k := k) (by omega) hT hA h) rfl rfl rfl (by decide) rfl (by decide) hT (fun v1 w1 hq => ?_)
          obtain ⟨rfl, rfl⟩ := hq
          refine ⟨_, _, RW 0 q A u c k, rfl, rfl, rfl, ?_⟩
          refine im_b rfl rfl ⟨(by omega), trivial⟩ (fun br5 => ?_) (fun br5 => ?_)
          · have c58 : ¬ (tk_C A N i = 11) := by
              intro hh
              rw [if_pos hh] at br5
              exact absurd br5 (by decide)
            clear br5
            refine im_g 2 (y := (68, _, _, _)) rfl trivial ?_
            refine im_call [0,1,2,3,4] rfl rfl (w_is_walked (q := q) (u := u) (c := c) (k := k) (by omega) hT hA h) rfl rfl rfl (by decide) rfl (by decide) hT (fun v1 w1 hq => ?_)
            obtain ⟨rfl, rfl⟩ := hq
            refine ⟨_, _, RW 0 q A u c k, rfl, rfl, rfl, ?_⟩
            refine im_b rfl rfl ⟨(by omega), trivial⟩ (fun br6 => ?_) (fun br6 => ?_)
            · have c71 : ¬ (tk_C A N i = 12) := by
                intro hh
                rw [if_pos hh] at br6
                exact absurd br6 (by decide)
              clear br6
              refine im_g 2 (y := (81, _, _, _)) rfl trivial ?_
              refine im_call [0,1,2,3,4] rfl rfl (w_is_day (q := q) (u := u) (c := c) (k := k) (by omega) hT hA h) rfl rfl rfl (by decide) rfl (by decide) hT (fun v1 w1 hq => ?_)
              obtain ⟨rfl, rfl⟩ := hq
              refine ⟨_, _, RW 0 q A u c k, rfl, rfl, rfl, ?_⟩
              refine im_b rfl rfl ⟨(by omega), trivial⟩ (fun br7 => ?_) (fun br7 => ?_)
              · have c84 : ¬ (tk_C A N i = 16) := by
                  intro hh
                  rw [if_pos hh] at br7
                  exact absurd br7 (by decide)
                clear br7
                refine im_g 2 (y := (95, _, _, _)) rfl trivial ?_
                refine im_call [0,1,2,3,4] rfl rfl (w_is_mood (q := q) (u := u) (c := c) (k := k) (by omega) hT hA h) rfl rfl rfl (by decide) rfl (by decide) hT (fun v1 w1 hq => ?_)
                obtain ⟨rfl, rfl⟩ := hq
                refine ⟨_, _, RW 0 q A u c k, rfl, rfl, rfl, ?_⟩
                refine im_b rfl rfl ⟨(by omega), trivial⟩ (fun br8 => ?_) (fun br8 => ?_)
                · have c98 : ¬ (tk_C A N i = 13) := by
                    intro hh
                    rw [if_pos hh] at br8
                    exact absurd br8 (by decide)
                  clear br8
                  refine im_g 1 (y := (107, _, _, _)) rfl trivial ?_
                  refine im_r rfl rfl trivial rfl ?_
                  exact ⟨_, rfl, rfl, Or.inr ⟨by omega, rfl⟩⟩
                · have c98 : tk_C A N i = 13 := by
                    by_cases hh : tk_C A N i = 13
                    · exact hh
                    · rw [if_neg hh] at br8; exact absurd rfl br8
                  clear br8
                  refine im_g 2 (y := (107, _, _, _)) rfl trivial ?_
                  refine im_r rfl rfl trivial rfl ?_
                  refine ⟨_, rfl, rfl, Or.inl ⟨by omega, ?_⟩⟩
                  rw [c98]
                  decide
              · have c84 : tk_C A N i = 16 := by
                  by_cases hh : tk_C A N i = 16
                  · exact hh
                  · rw [if_neg hh] at br7; exact absurd rfl br7
                clear br7
                refine im_g 2 (y := (107, _, _, _)) rfl trivial ?_
                refine im_r rfl rfl trivial rfl ?_
                refine ⟨_, rfl, rfl, Or.inl ⟨by omega, ?_⟩⟩
                rw [c84]
                decide
            · have c71 : tk_C A N i = 12 := by
                by_cases hh : tk_C A N i = 12
                · exact hh
                · rw [if_neg hh] at br6; exact absurd rfl br6
              clear br6
              refine im_g 2 (y := (107, _, _, _)) rfl trivial ?_
              refine im_r rfl rfl trivial rfl ?_
              refine ⟨_, rfl, rfl, Or.inl ⟨by omega, ?_⟩⟩
              rw [c71]
              decide
          · have c58 : tk_C A N i = 11 := by
              by_cases hh : tk_C A N i = 11
              · exact hh
              · rw [if_neg hh] at br5; exact absurd rfl br5
            clear br5
            refine im_g 2 (y := (107, _, _, _)) rfl trivial ?_
            refine im_r rfl rfl trivial rfl ?_
            refine ⟨_, rfl, rfl, Or.inl ⟨by omega, ?_⟩⟩
            rw [c58]
            decide
        · have c45 : tk_C A N i = 10 := by
            by_cases hh : tk_C A N i = 10
            · exact hh
            · rw [if_neg hh] at br4; exact absurd rfl br4
          clear br4
          refine im_g 2 (y := (107, _, _, _)) rfl trivial ?_
          refine im_r rfl rfl trivial rfl ?_
          refine ⟨_, rfl, rfl, Or.inl ⟨by omega, ?_⟩⟩
          rw [c45]
          decide
      · have c32 : tk_C A N i = 15 := by
          by_cases hh : tk_C A N i = 15
          · exact hh
          · rw [if_neg hh] at br3; exact absurd rfl br3
        clear br3
        refine im_g 2 (y := (107, _, _, _)) rfl trivial ?_
        refine im_r rfl rfl trivial rfl ?_
        refine ⟨_, rfl, rfl, Or.inl ⟨by omega, ?_⟩⟩
        rw [c32]
        decide
    · have c19 : tk_C A N i = 14 := by
        by_cases hh : tk_C A N i = 14
        · exact hh
        · rw [if_neg hh] at br2; exact absurd rfl br2
      clear br2
      refine im_g 2 (y := (107, _, _, _)) rfl trivial ?_
      refine im_r rfl rfl trivial rfl ?_
      refine ⟨_, rfl, rfl, Or.inl ⟨by omega, ?_⟩⟩
      rw [c19]
      decide
  · have c6 : tk_C A N i = 9 := by
      by_cases hh : tk_C A N i = 9
      · exact hh
      · rw [if_neg hh] at br1; exact absurd rfl br1
    clear br1
    refine im_g 2 (y := (107, _, _, _)) rfl trivial ?_
    refine im_r rfl rfl trivial rfl ?_
    refine ⟨_, rfl, rfl, Or.inl ⟨by omega, ?_⟩⟩
    rw [c6]
    decide
set_option maxHeartbeats 8000000 in
theorem c_orderWord (hd : 2 ≤ d) (hT : T.length < 1000) (hA : tk_ok A) (h : RdS od A N i l u c q) : im_ct ro T d 57 [mr 0] (RW 0 q A u c k) (fun r w => ∃ wv, r = some (.inl wv) ∧ w = RW 0 q A u c k ∧ ((14 ≤ tk_C A N i ∧ tk_C A N i ≤ 20) ∧ wv = d_wi true (tk_C A N i) ∨ ¬ (14 ≤ tk_C A N i ∧ tk_C A N i ≤ 20) ∧ wv = -1)) := by
  obtain ⟨d, rfl⟩ : ∃ e, d = e + 1 := ⟨d - 1, by omega⟩
  refine im_ct_of (own := 5) (ret := (some .int)) (code := ab_k_X5_orderWord) (nL := 1) (L0 := [some (mr 0)]) (n := 5) rfl rfl rfl rfl rfl rfl rfl rfl rfl ?_
  refine im_g 2 (y := (3, _, _, _)) rfl trivial ?_
  refine im_call [0,1,2,3,4] rfl rfl (w_is_day (q := q) (u := u) (c := c) (k := k) (by omega) hT hA h) rfl rfl rfl (by decide) rfl (by decide) hT (fun v1 w1 hq => ?_)
  obtain ⟨rfl, rfl⟩ := hq
  refine ⟨_, _, RW 0 q A u c k, rfl, rfl, rfl, ?_⟩
  refine im_b rfl rfl ⟨(by omega), trivial⟩ (fun br1 => ?_) (fun br1 => ?_)
  · have c6 : ¬ (tk_C A N i = 16) := by
      intro hh
      rw [if_pos hh] at br1
      exact absurd br1 (by decide)
    clear br1
    refine im_g 2 (y := (16, _, _, _)) rfl trivial ?_
    refine im_call [0,1,2,3,4] rfl rfl (w_is_done (q := q) (u := u) (c := c) (k := k) (by omega) hT hA h) rfl rfl rfl (by decide) rfl (by decide) hT (fun v1 w1 hq => ?_)
    obtain ⟨rfl, rfl⟩ := hq
    refine ⟨_, _, RW 0 q A u c k, rfl, rfl, rfl, ?_⟩
    refine im_b rfl rfl ⟨(by omega), trivial⟩ (fun br2 => ?_) (fun br2 => ?_)
    · have c19 : ¬ (tk_C A N i = 17) := by
        intro hh
        rw [if_pos hh] at br2
        exact absurd br2 (by decide)
      clear br2
      refine im_g 2 (y := (29, _, _, _)) rfl trivial ?_
      refine im_call [0,1,2,3,4] rfl rfl (w_is_latest (q := q) (u := u) (c := c) (k := k) (by omega) hT hA h) rfl rfl rfl (by decide) rfl (by decide) hT (fun v1 w1 hq => ?_)
      obtain ⟨rfl, rfl⟩ := hq
      refine ⟨_, _, RW 0 q A u c k, rfl, rfl, rfl, ?_⟩
      refine im_b rfl rfl ⟨(by omega), trivial⟩ (fun br3 => ?_) (fun br3 => ?_)
      · have c32 : ¬ (tk_C A N i = 18) := by
          intro hh
          rw [if_pos hh] at br3
          exact absurd br3 (by decide)
        clear br3
        refine im_g 2 (y := (42, _, _, _)) rfl trivial ?_
        refine im_call [0,1,2,3,4] rfl rfl (w_is_sea (q := q) (u := u) (c := c) (k := k) (by omega) hT hA h) rfl rfl rfl (by decide) rfl (by decide) hT (fun v1 w1 hq => ?_)
        obtain ⟨rfl, rfl⟩ := hq
        refine ⟨_, _, RW 0 q A u c k, rfl, rfl, rfl, ?_⟩
        refine im_b rfl rfl ⟨(by omega), trivial⟩ (fun br4 => ?_) (fun br4 => ?_)
        · have c45 : ¬ (tk_C A N i = 19) := by
            intro hh
            rw [if_pos hh] at br4
            exact absurd br4 (by decide)
          clear br4
          refine im_g 2 (y := (55, _, _, _)) rfl trivial ?_
          refine im_call [0,1,2,3,4] rfl rfl (w_is_walking (q := q) (u := u) (c := c) (k := k) (by omega) hT hA h) rfl rfl rfl (by decide) rfl (by decide) hT (fun v1 w1 hq => ?_)
          obtain ⟨rfl, rfl⟩ := hq
          refine ⟨_, _, RW 0 q A u c k, rfl, rfl, rfl, ?_⟩
          refine im_b rfl rfl ⟨(by omega), trivial⟩ (fun br5 => ?_) (fun br5 => ?_)
          · have c58 : ¬ (tk_C A N i = 20) := by
              intro hh
              rw [if_pos hh] at br5
              exact absurd br5 (by decide)
            clear br5
            refine im_g 2 (y := (68, _, _, _)) rfl trivial ?_
            refine im_call [0,1,2,3,4] rfl rfl (w_is_count (q := q) (u := u) (c := c) (k := k) (by omega) hT hA h) rfl rfl rfl (by decide) rfl (by decide) hT (fun v1 w1 hq => ?_)
            obtain ⟨rfl, rfl⟩ := hq
            refine ⟨_, _, RW 0 q A u c k, rfl, rfl, rfl, ?_⟩
            refine im_b rfl rfl ⟨(by omega), trivial⟩ (fun br6 => ?_) (fun br6 => ?_)
            · have c71 : ¬ (tk_C A N i = 14) := by
                intro hh
                rw [if_pos hh] at br6
                exact absurd br6 (by decide)
              clear br6
              refine im_g 2 (y := (81, _, _, _)) rfl trivial ?_
              refine im_call [0,1,2,3,4] rfl rfl (w_is_over (q := q) (u := u) (c := c) (k := k) (by omega) hT hA h) rfl rfl rfl (by decide) rfl (by decide) hT (fun v1 w1 hq => ?_)
              obtain ⟨rfl, rfl⟩ := hq
              refine ⟨_, _, RW 0 q A u c k, rfl, rfl, rfl, ?_⟩
              refine im_b rfl rfl ⟨(by omega), trivial⟩ (fun br7 => ?_) (fun br7 => ?_)
              · have c84 : ¬ (tk_C A N i = 15) := by
                  intro hh
                  rw [if_pos hh] at br7
                  exact absurd br7 (by decide)
                clear br7
                refine im_g 1 (y := (93, _, _, _)) rfl trivial ?_
                refine im_r rfl rfl trivial rfl ?_
                exact ⟨_, rfl, rfl, Or.inr ⟨by omega, rfl⟩⟩
              · have c84 : tk_C A N i = 15 := by
                  by_cases hh : tk_C A N i = 15
                  · exact hh
                  · rw [if_neg hh] at br7; exact absurd rfl br7
                clear br7
                refine im_g 2 (y := (93, _, _, _)) rfl trivial ?_
                refine im_r rfl rfl trivial rfl ?_
                refine ⟨_, rfl, rfl, Or.inl ⟨by omega, ?_⟩⟩
                rw [c84]
                decide
            · have c71 : tk_C A N i = 14 := by
                by_cases hh : tk_C A N i = 14
                · exact hh
                · rw [if_neg hh] at br6; exact absurd rfl br6
              clear br6
              refine im_g 2 (y := (93, _, _, _)) rfl trivial ?_
              refine im_r rfl rfl trivial rfl ?_
              refine ⟨_, rfl, rfl, Or.inl ⟨by omega, ?_⟩⟩
              rw [c71]
              decide
          · have c58 : tk_C A N i = 20 := by
              by_cases hh : tk_C A N i = 20
              · exact hh
              · rw [if_neg hh] at br5; exact absurd rfl br5
            clear br5
            refine im_g 2 (y := (93, _, _, _)) rfl trivial ?_
            refine im_r rfl rfl trivial rfl ?_
            refine ⟨_, rfl, rfl, Or.inl ⟨by omega, ?_⟩⟩
            rw [c58]
            decide
        · have c45 : tk_C A N i = 19 := by
            by_cases hh : tk_C A N i = 19
            · exact hh
            · rw [if_neg hh] at br4; exact absurd rfl br4
          clear br4
          refine im_g 2 (y := (93, _, _, _)) rfl trivial ?_
          refine im_r rfl rfl trivial rfl ?_
          refine ⟨_, rfl, rfl, Or.inl ⟨by omega, ?_⟩⟩
          rw [c45]
          decide
      · have c32 : tk_C A N i = 18 := by
          by_cases hh : tk_C A N i = 18
          · exact hh
          · rw [if_neg hh] at br3; exact absurd rfl br3
        clear br3
        refine im_g 2 (y := (93, _, _, _)) rfl trivial ?_
        refine im_r rfl rfl trivial rfl ?_
        refine ⟨_, rfl, rfl, Or.inl ⟨by omega, ?_⟩⟩
        rw [c32]
        decide
    · have c19 : tk_C A N i = 17 := by
        by_cases hh : tk_C A N i = 17
        · exact hh
        · rw [if_neg hh] at br2; exact absurd rfl br2
      clear br2
      refine im_g 2 (y := (93, _, _, _)) rfl trivial ?_
      refine im_r rfl rfl trivial rfl ?_
      refine ⟨_, rfl, rfl, Or.inl ⟨by omega, ?_⟩⟩
      rw [c19]
      decide
  · have c6 : tk_C A N i = 16 := by
      by_cases hh : tk_C A N i = 16
      · exact hh
      · rw [if_neg hh] at br1; exact absurd rfl br1
    clear br1
    refine im_g 2 (y := (93, _, _, _)) rfl trivial ?_
    refine im_r rfl rfl trivial rfl ?_
    refine ⟨_, rfl, rfl, Or.inl ⟨by omega, ?_⟩⟩
    rw [c6]
    decide
set_option maxHeartbeats 8000000 in
theorem c_whose (hd : 3 ≤ d) (hT : T.length < 1000) (hA : tk_ok A) (h : RdS od A N i l u c q) {wv : Int} (hw : 0 ≤ wv ∧ wv ≤ 15) : im_ct ro T d 55 [mr 0, .inl wv] (RW 0 q A u c k) (fun r w => r = none ∧ w = if tk_C A N i = 50 ∧ 0 ≤ tk_X A N i ∧ tk_X A N i ≤ 9 then RW 0 (rd_next A q) A (rd_emu (u.1, u.2.1, if wv = 15 then im_or u.2.2 (im_shl 1 (tk_X A N i)) else u.2.2)) (rd_emc (u.1, u.2.1, if wv = 15 then im_or u.2.2 (im_shl 1 (tk_X A N i)) else u.2.2) c 2 (wv + tk_X A N i)) k else RW 0 (rd_fail q) A u c k) := by
  obtain ⟨d, rfl⟩ : ∃ e, d = e + 1 := ⟨d - 1, by omega⟩
  refine im_ct_of (own := 5) (ret := none) (code := ab_k_X5_readWhose) (nL := 3) (L0 := [some (mr 0), some (.inl wv), none]) (n := 5) rfl rfl rfl rfl rfl rfl rfl rfl rfl ?_
  refine im_g 1 (y := (1, _, _, _)) rfl trivial ?_
  refine im_call [0,1,2,3,4] rfl rfl (w_number (q := q) (u := u) (c := c) (k := k) (by omega) hT hA h) rfl rfl rfl (by decide) rfl (by decide) hT (fun v1 w1 hq => ?_)
  obtain ⟨nv, rfl, rfl, hnv0⟩ := hq
  refine ⟨_, _, RW 0 q A u c k, rfl, rfl, rfl, ?_⟩
  have hxb : 0 ≤ tk_X A N i := (tk_val_b _ _).1
  refine im_g 2 (y := (6, _, _, _)) rfl trivial ?_
  refine im_b rfl rfl ⟨(by omega), trivial⟩ (fun br1 => ?_) (fun br1 => ?_)
  · refine im_g 1 (y := (16, _, _, _)) rfl trivial ?_
    refine im_call [0,1,2,3,4] rfl rfl (c_fail (q := q) (A := A) (u := u) (c := c) (k := k) (by omega) hT (by rw [h.2.1.2.2.2.2.2]; decide)) rfl rfl rfl (by decide) rfl (by decide) hT (fun v1 w1 hq => ?_)
    obtain ⟨rfl, rfl⟩ := hq
    refine ⟨_, _, RW 0 (rd_fail q) A u c k, rfl, rfl, rfl, ?_⟩
    refine im_r rfl rfl trivial rfl ?_
    rw [if_neg (by omega)]
    exact ⟨rfl, rfl⟩
  · refine im_g 2 (y := (12, _, _, _)) rfl trivial ?_
    refine im_b rfl rfl ⟨(by omega), (by omega), trivial⟩ (fun br2 => ?_) (fun br2 => ?_)
    · refine im_g 2 (y := (23, _, _, _)) rfl trivial ?_
      refine im_b rfl rfl ⟨(by omega), (by omega), trivial⟩ (fun br3 => ?_) (fun br3 => ?_)
      · refine im_g 1 (y := (42, _, _, _)) rfl trivial ?_
        refine im_call [0,1,2,3,4] rfl rfl (c_step (q := q) (A := A) (u := u) (c := c) (k := k) (by omega) hT hA h.2.1) rfl rfl rfl (by decide) rfl (by decide) hT (fun v1 w1 hq => ?_)
        obtain ⟨rfl, rfl⟩ := hq
        refine ⟨_, _, RW 0 (rd_next A q) A u c k, rfl, rfl, rfl, ?_⟩
        refine im_g 5 (y := (50, _, _, _)) rfl trivial ?_
        refine im_call [0,1,2,3,4] rfl rfl (c_emit (q := rd_next A q) (A := A) (u := u) (c := c) (k := k) (by omega) hT h.2.2 (wt := 2) (x := wv + nv) (by omega) (by decide)) rfl rfl rfl (by decide) rfl (by decide) hT (fun v1 w1 hq => ?_)
        obtain ⟨rfl, rfl⟩ := hq
        refine ⟨_, _, RW 0 (rd_next A q) A (rd_emu u) (rd_emc u c 2 (wv + nv)) k, rfl, rfl, rfl, ?_⟩
        refine im_g 1 (y := (54, _, _, _)) rfl trivial ?_
        refine im_r rfl rfl trivial rfl ?_
        have hnv : nv = tk_X A N i := by omega
        rw [if_pos (by omega), ← hnv]
        rw [if_neg (by omega)]
        exact ⟨rfl, rfl⟩
      · have hbt := BT_or (u := u.2.2) (p := nv) h.2.2.2.2.1 (by omega)
        have hts : TS (u.1, u.2.1, im_or u.2.2 (im_shl 1 nv)) c := ⟨h.2.2.1, h.2.2.2.1, hbt.1, h.2.2.2.2.2⟩
        refine im_g 10 (y := (42, _, _, _)) rfl trivial ?_
        refine im_call [0,1,2,3,4] rfl rfl (c_step (q := q) (A := A) (u := (u.1, u.2.1, im_or u.2.2 (im_shl 1 nv))) (c := c) (k := k) (by omega) hT hA h.2.1) rfl rfl rfl (by decide) rfl (by decide) hT (fun v1 w1 hq => ?_)
        obtain ⟨rfl, rfl⟩ := hq
        refine ⟨_, _, RW 0 (rd_next A q) A (u.1, u.2.1, im_or u.2.2 (im_shl 1 nv)) c k, rfl, rfl, rfl, ?_⟩
        refine im_g 5 (y := (50, _, _, _)) rfl trivial ?_
        refine im_call [0,1,2,3,4] rfl rfl (c_emit (q := rd_next A q) (A := A) (u := (u.1, u.2.1, im_or u.2.2 (im_shl 1 nv))) (c := c) (k := k) (by omega) hT hts (wt := 2) (x := wv + nv) (by omega) (by decide)) rfl rfl rfl (by decide) rfl (by decide) hT (fun v1 w1 hq => ?_)
        obtain ⟨rfl, rfl⟩ := hq
        refine ⟨_, _, RW 0 (rd_next A q) A (rd_emu (u.1, u.2.1, im_or u.2.2 (im_shl 1 nv))) (rd_emc (u.1, u.2.1, im_or u.2.2 (im_shl 1 nv)) c 2 (wv + nv)) k, rfl, rfl, rfl, ?_⟩
        refine im_g 1 (y := (54, _, _, _)) rfl trivial ?_
        refine im_r rfl rfl trivial rfl ?_
        have hnv : nv = tk_X A N i := by omega
        rw [if_pos (by omega), ← hnv]
        rw [if_pos (by omega)]
        exact ⟨rfl, rfl⟩
    · refine im_g 1 (y := (16, _, _, _)) rfl trivial ?_
      refine im_call [0,1,2,3,4] rfl rfl (c_fail (q := q) (A := A) (u := u) (c := c) (k := k) (by omega) hT (by rw [h.2.1.2.2.2.2.2]; decide)) rfl rfl rfl (by decide) rfl (by decide) hT (fun v1 w1 hq => ?_)
      obtain ⟨rfl, rfl⟩ := hq
      refine ⟨_, _, RW 0 (rd_fail q) A u c k, rfl, rfl, rfl, ?_⟩
      refine im_r rfl rfl trivial rfl ?_
      rw [if_neg (by omega)]
      exact ⟨rfl, rfl⟩
end Rd
section Re
variable {ro : ab_R} {T : List im_T}
set_option maxHeartbeats 8000000 in
theorem rd_0 (hT : T.length < 1000) {n : Nat} (h3 : RdM ro T n 3 52 6 3) : RdM ro T (n + 1) 0 54 4 1 := by
  intro d od q A N u c kk o i l res hA h ho hd hnt hroom hdn
  obtain ⟨d, rfl⟩ : ∃ e, d = e + 1 := ⟨d - 1, by omega⟩
  have hN := RdS_N h
  have hTS := h.2.2
  have hu1 := hTS.1
  refine im_ct_of (own := 5) (ret := none) (code := ab_k_X5_readPart) (nL := 5) (L0 := [some (mr 0), some (.inl o), none, none, none]) (n := 5) rfl rfl rfl rfl rfl rfl rfl rfl rfl ?_
  cases od with
  | false =>
    refine im_g 2 (y := (3, _, _, _)) rfl trivial ?_
    refine im_call [0,1,2,3,4] rfl rfl (w_sign (q := q) (u := u) (c := c) (k := kk) (by omega) hT hA h (b := 91) (by decide)) rfl rfl rfl (by decide) rfl (by decide) hT (fun v1 w1 hq => ?_)
    obtain ⟨rfl, rfl⟩ := hq
    refine ⟨_, _, RW 0 q A u c kk, rfl, rfl, rfl, ?_⟩
    refine im_b rfl rfl ⟨(by omega), trivial⟩ (fun br1 => ?_) (fun br1 => ?_)
    · have c6 : ¬ (tk_C A N i = 100 + 91) := by
        intro hh
        rw [if_pos hh] at br1
        exact absurd br1 (by decide)
      clear br1
      replace c6 : ¬ tk_C A N i = 191 := c6
      rw [dn_0, if_neg c6] at hdn
      rw [show d_first false = 9 from rfl, show d_last false = 16 from rfl] at hdn
      have hxb : 0 ≤ tk_X A N i := (tk_val_b _ _).1
      refine im_g 1 (y := (32, _, _, _)) rfl trivial ?_
      refine im_call [0,1,2,3,4] rfl rfl (w_number (q := q) (u := u) (c := c) (k := kk) (by omega) hT hA h) rfl rfl rfl (by decide) rfl (by decide) hT (fun v1 w1 hq => ?_)
      obtain ⟨nv, rfl, rfl, hnv0⟩ := hq
      refine ⟨_, _, RW 0 q A u c kk, rfl, rfl, rfl, ?_⟩
      refine im_g 3 (y := (40, _, _, _)) rfl trivial ?_
      refine im_bT rfl rfl ⟨(by show im_ir (q 6); rw [h.1.2.1]; decide), trivial⟩ (show q 6 = 0 by rw [h.1.2.1]; rfl) ?_
      refine im_g 1 (y := (51, _, _, _)) rfl trivial ?_
      refine im_call [0,1,2,3,4] rfl rfl (c_ruleWord (q := q) (u := u) (c := c) (k := kk) (by omega) hT hA h) rfl rfl rfl (by decide) rfl (by decide) hT (fun v1 w1 hq => ?_)
      obtain ⟨wv, rfl, rfl, hwv0⟩ := hq
      refine ⟨_, _, RW 0 q A u c kk, rfl, rfl, rfl, ?_⟩
      have h4q : q 4 = l ∧ 0 ≤ l ∧ l ≤ 50 := ⟨h.1.2.2.1, h.1.2.2.2⟩
      have hdw := @d_wi_f (tk_C A N i)
      refine im_g 3 (y := (57, _, _, _)) rfl trivial ?_
      refine im_b rfl rfl ⟨(by first | decide | (have t1 := @d_wi_t (tk_C A N i); have t2 := @d_wi_f (tk_C A N i); constructor <;> omega)), (by first | decide | (have t1 := @d_wi_t (tk_C A N i); have t2 := @d_wi_f (tk_C A N i); constructor <;> omega)), trivial⟩ (fun br2 => ?_) (fun br2 => ?_)
      · refine im_g 4 (y := (81, _, _, _)) rfl trivial ?_
        refine im_bF rfl rfl ⟨(by omega), trivial⟩ (by decide) ?_
        refine im_g 3 (y := (90, _, _, _)) rfl trivial ?_
        refine im_b rfl rfl ⟨(by omega), (by omega), trivial⟩ (fun br3 => ?_) (fun br3 => ?_)
        · have hS0 : RSt A (pl_U q 4 (q 4 + 1)) i := h.2.1
          have hS2 : RSt A (rd_next A (pl_U q 4 (q 4 + 1))) (i + 1) := RSt_next hS0
          have hlt := tk_lt (A := A) hN (i := i) (by omega)
          refine im_g 7 (y := (109, _, _, _)) rfl trivial ?_
          refine im_call [0,1,2,3,4] rfl rfl (c_step (q := (pl_U q 4 (q 4 + 1))) (A := A) (u := u) (c := c) (k := kk) (by omega) hT hA (i := i) hS0) rfl rfl rfl (by decide) rfl (by decide) hT (fun v1 w1 hq => ?_)
          obtain ⟨rfl, rfl⟩ := hq
          refine ⟨_, _, RW 0 (rd_next A (pl_U q 4 (q 4 + 1))) A u c kk, rfl, rfl, rfl, ?_⟩
          refine im_g 2 (y := (114, _, _, _)) rfl trivial ?_
          refine im_b rfl rfl ⟨(by first | decide | (have t1 := @d_wi_t (tk_C A N i); have t2 := @d_wi_f (tk_C A N i); constructor <;> omega)), (by first | decide | (have t1 := @d_wi_t (tk_C A N i); have t2 := @d_wi_f (tk_C A N i); constructor <;> omega)), trivial⟩ (fun br4 => ?_) (fun br4 => ?_)
          · refine im_g 2 (y := (131, _, _, _)) rfl trivial ?_
            refine im_bT rfl rfl ⟨(by show im_ir (q 6); rw [h.1.2.1]; decide), trivial⟩ (show q 6 = 0 by rw [h.1.2.1]; rfl) ?_
            refine im_g 3 (y := (150, _, _, _)) rfl trivial ?_
            refine im_call [0,1,2,3,4] rfl rfl (c_emit (q := (rd_next A (pl_U q 4 (q 4 + 1)))) (A := A) (u := u) (c := c) (k := kk) (by omega) hT hTS (wt := 2) (x := wv) (by omega) (by decide)) rfl rfl rfl (by decide) rfl (by decide) hT (fun v1 w1 hq => ?_)
            obtain ⟨rfl, rfl⟩ := hq
            refine ⟨_, _, RW 0 ((rd_next A (pl_U q 4 (q 4 + 1)))) A (rd_emu (u)) (rd_emc (u) (c) (2) (wv)) kk, rfl, rfl, rfl, ?_⟩
            refine im_g 1 (y := (154, _, _, _)) rfl trivial ?_
            refine im_r rfl rfl trivial rfl ?_
            have hres : res = .inr (i + 1, l + 1, d_wd wv) := by
              have hwv : wv = d_wi false (tk_C A N i) := by omega
              rw [hwv]
              rw [if_pos (show (tk_C A N i = 50 ∧ tk_X A N i ≤ 1000) ∨ (9 ≤ tk_C A N i ∧ tk_C A N i ≤ 16) from Or.inr (show 9 ≤ tk_C A N i ∧ tk_C A N i ≤ 16 by omega)), if_neg (by omega), if_neg (fun z => absurd z.1 (by decide)), if_neg (by omega)] at hdn
              cases hdn; rfl
            rw [hres]
            exact ⟨rfl, _, _, _, rfl, RdP_leaf (v2 := u.2.2) ⟨h.1.1, h.1.2.1⟩ ⟨show q 4 + 1 = l + 1 by omega, by omega, by omega⟩ hS2 (by omega) hTS (by omega) (by omega) (Or.inr ⟨rfl, rfl, (show 0 ≤ wv ∧ wv < 8 by omega)⟩) (DPm_wd_f _ _) (OVs_r _) (by omega)⟩
          · refine im_g 3 (y := (120, _, _, _)) rfl trivial ?_
            refine im_call [0,1,2,3,4] rfl rfl (c_emit (q := (rd_next A (pl_U q 4 (q 4 + 1)))) (A := A) (u := u) (c := c) (k := kk) (by omega) hT hTS (wt := 1) (x := nv) (by omega) (by decide)) rfl rfl rfl (by decide) rfl (by decide) hT (fun v1 w1 hq => ?_)
            obtain ⟨rfl, rfl⟩ := hq
            refine ⟨_, _, RW 0 ((rd_next A (pl_U q 4 (q 4 + 1)))) A (rd_emu (u)) (rd_emc (u) (c) (1) (nv)) kk, rfl, rfl, rfl, ?_⟩
            refine im_g 2 (y := (154, _, _, _)) rfl trivial ?_
            refine im_r rfl rfl trivial rfl ?_
            have hres : res = .inr (i + 1, l + 1, d_num nv) := by
              have hnv : nv = tk_X A N i := by omega
              rw [hnv]
              rw [if_pos (show (tk_C A N i = 50 ∧ tk_X A N i ≤ 1000) ∨ (9 ≤ tk_C A N i ∧ tk_C A N i ≤ 16) from Or.inl ⟨by omega, by omega⟩), if_neg (by omega), if_neg (by omega), if_pos (by omega)] at hdn
              cases hdn; rfl
            rw [hres]
            exact ⟨rfl, _, _, _, rfl, RdP_leaf (v2 := u.2.2) ⟨h.1.1, h.1.2.1⟩ ⟨show q 4 + 1 = l + 1 by omega, by omega, by omega⟩ hS2 (by omega) hTS (by omega) (by omega) (Or.inl ⟨rfl, rfl⟩) (DPm_num _ _ _) (OVs_r _) (by omega)⟩
        · refine im_g 1 (y := (94, _, _, _)) rfl trivial ?_
          refine im_call [0,1,2,3,4] rfl rfl (c_fail (q := q) (A := A) (u := u) (c := c) (k := kk) (by omega) hT (by rw [h.2.1.2.2.2.2.2]; decide)) rfl rfl rfl (by decide) rfl (by decide) hT (fun v1 w1 hq => ?_)
          obtain ⟨rfl, rfl⟩ := hq
          refine ⟨_, _, RW 0 (rd_fail q) A u c kk, rfl, rfl, rfl, ?_⟩
          refine im_r rfl rfl trivial rfl ?_
          have hres : res = .inl i := by
            by_cases hp : (tk_C A N i = 50 ∧ tk_X A N i ≤ 1000) ∨ (9 ≤ tk_C A N i ∧ tk_C A N i ≤ 16)
            · rw [if_pos hp, if_pos (by omega)] at hdn; cases hdn; rfl
            · rw [if_neg hp] at hdn; cases hdn; rfl
          rw [hres]
          exact ⟨rfl, _, _, _, rfl, RdS_fail h rfl⟩
      · refine im_g 2 (y := (62, _, _, _)) rfl trivial ?_
        refine im_b rfl rfl ⟨(by first | decide | (have t1 := @d_wi_t (tk_C A N i); have t2 := @d_wi_f (tk_C A N i); constructor <;> omega)), (by first | decide | (have t1 := @d_wi_t (tk_C A N i); have t2 := @d_wi_f (tk_C A N i); constructor <;> omega)), trivial⟩ (fun br5 => ?_) (fun br5 => ?_)
        · refine im_g 3 (y := (81, _, _, _)) rfl trivial ?_
          refine im_bT rfl rfl ⟨(by omega), trivial⟩ rfl ?_
          refine im_g 1 (y := (94, _, _, _)) rfl trivial ?_
          refine im_call [0,1,2,3,4] rfl rfl (c_fail (q := q) (A := A) (u := u) (c := c) (k := kk) (by omega) hT (by rw [h.2.1.2.2.2.2.2]; decide)) rfl rfl rfl (by decide) rfl (by decide) hT (fun v1 w1 hq => ?_)
          obtain ⟨rfl, rfl⟩ := hq
          refine ⟨_, _, RW 0 (rd_fail q) A u c kk, rfl, rfl, rfl, ?_⟩
          refine im_r rfl rfl trivial rfl ?_
          have hres : res = .inl i := by
            by_cases hp : (tk_C A N i = 50 ∧ tk_X A N i ≤ 1000) ∨ (9 ≤ tk_C A N i ∧ tk_C A N i ≤ 16)
            · rw [if_pos hp, if_pos (by omega)] at hdn; cases hdn; rfl
            · rw [if_neg hp] at hdn; cases hdn; rfl
          rw [hres]
          exact ⟨rfl, _, _, _, rfl, RdS_fail h rfl⟩
        · refine im_g 2 (y := (69, _, _, _)) rfl trivial ?_
          refine im_b rfl rfl ⟨(by first | decide | (have t1 := @d_wi_t (tk_C A N i); have t2 := @d_wi_f (tk_C A N i); constructor <;> omega)), (by first | decide | (have t1 := @d_wi_t (tk_C A N i); have t2 := @d_wi_f (tk_C A N i); constructor <;> omega)), trivial⟩ (fun br6 => ?_) (fun br6 => ?_)
          · refine im_g 3 (y := (81, _, _, _)) rfl trivial ?_
            refine im_bT rfl rfl ⟨(by omega), trivial⟩ rfl ?_
            refine im_g 1 (y := (94, _, _, _)) rfl trivial ?_
            refine im_call [0,1,2,3,4] rfl rfl (c_fail (q := q) (A := A) (u := u) (c := c) (k := kk) (by omega) hT (by rw [h.2.1.2.2.2.2.2]; decide)) rfl rfl rfl (by decide) rfl (by decide) hT (fun v1 w1 hq => ?_)
            obtain ⟨rfl, rfl⟩ := hq
            refine ⟨_, _, RW 0 (rd_fail q) A u c kk, rfl, rfl, rfl, ?_⟩
            refine im_r rfl rfl trivial rfl ?_
            have hres : res = .inl i := by
              by_cases hp : (tk_C A N i = 50 ∧ tk_X A N i ≤ 1000) ∨ (9 ≤ tk_C A N i ∧ tk_C A N i ≤ 16)
              · rw [if_pos hp, if_pos (by omega)] at hdn; cases hdn; rfl
              · rw [if_neg hp] at hdn; cases hdn; rfl
            rw [hres]
            exact ⟨rfl, _, _, _, rfl, RdS_fail h rfl⟩
          · refine im_g 4 (y := (81, _, _, _)) rfl trivial ?_
            refine im_bF rfl rfl ⟨(by omega), trivial⟩ (by decide) ?_
            refine im_g 3 (y := (90, _, _, _)) rfl trivial ?_
            refine im_b rfl rfl ⟨(by omega), (by omega), trivial⟩ (fun br7 => ?_) (fun br7 => ?_)
            · have hS0 : RSt A (pl_U q 4 (q 4 + 1)) i := h.2.1
              have hS2 : RSt A (rd_next A (pl_U q 4 (q 4 + 1))) (i + 1) := RSt_next hS0
              have hlt := tk_lt (A := A) hN (i := i) (by omega)
              refine im_g 7 (y := (109, _, _, _)) rfl trivial ?_
              refine im_call [0,1,2,3,4] rfl rfl (c_step (q := (pl_U q 4 (q 4 + 1))) (A := A) (u := u) (c := c) (k := kk) (by omega) hT hA (i := i) hS0) rfl rfl rfl (by decide) rfl (by decide) hT (fun v1 w1 hq => ?_)
              obtain ⟨rfl, rfl⟩ := hq
              refine ⟨_, _, RW 0 (rd_next A (pl_U q 4 (q 4 + 1))) A u c kk, rfl, rfl, rfl, ?_⟩
              refine im_g 2 (y := (114, _, _, _)) rfl trivial ?_
              refine im_b rfl rfl ⟨(by first | decide | (have t1 := @d_wi_t (tk_C A N i); have t2 := @d_wi_f (tk_C A N i); constructor <;> omega)), (by first | decide | (have t1 := @d_wi_t (tk_C A N i); have t2 := @d_wi_f (tk_C A N i); constructor <;> omega)), trivial⟩ (fun br8 => ?_) (fun br8 => ?_)
              · refine im_g 2 (y := (131, _, _, _)) rfl trivial ?_
                refine im_bT rfl rfl ⟨(by show im_ir (q 6); rw [h.1.2.1]; decide), trivial⟩ (show q 6 = 0 by rw [h.1.2.1]; rfl) ?_
                refine im_g 3 (y := (150, _, _, _)) rfl trivial ?_
                refine im_call [0,1,2,3,4] rfl rfl (c_emit (q := (rd_next A (pl_U q 4 (q 4 + 1)))) (A := A) (u := u) (c := c) (k := kk) (by omega) hT hTS (wt := 2) (x := wv) (by omega) (by decide)) rfl rfl rfl (by decide) rfl (by decide) hT (fun v1 w1 hq => ?_)
                obtain ⟨rfl, rfl⟩ := hq
                refine ⟨_, _, RW 0 ((rd_next A (pl_U q 4 (q 4 + 1)))) A (rd_emu (u)) (rd_emc (u) (c) (2) (wv)) kk, rfl, rfl, rfl, ?_⟩
                refine im_g 1 (y := (154, _, _, _)) rfl trivial ?_
                refine im_r rfl rfl trivial rfl ?_
                have hres : res = .inr (i + 1, l + 1, d_wd wv) := by
                  have hwv : wv = d_wi false (tk_C A N i) := by omega
                  rw [hwv]
                  rw [if_pos (show (tk_C A N i = 50 ∧ tk_X A N i ≤ 1000) ∨ (9 ≤ tk_C A N i ∧ tk_C A N i ≤ 16) from Or.inr (show 9 ≤ tk_C A N i ∧ tk_C A N i ≤ 16 by omega)), if_neg (by omega), if_neg (fun z => absurd z.1 (by decide)), if_neg (by omega)] at hdn
                  cases hdn; rfl
                rw [hres]
                exact ⟨rfl, _, _, _, rfl, RdP_leaf (v2 := u.2.2) ⟨h.1.1, h.1.2.1⟩ ⟨show q 4 + 1 = l + 1 by omega, by omega, by omega⟩ hS2 (by omega) hTS (by omega) (by omega) (Or.inr ⟨rfl, rfl, (show 0 ≤ wv ∧ wv < 8 by omega)⟩) (DPm_wd_f _ _) (OVs_r _) (by omega)⟩
              · refine im_g 3 (y := (120, _, _, _)) rfl trivial ?_
                refine im_call [0,1,2,3,4] rfl rfl (c_emit (q := (rd_next A (pl_U q 4 (q 4 + 1)))) (A := A) (u := u) (c := c) (k := kk) (by omega) hT hTS (wt := 1) (x := nv) (by omega) (by decide)) rfl rfl rfl (by decide) rfl (by decide) hT (fun v1 w1 hq => ?_)
                obtain ⟨rfl, rfl⟩ := hq
                refine ⟨_, _, RW 0 ((rd_next A (pl_U q 4 (q 4 + 1)))) A (rd_emu (u)) (rd_emc (u) (c) (1) (nv)) kk, rfl, rfl, rfl, ?_⟩
                refine im_g 2 (y := (154, _, _, _)) rfl trivial ?_
                refine im_r rfl rfl trivial rfl ?_
                have hres : res = .inr (i + 1, l + 1, d_num nv) := by
                  have hnv : nv = tk_X A N i := by omega
                  rw [hnv]
                  rw [if_pos (show (tk_C A N i = 50 ∧ tk_X A N i ≤ 1000) ∨ (9 ≤ tk_C A N i ∧ tk_C A N i ≤ 16) from Or.inl ⟨by omega, by omega⟩), if_neg (by omega), if_neg (by omega), if_pos (by omega)] at hdn
                  cases hdn; rfl
                rw [hres]
                exact ⟨rfl, _, _, _, rfl, RdP_leaf (v2 := u.2.2) ⟨h.1.1, h.1.2.1⟩ ⟨show q 4 + 1 = l + 1 by omega, by omega, by omega⟩ hS2 (by omega) hTS (by omega) (by omega) (Or.inl ⟨rfl, rfl⟩) (DPm_num _ _ _) (OVs_r _) (by omega)⟩
            · refine im_g 1 (y := (94, _, _, _)) rfl trivial ?_
              refine im_call [0,1,2,3,4] rfl rfl (c_fail (q := q) (A := A) (u := u) (c := c) (k := kk) (by omega) hT (by rw [h.2.1.2.2.2.2.2]; decide)) rfl rfl rfl (by decide) rfl (by decide) hT (fun v1 w1 hq => ?_)
              obtain ⟨rfl, rfl⟩ := hq
              refine ⟨_, _, RW 0 (rd_fail q) A u c kk, rfl, rfl, rfl, ?_⟩
              refine im_r rfl rfl trivial rfl ?_
              have hres : res = .inl i := by
                by_cases hp : (tk_C A N i = 50 ∧ tk_X A N i ≤ 1000) ∨ (9 ≤ tk_C A N i ∧ tk_C A N i ≤ 16)
                · rw [if_pos hp, if_pos (by omega)] at hdn; cases hdn; rfl
                · rw [if_neg hp] at hdn; cases hdn; rfl
              rw [hres]
              exact ⟨rfl, _, _, _, rfl, RdS_fail h rfl⟩
    · have c6 : tk_C A N i = 100 + 91 := by
        by_cases hh : tk_C A N i = 100 + 91
        · exact hh
        · rw [if_neg hh] at br1; exact absurd rfl br1
      clear br1
      replace c6 : tk_C A N i = 191 := c6
      rw [dn_0, if_pos c6] at hdn
      have hlt := tk_lt (A := A) hN (i := i) (by omega)
      by_cases ho8 : o = 8
      · rw [if_pos ho8] at hdn
        have hres : res = .inl i := by cases hdn; rfl
        refine im_g 2 (y := (11, _, _, _)) rfl trivial ?_
        refine im_call [0,1,2,3,4] rfl rfl (c_enterN (q := q) (A := A) (u := u) (c := c) (k := kk) (by omega) hT h.2.1 ho8) rfl rfl rfl (by decide) rfl (by decide) hT (fun v1 w1 hq => ?_)
        obtain ⟨rfl, rfl⟩ := hq
        refine ⟨_, _, RW 0 (rd_fail q) A u c kk, rfl, rfl, rfl, ?_⟩
        refine im_bT rfl rfl ⟨(by omega), trivial⟩ rfl ?_
        refine im_r rfl rfl trivial rfl ?_
        rw [hres]
        exact ⟨rfl, _, _, _, rfl, RdS_fail h rfl⟩
      · rw [if_neg ho8] at hdn
        have hS1 := RdS_next h
        refine im_g 2 (y := (11, _, _, _)) rfl trivial ?_
        refine im_call [0,1,2,3,4] rfl rfl (c_enterY (q := q) (A := A) (u := u) (c := c) (k := kk) (by omega) hT hA h.2.1 (by omega)) rfl rfl rfl (by decide) rfl (by decide) hT (fun v1 w1 hq => ?_)
        obtain ⟨rfl, rfl⟩ := hq
        refine ⟨_, _, RW 0 (rd_next A q) A u c kk, rfl, rfl, rfl, ?_⟩
        refine im_bF rfl rfl ⟨(by omega), trivial⟩ (by decide) ?_
        refine im_g 4 (y := (21, _, _, _)) rfl trivial ?_
        rcases d_bind_s hdn with ⟨f, q1, hres⟩ | ⟨j1, l1, m1, q1, q3⟩
        · refine im_call [0,1,2,3,4] rfl rfl (h3 d false (rd_next A q) A N (u) (c) kk (o + 1) (i + 1) (l) (.inl f) hA (hS1) (by omega) (by omega) (by omega) (by omega) q1) rfl rfl rfl (by decide) rfl (by decide) hT (fun v1 w1 hq => ?_)
          obtain ⟨rfl, q2, u2, c2, rfl, hP2⟩ := hq
          refine ⟨_, _, RW 0 q2 A u2 c2 kk, rfl, rfl, rfl, ?_⟩
          refine im_g 2 (y := (27, _, _, _)) rfl trivial ?_
          refine im_call [0,1,2,3,4] rfl rfl (c_closeD (q := q2) (A := A) (u := u2) (c := c2) (k := kk) (by omega) hT (RdP_D hP2) (b := 93)) rfl rfl rfl (by decide) rfl (by decide) hT (fun v1 w1 hq => ?_)
          obtain ⟨rfl, rfl⟩ := hq
          refine ⟨_, _, RW 0 q2 A u2 c2 kk, rfl, rfl, rfl, ?_⟩
          refine im_r rfl rfl trivial rfl ?_
          rw [hres]
          exact ⟨rfl, _, _, _, rfl, RdP_f hP2 rfl⟩
        · have hj1 := dn_nt hN (by decide) (by omega) q1
          refine im_call [0,1,2,3,4] rfl rfl (h3 d false (rd_next A q) A N (u) (c) kk (o + 1) (i + 1) (l) (.inr (j1, l1, m1)) hA (hS1) (by omega) (by omega) (by omega) (by omega) q1) rfl rfl rfl (by decide) rfl (by decide) hT (fun v1 w1 hq => ?_)
          obtain ⟨rfl, q2, u2, c2, rfl, hP2⟩ := hq
          refine ⟨_, _, RW 0 q2 A u2 c2 kk, rfl, rfl, rfl, ?_⟩
          refine im_g 2 (y := (27, _, _, _)) rfl trivial ?_
          refine im_call [0,1,2,3,4] rfl rfl (c_close (q := q2) (u := u2) (c := c2) (k := kk) (by omega) hT hA (RdP_S hP2) (b := 93) (by decide)) rfl rfl rfl (by decide) rfl (by decide) hT (fun v1 w1 hq => ?_)
          obtain ⟨rfl, rfl⟩ := hq
          refine ⟨_, _, RW 0 (if tk_C A N j1 = 100 + 93 then rd_next A q2 else rd_fail q2) A u2 c2 kk, rfl, rfl, rfl, ?_⟩
          by_cases hcl : tk_C A N j1 = 100 + 93
          · rw [if_pos hcl]
            rw [if_pos (show tk_C A N j1 = 193 from hcl)] at q3
            refine im_r rfl rfl trivial rfl ?_
            have hres : res = .inr (j1 + 1, l1, m1) := by cases q3; rfl
            rw [hres]
            exact ⟨rfl, _, _, _, rfl, RdP_base (RdP_more (RdP_next hP2) (by omega)) (by omega)⟩
          · rw [if_neg hcl]
            rw [if_neg (show ¬ tk_C A N j1 = 193 from hcl)] at q3
            refine im_r rfl rfl trivial rfl ?_
            have hres : res = .inl j1 := by cases q3; rfl
            rw [hres]
            exact ⟨rfl, _, _, _, rfl, RdP_f (RdP_fail hP2) rfl⟩
  | true =>
    refine im_g 2 (y := (3, _, _, _)) rfl trivial ?_
    refine im_call [0,1,2,3,4] rfl rfl (w_sign (q := q) (u := u) (c := c) (k := kk) (by omega) hT hA h (b := 91) (by decide)) rfl rfl rfl (by decide) rfl (by decide) hT (fun v1 w1 hq => ?_)
    obtain ⟨rfl, rfl⟩ := hq
    refine ⟨_, _, RW 0 q A u c kk, rfl, rfl, rfl, ?_⟩
    refine im_b rfl rfl ⟨(by omega), trivial⟩ (fun br1 => ?_) (fun br1 => ?_)
    · have c6 : ¬ (tk_C A N i = 100 + 91) := by
        intro hh
        rw [if_pos hh] at br1
        exact absurd br1 (by decide)
      clear br1
      replace c6 : ¬ tk_C A N i = 191 := c6
      rw [dn_0, if_neg c6] at hdn
      rw [show d_first true = 14 from rfl, show d_last true = 20 from rfl] at hdn
      have hxb : 0 ≤ tk_X A N i := (tk_val_b _ _).1
      refine im_g 1 (y := (32, _, _, _)) rfl trivial ?_
      refine im_call [0,1,2,3,4] rfl rfl (w_number (q := q) (u := u) (c := c) (k := kk) (by omega) hT hA h) rfl rfl rfl (by decide) rfl (by decide) hT (fun v1 w1 hq => ?_)
      obtain ⟨nv, rfl, rfl, hnv0⟩ := hq
      refine ⟨_, _, RW 0 q A u c kk, rfl, rfl, rfl, ?_⟩
      refine im_g 3 (y := (40, _, _, _)) rfl trivial ?_
      refine im_bF rfl rfl ⟨(by show im_ir (q 6); rw [h.1.2.1]; decide), trivial⟩ (show ¬ q 6 = 0 by rw [h.1.2.1]; decide) ?_
      refine im_g 1 (y := (44, _, _, _)) rfl trivial ?_
      refine im_call [0,1,2,3,4] rfl rfl (c_orderWord (q := q) (u := u) (c := c) (k := kk) (by omega) hT hA h) rfl rfl rfl (by decide) rfl (by decide) hT (fun v1 w1 hq => ?_)
      obtain ⟨wv, rfl, rfl, hwv0⟩ := hq
      refine ⟨_, _, RW 0 q A u c kk, rfl, rfl, rfl, ?_⟩
      refine im_g 1 (y := (54, _, _, _)) rfl trivial ?_
      have h4q : q 4 = l ∧ 0 ≤ l ∧ l ≤ 50 := ⟨h.1.2.2.1, h.1.2.2.2⟩
      have hdw := @d_wi_t (tk_C A N i)
      refine im_g 3 (y := (57, _, _, _)) rfl trivial ?_
      refine im_b rfl rfl ⟨(by first | decide | (have t1 := @d_wi_t (tk_C A N i); have t2 := @d_wi_f (tk_C A N i); constructor <;> omega)), (by first | decide | (have t1 := @d_wi_t (tk_C A N i); have t2 := @d_wi_f (tk_C A N i); constructor <;> omega)), trivial⟩ (fun br2 => ?_) (fun br2 => ?_)
      · refine im_g 4 (y := (81, _, _, _)) rfl trivial ?_
        refine im_bF rfl rfl ⟨(by omega), trivial⟩ (by decide) ?_
        refine im_g 3 (y := (90, _, _, _)) rfl trivial ?_
        refine im_b rfl rfl ⟨(by omega), (by omega), trivial⟩ (fun br3 => ?_) (fun br3 => ?_)
        · have hS0 : RSt A (pl_U q 4 (q 4 + 1)) i := h.2.1
          have hS2 : RSt A (rd_next A (pl_U q 4 (q 4 + 1))) (i + 1) := RSt_next hS0
          have hlt := tk_lt (A := A) hN (i := i) (by omega)
          refine im_g 7 (y := (109, _, _, _)) rfl trivial ?_
          refine im_call [0,1,2,3,4] rfl rfl (c_step (q := (pl_U q 4 (q 4 + 1))) (A := A) (u := u) (c := c) (k := kk) (by omega) hT hA (i := i) hS0) rfl rfl rfl (by decide) rfl (by decide) hT (fun v1 w1 hq => ?_)
          obtain ⟨rfl, rfl⟩ := hq
          refine ⟨_, _, RW 0 (rd_next A (pl_U q 4 (q 4 + 1))) A u c kk, rfl, rfl, rfl, ?_⟩
          refine im_g 2 (y := (114, _, _, _)) rfl trivial ?_
          refine im_b rfl rfl ⟨(by first | decide | (have t1 := @d_wi_t (tk_C A N i); have t2 := @d_wi_f (tk_C A N i); constructor <;> omega)), (by first | decide | (have t1 := @d_wi_t (tk_C A N i); have t2 := @d_wi_f (tk_C A N i); constructor <;> omega)), trivial⟩ (fun br4 => ?_) (fun br4 => ?_)
          · refine im_g 2 (y := (131, _, _, _)) rfl trivial ?_
            refine im_bF rfl rfl ⟨(by show im_ir (q 6); rw [h.1.2.1]; decide), trivial⟩ (show ¬ q 6 = 0 by rw [h.1.2.1]; decide) ?_
            refine im_g 2 (y := (136, _, _, _)) rfl trivial ?_
            refine im_b rfl rfl ⟨(by first | decide | (have t1 := @d_wi_t (tk_C A N i); have t2 := @d_wi_f (tk_C A N i); constructor <;> omega)), (by first | decide | (have t1 := @d_wi_t (tk_C A N i); have t2 := @d_wi_f (tk_C A N i); constructor <;> omega)), trivial⟩ (fun br5 => ?_) (fun br5 => ?_)
            · refine im_g 3 (y := (150, _, _, _)) rfl trivial ?_
              refine im_call [0,1,2,3,4] rfl rfl (c_emit (q := (rd_next A (pl_U q 4 (q 4 + 1)))) (A := A) (u := u) (c := c) (k := kk) (by omega) hT hTS (wt := 2) (x := wv) (by omega) (by decide)) rfl rfl rfl (by decide) rfl (by decide) hT (fun v1 w1 hq => ?_)
              obtain ⟨rfl, rfl⟩ := hq
              refine ⟨_, _, RW 0 ((rd_next A (pl_U q 4 (q 4 + 1)))) A (rd_emu (u)) (rd_emc (u) (c) (2) (wv)) kk, rfl, rfl, rfl, ?_⟩
              refine im_g 1 (y := (154, _, _, _)) rfl trivial ?_
              refine im_r rfl rfl trivial rfl ?_
              have hres : res = .inr (i + 1, l + 1, d_wd wv) := by
                have hwv : wv = d_wi true (tk_C A N i) := by omega
                rw [hwv]
                rw [if_pos (show (tk_C A N i = 50 ∧ tk_X A N i ≤ 1000) ∨ (14 ≤ tk_C A N i ∧ tk_C A N i ≤ 20) from Or.inr (show 14 ≤ tk_C A N i ∧ tk_C A N i ≤ 20 by omega)), if_neg (by omega), if_neg (by omega), if_neg (by omega)] at hdn
                cases hdn; rfl
              rw [hres]
              exact ⟨rfl, _, _, _, rfl, RdP_leaf (v2 := u.2.2) ⟨h.1.1, h.1.2.1⟩ ⟨show q 4 + 1 = l + 1 by omega, by omega, by omega⟩ hS2 (by omega) hTS (by omega) (by omega) (Or.inr ⟨rfl, rfl, (show 0 ≤ wv ∧ wv < 25 by omega)⟩) (DPm_wd_lo (by omega)) (OVs_r _) (by omega)⟩
            · have hS3 : RdS true A N (i + 1) (l + 1) u c (rd_next A (pl_U q 4 (q 4 + 1))) := ⟨⟨h.1.1, h.1.2.1, (show q 4 + 1 = l + 1 by omega), by omega⟩, hS2, hTS⟩
              by_cases hw9 : tk_C A N (i + 1) = 50 ∧ 0 ≤ tk_X A N (i + 1) ∧ tk_X A N (i + 1) ≤ 9
              · refine im_g 2 (y := (141, _, _, _)) rfl trivial ?_
                refine im_call [0,1,2,3,4] rfl rfl (c_whose (od := true) (N := N) (i := i + 1) (l := l + 1) (q := (rd_next A (pl_U q 4 (q 4 + 1)))) (u := u) (c := c) (k := kk) (by omega) hT hA hS3 (wv := wv) (by omega)) rfl rfl rfl (by decide) rfl (by decide) hT (fun v1 w1 hq => ?_)
                obtain ⟨rfl, hw9w⟩ := hq; rw [if_pos hw9] at hw9w; subst hw9w
                refine ⟨_, _, RW 0 (rd_next A (rd_next A (pl_U q 4 (q 4 + 1)))) A (rd_emu (u.1, u.2.1, if wv = 15 then im_or u.2.2 (im_shl 1 (tk_X A N (i + 1))) else u.2.2)) (rd_emc (u.1, u.2.1, if wv = 15 then im_or u.2.2 (im_shl 1 (tk_X A N (i + 1))) else u.2.2) c 2 (wv + tk_X A N (i + 1))) kk, rfl, rfl, rfl, ?_⟩
                refine im_g 1 (y := (154, _, _, _)) rfl trivial ?_
                refine im_r rfl rfl trivial rfl ?_
                have hwv : wv = d_wi true (tk_C A N i) := by omega
                have hres : res = .inr (i + 2, l + 1, d_wd (wv + tk_X A N (i + 1))) := by
                  rw [if_pos (show (tk_C A N i = 50 ∧ tk_X A N i ≤ 1000) ∨ (14 ≤ tk_C A N i ∧ tk_C A N i ≤ 20) from Or.inr (show 14 ≤ tk_C A N i ∧ tk_C A N i ≤ 20 by omega)), if_neg (by omega), if_pos ⟨rfl, by omega⟩, if_pos hw9, ← hwv] at hdn
                  cases hdn; rfl
                rw [hres]
                have hn3 : RSt A (rd_next A (rd_next A (pl_U q 4 (q 4 + 1)))) (i + 2) := by have t := RSt_next hS2; rw [show i + 1 + 1 = i + 2 by omega] at t; exact t
                have hbt := BT_or (u := u.2.2) (p := tk_X A N (i + 1)) hTS.2.2.1 (by omega)
                by_cases e15 : wv = 15
                · rw [if_pos e15, e15]
                  have hts2 : TS (u.1, u.2.1, im_or u.2.2 (im_shl 1 (tk_X A N (i + 1)))) c := ⟨hTS.1, hTS.2.1, hbt.1, hTS.2.2.2⟩
                  exact ⟨rfl, _, _, _, rfl, RdP_leaf ⟨h.1.1, h.1.2.1⟩ ⟨show q 4 + 1 = l + 1 by omega, by omega, by omega⟩ hn3 (by omega) hts2 (by omega) (by omega) (Or.inr ⟨rfl, rfl, (show 0 ≤ 15 + tk_X A N (i + 1) ∧ 15 + tk_X A N (i + 1) < 25 by omega)⟩) (DPm_wd_hi (by omega) hbt.2.1) hbt.2.2 (by omega)⟩
                · rw [if_neg e15]
                  exact ⟨rfl, _, _, _, rfl, RdP_leaf ⟨h.1.1, h.1.2.1⟩ ⟨show q 4 + 1 = l + 1 by omega, by omega, by omega⟩ hn3 (by omega) hTS (by omega) (by omega) (Or.inr ⟨rfl, rfl, (show 0 ≤ wv + tk_X A N (i + 1) ∧ wv + tk_X A N (i + 1) < 25 by omega)⟩) (DPm_wd_lo (by omega)) (OVs_r _) (by omega)⟩
              · refine im_g 2 (y := (141, _, _, _)) rfl trivial ?_
                refine im_call [0,1,2,3,4] rfl rfl (c_whose (od := true) (N := N) (i := i + 1) (l := l + 1) (q := (rd_next A (pl_U q 4 (q 4 + 1)))) (u := u) (c := c) (k := kk) (by omega) hT hA hS3 (wv := wv) (by omega)) rfl rfl rfl (by decide) rfl (by decide) hT (fun v1 w1 hq => ?_)
                obtain ⟨rfl, hw9w⟩ := hq; rw [if_neg hw9] at hw9w; subst hw9w
                refine ⟨_, _, RW 0 (rd_fail (rd_next A (pl_U q 4 (q 4 + 1)))) A u c kk, rfl, rfl, rfl, ?_⟩
                refine im_g 1 (y := (154, _, _, _)) rfl trivial ?_
                refine im_r rfl rfl trivial rfl ?_
                have hwv : wv = d_wi true (tk_C A N i) := by omega
                have hres : res = .inl (i + 1) := by
                  rw [if_pos (show (tk_C A N i = 50 ∧ tk_X A N i ≤ 1000) ∨ (14 ≤ tk_C A N i ∧ tk_C A N i ≤ 20) from Or.inr (show 14 ≤ tk_C A N i ∧ tk_C A N i ≤ 20 by omega)), if_neg (by omega), if_pos ⟨rfl, by omega⟩, if_neg hw9] at hdn
                  cases hdn; rfl
                rw [hres]
                exact ⟨rfl, _, _, _, rfl, RdS_fail hS3 rfl⟩
          · refine im_g 3 (y := (120, _, _, _)) rfl trivial ?_
            refine im_call [0,1,2,3,4] rfl rfl (c_emit (q := (rd_next A (pl_U q 4 (q 4 + 1)))) (A := A) (u := u) (c := c) (k := kk) (by omega) hT hTS (wt := 1) (x := nv) (by omega) (by decide)) rfl rfl rfl (by decide) rfl (by decide) hT (fun v1 w1 hq => ?_)
            obtain ⟨rfl, rfl⟩ := hq
            refine ⟨_, _, RW 0 ((rd_next A (pl_U q 4 (q 4 + 1)))) A (rd_emu (u)) (rd_emc (u) (c) (1) (nv)) kk, rfl, rfl, rfl, ?_⟩
            refine im_g 2 (y := (154, _, _, _)) rfl trivial ?_
            refine im_r rfl rfl trivial rfl ?_
            have hres : res = .inr (i + 1, l + 1, d_num nv) := by
              have hnv : nv = tk_X A N i := by omega
              rw [hnv]
              rw [if_pos (show (tk_C A N i = 50 ∧ tk_X A N i ≤ 1000) ∨ (14 ≤ tk_C A N i ∧ tk_C A N i ≤ 20) from Or.inl ⟨by omega, by omega⟩), if_neg (by omega), if_neg (by omega), if_pos (by omega)] at hdn
              cases hdn; rfl
            rw [hres]
            exact ⟨rfl, _, _, _, rfl, RdP_leaf (v2 := u.2.2) ⟨h.1.1, h.1.2.1⟩ ⟨show q 4 + 1 = l + 1 by omega, by omega, by omega⟩ hS2 (by omega) hTS (by omega) (by omega) (Or.inl ⟨rfl, rfl⟩) (DPm_num _ _ _) (OVs_r _) (by omega)⟩
        · refine im_g 1 (y := (94, _, _, _)) rfl trivial ?_
          refine im_call [0,1,2,3,4] rfl rfl (c_fail (q := q) (A := A) (u := u) (c := c) (k := kk) (by omega) hT (by rw [h.2.1.2.2.2.2.2]; decide)) rfl rfl rfl (by decide) rfl (by decide) hT (fun v1 w1 hq => ?_)
          obtain ⟨rfl, rfl⟩ := hq
          refine ⟨_, _, RW 0 (rd_fail q) A u c kk, rfl, rfl, rfl, ?_⟩
          refine im_r rfl rfl trivial rfl ?_
          have hres : res = .inl i := by
            by_cases hp : (tk_C A N i = 50 ∧ tk_X A N i ≤ 1000) ∨ (14 ≤ tk_C A N i ∧ tk_C A N i ≤ 20)
            · rw [if_pos hp, if_pos (by omega)] at hdn; cases hdn; rfl
            · rw [if_neg hp] at hdn; cases hdn; rfl
          rw [hres]
          exact ⟨rfl, _, _, _, rfl, RdS_fail h rfl⟩
      · refine im_g 2 (y := (62, _, _, _)) rfl trivial ?_
        refine im_b rfl rfl ⟨(by first | decide | (have t1 := @d_wi_t (tk_C A N i); have t2 := @d_wi_f (tk_C A N i); constructor <;> omega)), (by first | decide | (have t1 := @d_wi_t (tk_C A N i); have t2 := @d_wi_f (tk_C A N i); constructor <;> omega)), trivial⟩ (fun br6 => ?_) (fun br6 => ?_)
        · refine im_g 3 (y := (81, _, _, _)) rfl trivial ?_
          refine im_bT rfl rfl ⟨(by omega), trivial⟩ rfl ?_
          refine im_g 1 (y := (94, _, _, _)) rfl trivial ?_
          refine im_call [0,1,2,3,4] rfl rfl (c_fail (q := q) (A := A) (u := u) (c := c) (k := kk) (by omega) hT (by rw [h.2.1.2.2.2.2.2]; decide)) rfl rfl rfl (by decide) rfl (by decide) hT (fun v1 w1 hq => ?_)
          obtain ⟨rfl, rfl⟩ := hq
          refine ⟨_, _, RW 0 (rd_fail q) A u c kk, rfl, rfl, rfl, ?_⟩
          refine im_r rfl rfl trivial rfl ?_
          have hres : res = .inl i := by
            by_cases hp : (tk_C A N i = 50 ∧ tk_X A N i ≤ 1000) ∨ (14 ≤ tk_C A N i ∧ tk_C A N i ≤ 20)
            · rw [if_pos hp, if_pos (by omega)] at hdn; cases hdn; rfl
            · rw [if_neg hp] at hdn; cases hdn; rfl
          rw [hres]
          exact ⟨rfl, _, _, _, rfl, RdS_fail h rfl⟩
        · refine im_g 2 (y := (69, _, _, _)) rfl trivial ?_
          refine im_b rfl rfl ⟨(by first | decide | (have t1 := @d_wi_t (tk_C A N i); have t2 := @d_wi_f (tk_C A N i); constructor <;> omega)), (by first | decide | (have t1 := @d_wi_t (tk_C A N i); have t2 := @d_wi_f (tk_C A N i); constructor <;> omega)), trivial⟩ (fun br7 => ?_) (fun br7 => ?_)
          · refine im_g 3 (y := (81, _, _, _)) rfl trivial ?_
            refine im_bT rfl rfl ⟨(by omega), trivial⟩ rfl ?_
            refine im_g 1 (y := (94, _, _, _)) rfl trivial ?_
            refine im_call [0,1,2,3,4] rfl rfl (c_fail (q := q) (A := A) (u := u) (c := c) (k := kk) (by omega) hT (by rw [h.2.1.2.2.2.2.2]; decide)) rfl rfl rfl (by decide) rfl (by decide) hT (fun v1 w1 hq => ?_)
            obtain ⟨rfl, rfl⟩ := hq
            refine ⟨_, _, RW 0 (rd_fail q) A u c kk, rfl, rfl, rfl, ?_⟩
            refine im_r rfl rfl trivial rfl ?_
            have hres : res = .inl i := by
              by_cases hp : (tk_C A N i = 50 ∧ tk_X A N i ≤ 1000) ∨ (14 ≤ tk_C A N i ∧ tk_C A N i ≤ 20)
              · rw [if_pos hp, if_pos (by omega)] at hdn; cases hdn; rfl
              · rw [if_neg hp] at hdn; cases hdn; rfl
            rw [hres]
            exact ⟨rfl, _, _, _, rfl, RdS_fail h rfl⟩
          · refine im_g 4 (y := (81, _, _, _)) rfl trivial ?_
            refine im_bF rfl rfl ⟨(by omega), trivial⟩ (by decide) ?_
            refine im_g 3 (y := (90, _, _, _)) rfl trivial ?_
            refine im_b rfl rfl ⟨(by omega), (by omega), trivial⟩ (fun br8 => ?_) (fun br8 => ?_)
            · have hS0 : RSt A (pl_U q 4 (q 4 + 1)) i := h.2.1
              have hS2 : RSt A (rd_next A (pl_U q 4 (q 4 + 1))) (i + 1) := RSt_next hS0
              have hlt := tk_lt (A := A) hN (i := i) (by omega)
              refine im_g 7 (y := (109, _, _, _)) rfl trivial ?_
              refine im_call [0,1,2,3,4] rfl rfl (c_step (q := (pl_U q 4 (q 4 + 1))) (A := A) (u := u) (c := c) (k := kk) (by omega) hT hA (i := i) hS0) rfl rfl rfl (by decide) rfl (by decide) hT (fun v1 w1 hq => ?_)
              obtain ⟨rfl, rfl⟩ := hq
              refine ⟨_, _, RW 0 (rd_next A (pl_U q 4 (q 4 + 1))) A u c kk, rfl, rfl, rfl, ?_⟩
              refine im_g 2 (y := (114, _, _, _)) rfl trivial ?_
              refine im_b rfl rfl ⟨(by first | decide | (have t1 := @d_wi_t (tk_C A N i); have t2 := @d_wi_f (tk_C A N i); constructor <;> omega)), (by first | decide | (have t1 := @d_wi_t (tk_C A N i); have t2 := @d_wi_f (tk_C A N i); constructor <;> omega)), trivial⟩ (fun br9 => ?_) (fun br9 => ?_)
              · refine im_g 2 (y := (131, _, _, _)) rfl trivial ?_
                refine im_bF rfl rfl ⟨(by show im_ir (q 6); rw [h.1.2.1]; decide), trivial⟩ (show ¬ q 6 = 0 by rw [h.1.2.1]; decide) ?_
                refine im_g 2 (y := (136, _, _, _)) rfl trivial ?_
                refine im_b rfl rfl ⟨(by first | decide | (have t1 := @d_wi_t (tk_C A N i); have t2 := @d_wi_f (tk_C A N i); constructor <;> omega)), (by first | decide | (have t1 := @d_wi_t (tk_C A N i); have t2 := @d_wi_f (tk_C A N i); constructor <;> omega)), trivial⟩ (fun br10 => ?_) (fun br10 => ?_)
                · refine im_g 3 (y := (150, _, _, _)) rfl trivial ?_
                  refine im_call [0,1,2,3,4] rfl rfl (c_emit (q := (rd_next A (pl_U q 4 (q 4 + 1)))) (A := A) (u := u) (c := c) (k := kk) (by omega) hT hTS (wt := 2) (x := wv) (by omega) (by decide)) rfl rfl rfl (by decide) rfl (by decide) hT (fun v1 w1 hq => ?_)
                  obtain ⟨rfl, rfl⟩ := hq
                  refine ⟨_, _, RW 0 ((rd_next A (pl_U q 4 (q 4 + 1)))) A (rd_emu (u)) (rd_emc (u) (c) (2) (wv)) kk, rfl, rfl, rfl, ?_⟩
                  refine im_g 1 (y := (154, _, _, _)) rfl trivial ?_
                  refine im_r rfl rfl trivial rfl ?_
                  have hres : res = .inr (i + 1, l + 1, d_wd wv) := by
                    have hwv : wv = d_wi true (tk_C A N i) := by omega
                    rw [hwv]
                    rw [if_pos (show (tk_C A N i = 50 ∧ tk_X A N i ≤ 1000) ∨ (14 ≤ tk_C A N i ∧ tk_C A N i ≤ 20) from Or.inr (show 14 ≤ tk_C A N i ∧ tk_C A N i ≤ 20 by omega)), if_neg (by omega), if_neg (by omega), if_neg (by omega)] at hdn
                    cases hdn; rfl
                  rw [hres]
                  exact ⟨rfl, _, _, _, rfl, RdP_leaf (v2 := u.2.2) ⟨h.1.1, h.1.2.1⟩ ⟨show q 4 + 1 = l + 1 by omega, by omega, by omega⟩ hS2 (by omega) hTS (by omega) (by omega) (Or.inr ⟨rfl, rfl, (show 0 ≤ wv ∧ wv < 25 by omega)⟩) (DPm_wd_lo (by omega)) (OVs_r _) (by omega)⟩
                · have hS3 : RdS true A N (i + 1) (l + 1) u c (rd_next A (pl_U q 4 (q 4 + 1))) := ⟨⟨h.1.1, h.1.2.1, (show q 4 + 1 = l + 1 by omega), by omega⟩, hS2, hTS⟩
                  by_cases hw9 : tk_C A N (i + 1) = 50 ∧ 0 ≤ tk_X A N (i + 1) ∧ tk_X A N (i + 1) ≤ 9
                  · refine im_g 2 (y := (141, _, _, _)) rfl trivial ?_
                    refine im_call [0,1,2,3,4] rfl rfl (c_whose (od := true) (N := N) (i := i + 1) (l := l + 1) (q := (rd_next A (pl_U q 4 (q 4 + 1)))) (u := u) (c := c) (k := kk) (by omega) hT hA hS3 (wv := wv) (by omega)) rfl rfl rfl (by decide) rfl (by decide) hT (fun v1 w1 hq => ?_)
                    obtain ⟨rfl, hw9w⟩ := hq; rw [if_pos hw9] at hw9w; subst hw9w
                    refine ⟨_, _, RW 0 (rd_next A (rd_next A (pl_U q 4 (q 4 + 1)))) A (rd_emu (u.1, u.2.1, if wv = 15 then im_or u.2.2 (im_shl 1 (tk_X A N (i + 1))) else u.2.2)) (rd_emc (u.1, u.2.1, if wv = 15 then im_or u.2.2 (im_shl 1 (tk_X A N (i + 1))) else u.2.2) c 2 (wv + tk_X A N (i + 1))) kk, rfl, rfl, rfl, ?_⟩
                    refine im_g 1 (y := (154, _, _, _)) rfl trivial ?_
                    refine im_r rfl rfl trivial rfl ?_
                    have hwv : wv = d_wi true (tk_C A N i) := by omega
                    have hres : res = .inr (i + 2, l + 1, d_wd (wv + tk_X A N (i + 1))) := by
                      rw [if_pos (show (tk_C A N i = 50 ∧ tk_X A N i ≤ 1000) ∨ (14 ≤ tk_C A N i ∧ tk_C A N i ≤ 20) from Or.inr (show 14 ≤ tk_C A N i ∧ tk_C A N i ≤ 20 by omega)), if_neg (by omega), if_pos ⟨rfl, by omega⟩, if_pos hw9, ← hwv] at hdn
                      cases hdn; rfl
                    rw [hres]
                    have hn3 : RSt A (rd_next A (rd_next A (pl_U q 4 (q 4 + 1)))) (i + 2) := by have t := RSt_next hS2; rw [show i + 1 + 1 = i + 2 by omega] at t; exact t
                    have hbt := BT_or (u := u.2.2) (p := tk_X A N (i + 1)) hTS.2.2.1 (by omega)
                    by_cases e15 : wv = 15
                    · rw [if_pos e15, e15]
                      have hts2 : TS (u.1, u.2.1, im_or u.2.2 (im_shl 1 (tk_X A N (i + 1)))) c := ⟨hTS.1, hTS.2.1, hbt.1, hTS.2.2.2⟩
                      exact ⟨rfl, _, _, _, rfl, RdP_leaf ⟨h.1.1, h.1.2.1⟩ ⟨show q 4 + 1 = l + 1 by omega, by omega, by omega⟩ hn3 (by omega) hts2 (by omega) (by omega) (Or.inr ⟨rfl, rfl, (show 0 ≤ 15 + tk_X A N (i + 1) ∧ 15 + tk_X A N (i + 1) < 25 by omega)⟩) (DPm_wd_hi (by omega) hbt.2.1) hbt.2.2 (by omega)⟩
                    · rw [if_neg e15]
                      exact ⟨rfl, _, _, _, rfl, RdP_leaf ⟨h.1.1, h.1.2.1⟩ ⟨show q 4 + 1 = l + 1 by omega, by omega, by omega⟩ hn3 (by omega) hTS (by omega) (by omega) (Or.inr ⟨rfl, rfl, (show 0 ≤ wv + tk_X A N (i + 1) ∧ wv + tk_X A N (i + 1) < 25 by omega)⟩) (DPm_wd_lo (by omega)) (OVs_r _) (by omega)⟩
                  · refine im_g 2 (y := (141, _, _, _)) rfl trivial ?_
                    refine im_call [0,1,2,3,4] rfl rfl (c_whose (od := true) (N := N) (i := i + 1) (l := l + 1) (q := (rd_next A (pl_U q 4 (q 4 + 1)))) (u := u) (c := c) (k := kk) (by omega) hT hA hS3 (wv := wv) (by omega)) rfl rfl rfl (by decide) rfl (by decide) hT (fun v1 w1 hq => ?_)
                    obtain ⟨rfl, hw9w⟩ := hq; rw [if_neg hw9] at hw9w; subst hw9w
                    refine ⟨_, _, RW 0 (rd_fail (rd_next A (pl_U q 4 (q 4 + 1)))) A u c kk, rfl, rfl, rfl, ?_⟩
                    refine im_g 1 (y := (154, _, _, _)) rfl trivial ?_
                    refine im_r rfl rfl trivial rfl ?_
                    have hwv : wv = d_wi true (tk_C A N i) := by omega
                    have hres : res = .inl (i + 1) := by
                      rw [if_pos (show (tk_C A N i = 50 ∧ tk_X A N i ≤ 1000) ∨ (14 ≤ tk_C A N i ∧ tk_C A N i ≤ 20) from Or.inr (show 14 ≤ tk_C A N i ∧ tk_C A N i ≤ 20 by omega)), if_neg (by omega), if_pos ⟨rfl, by omega⟩, if_neg hw9] at hdn
                      cases hdn; rfl
                    rw [hres]
                    exact ⟨rfl, _, _, _, rfl, RdS_fail hS3 rfl⟩
              · refine im_g 3 (y := (120, _, _, _)) rfl trivial ?_
                refine im_call [0,1,2,3,4] rfl rfl (c_emit (q := (rd_next A (pl_U q 4 (q 4 + 1)))) (A := A) (u := u) (c := c) (k := kk) (by omega) hT hTS (wt := 1) (x := nv) (by omega) (by decide)) rfl rfl rfl (by decide) rfl (by decide) hT (fun v1 w1 hq => ?_)
                obtain ⟨rfl, rfl⟩ := hq
                refine ⟨_, _, RW 0 ((rd_next A (pl_U q 4 (q 4 + 1)))) A (rd_emu (u)) (rd_emc (u) (c) (1) (nv)) kk, rfl, rfl, rfl, ?_⟩
                refine im_g 2 (y := (154, _, _, _)) rfl trivial ?_
                refine im_r rfl rfl trivial rfl ?_
                have hres : res = .inr (i + 1, l + 1, d_num nv) := by
                  have hnv : nv = tk_X A N i := by omega
                  rw [hnv]
                  rw [if_pos (show (tk_C A N i = 50 ∧ tk_X A N i ≤ 1000) ∨ (14 ≤ tk_C A N i ∧ tk_C A N i ≤ 20) from Or.inl ⟨by omega, by omega⟩), if_neg (by omega), if_neg (by omega), if_pos (by omega)] at hdn
                  cases hdn; rfl
                rw [hres]
                exact ⟨rfl, _, _, _, rfl, RdP_leaf (v2 := u.2.2) ⟨h.1.1, h.1.2.1⟩ ⟨show q 4 + 1 = l + 1 by omega, by omega, by omega⟩ hS2 (by omega) hTS (by omega) (by omega) (Or.inl ⟨rfl, rfl⟩) (DPm_num _ _ _) (OVs_r _) (by omega)⟩
            · refine im_g 1 (y := (94, _, _, _)) rfl trivial ?_
              refine im_call [0,1,2,3,4] rfl rfl (c_fail (q := q) (A := A) (u := u) (c := c) (k := kk) (by omega) hT (by rw [h.2.1.2.2.2.2.2]; decide)) rfl rfl rfl (by decide) rfl (by decide) hT (fun v1 w1 hq => ?_)
              obtain ⟨rfl, rfl⟩ := hq
              refine ⟨_, _, RW 0 (rd_fail q) A u c kk, rfl, rfl, rfl, ?_⟩
              refine im_r rfl rfl trivial rfl ?_
              have hres : res = .inl i := by
                by_cases hp : (tk_C A N i = 50 ∧ tk_X A N i ≤ 1000) ∨ (14 ≤ tk_C A N i ∧ tk_C A N i ≤ 20)
                · rw [if_pos hp, if_pos (by omega)] at hdn; cases hdn; rfl
                · rw [if_neg hp] at hdn; cases hdn; rfl
              rw [hres]
              exact ⟨rfl, _, _, _, rfl, RdS_fail h rfl⟩
    · have c6 : tk_C A N i = 100 + 91 := by
        by_cases hh : tk_C A N i = 100 + 91
        · exact hh
        · rw [if_neg hh] at br1; exact absurd rfl br1
      clear br1
      replace c6 : tk_C A N i = 191 := c6
      rw [dn_0, if_pos c6] at hdn
      have hlt := tk_lt (A := A) hN (i := i) (by omega)
      by_cases ho8 : o = 8
      · rw [if_pos ho8] at hdn
        have hres : res = .inl i := by cases hdn; rfl
        refine im_g 2 (y := (11, _, _, _)) rfl trivial ?_
        refine im_call [0,1,2,3,4] rfl rfl (c_enterN (q := q) (A := A) (u := u) (c := c) (k := kk) (by omega) hT h.2.1 ho8) rfl rfl rfl (by decide) rfl (by decide) hT (fun v1 w1 hq => ?_)
        obtain ⟨rfl, rfl⟩ := hq
        refine ⟨_, _, RW 0 (rd_fail q) A u c kk, rfl, rfl, rfl, ?_⟩
        refine im_bT rfl rfl ⟨(by omega), trivial⟩ rfl ?_
        refine im_r rfl rfl trivial rfl ?_
        rw [hres]
        exact ⟨rfl, _, _, _, rfl, RdS_fail h rfl⟩
      · rw [if_neg ho8] at hdn
        have hS1 := RdS_next h
        refine im_g 2 (y := (11, _, _, _)) rfl trivial ?_
        refine im_call [0,1,2,3,4] rfl rfl (c_enterY (q := q) (A := A) (u := u) (c := c) (k := kk) (by omega) hT hA h.2.1 (by omega)) rfl rfl rfl (by decide) rfl (by decide) hT (fun v1 w1 hq => ?_)
        obtain ⟨rfl, rfl⟩ := hq
        refine ⟨_, _, RW 0 (rd_next A q) A u c kk, rfl, rfl, rfl, ?_⟩
        refine im_bF rfl rfl ⟨(by omega), trivial⟩ (by decide) ?_
        refine im_g 4 (y := (21, _, _, _)) rfl trivial ?_
        rcases d_bind_s hdn with ⟨f, q1, hres⟩ | ⟨j1, l1, m1, q1, q3⟩
        · refine im_call [0,1,2,3,4] rfl rfl (h3 d true (rd_next A q) A N (u) (c) kk (o + 1) (i + 1) (l) (.inl f) hA (hS1) (by omega) (by omega) (by omega) (by omega) q1) rfl rfl rfl (by decide) rfl (by decide) hT (fun v1 w1 hq => ?_)
          obtain ⟨rfl, q2, u2, c2, rfl, hP2⟩ := hq
          refine ⟨_, _, RW 0 q2 A u2 c2 kk, rfl, rfl, rfl, ?_⟩
          refine im_g 2 (y := (27, _, _, _)) rfl trivial ?_
          refine im_call [0,1,2,3,4] rfl rfl (c_closeD (q := q2) (A := A) (u := u2) (c := c2) (k := kk) (by omega) hT (RdP_D hP2) (b := 93)) rfl rfl rfl (by decide) rfl (by decide) hT (fun v1 w1 hq => ?_)
          obtain ⟨rfl, rfl⟩ := hq
          refine ⟨_, _, RW 0 q2 A u2 c2 kk, rfl, rfl, rfl, ?_⟩
          refine im_r rfl rfl trivial rfl ?_
          rw [hres]
          exact ⟨rfl, _, _, _, rfl, RdP_f hP2 rfl⟩
        · have hj1 := dn_nt hN (by decide) (by omega) q1
          refine im_call [0,1,2,3,4] rfl rfl (h3 d true (rd_next A q) A N (u) (c) kk (o + 1) (i + 1) (l) (.inr (j1, l1, m1)) hA (hS1) (by omega) (by omega) (by omega) (by omega) q1) rfl rfl rfl (by decide) rfl (by decide) hT (fun v1 w1 hq => ?_)
          obtain ⟨rfl, q2, u2, c2, rfl, hP2⟩ := hq
          refine ⟨_, _, RW 0 q2 A u2 c2 kk, rfl, rfl, rfl, ?_⟩
          refine im_g 2 (y := (27, _, _, _)) rfl trivial ?_
          refine im_call [0,1,2,3,4] rfl rfl (c_close (q := q2) (u := u2) (c := c2) (k := kk) (by omega) hT hA (RdP_S hP2) (b := 93) (by decide)) rfl rfl rfl (by decide) rfl (by decide) hT (fun v1 w1 hq => ?_)
          obtain ⟨rfl, rfl⟩ := hq
          refine ⟨_, _, RW 0 (if tk_C A N j1 = 100 + 93 then rd_next A q2 else rd_fail q2) A u2 c2 kk, rfl, rfl, rfl, ?_⟩
          by_cases hcl : tk_C A N j1 = 100 + 93
          · rw [if_pos hcl]
            rw [if_pos (show tk_C A N j1 = 193 from hcl)] at q3
            refine im_r rfl rfl trivial rfl ?_
            have hres : res = .inr (j1 + 1, l1, m1) := by cases q3; rfl
            rw [hres]
            exact ⟨rfl, _, _, _, rfl, RdP_base (RdP_more (RdP_next hP2) (by omega)) (by omega)⟩
          · rw [if_neg hcl]
            rw [if_neg (show ¬ tk_C A N j1 = 193 from hcl)] at q3
            refine im_r rfl rfl trivial rfl ?_
            have hres : res = .inl j1 := by cases q3; rfl
            rw [hres]
            exact ⟨rfl, _, _, _, rfl, RdP_f (RdP_fail hP2) rfl⟩
end Re
