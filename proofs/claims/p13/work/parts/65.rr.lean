/-! the reference reads texts: what it leaves -/
def PW (v : Nat → Int) (t l b : Int) : Nat → Int := pl_U (pl_U (pl_U v 19 t) 20 l) 21 b
/-- its tokens stand there -/
def TKS (A : Int → Int) (N : Int) (R : Nat → Int → Int) : Prop := ∀ i, 0 ≤ i → i ≤ tk_nt A N → R 9 i = tk_C A N i ∧ R 10 i = tk_X A N i ∧ R 11 i = tk_Q A N i
def RPR (od : Bool) (A : Int → Int) (N : Int) (v : Nat → Int) (R : Nat → Int → Int) : Prop := tk_ok A ∧ (0 ≤ N ∧ N ≤ 400) ∧ TKS A N R ∧ v 8 = d_first od ∧ v 9 = d_last od ∧ v 10 = e_bi od
/-- what a reading leaves -/
def RPp (A : Int → Int) (N : Int) (v : Nat → Int) (R : Nat → Int → Int) (res : dR) (w : im_W) : Prop := match res with
  | .inl f => (0 ≤ f ∧ f ≤ tk_nt A N) ∧ ∃ t l, w = MW (PW v t l (tk_Q A N f)) R
  | .inr (j, l', _) => (0 ≤ l' ∧ l' ≤ 50) ∧ w = MW (PW v j l' (-1)) R
def RPq (A : Int → Int) (N : Int) (v : Nat → Int) (R : Nat → Int → Int) (res : dQ) (w : im_W) : Prop := match res with
  | .inl f => (0 ≤ f ∧ f ≤ tk_nt A N) ∧ ∃ t l, w = MW (PW v t l (tk_Q A N f)) R
  | .inr (j, l', _) => (0 ≤ l' ∧ l' ≤ 50) ∧ (0 ≤ j ∧ j ≤ tk_nt A N) ∧ w = MW (PW v j l' (-1)) R
theorem rq_Q {A : Int → Int} {N : Int} (hN : 0 ≤ N ∧ N ≤ 400) (f : Int) : 0 ≤ tk_Q A N f ∧ tk_Q A N f ≤ 400 := by
  have h : 0 ≤ tk_Q A N f ∧ tk_Q A N f ≤ N := tk_P_b hN.1 _
  omega
theorem rq_lt {A : Int → Int} {N : Int} (hN : 0 ≤ N ∧ N ≤ 400) {i : Int} (h : ¬ tk_C A N i = 0) : i + 1 ≤ tk_nt A N := by
  by_cases e : tk_nt A N ≤ i
  · exact absurd (tk_C_end hN i e) h
  · omega
theorem rq_nt {od : Bool} {A : Int → Int} {N : Int} (hN : 0 ≤ N ∧ N ≤ 400) {n k : Nat} {o i l j l' : Int} {a m : dM} (hk : k ≤ 10) (hi : 0 ≤ i ∧ i ≤ tk_nt A N) (h : dn od (tk_C A N) (tk_X A N) n k o i l a = some (.inr (j, l', m))) : 0 ≤ j ∧ j ≤ tk_nt A N := by
  have h1 := (dn_ge n k o i l a j l' m hk h).1
  have h2 := dn_le (tk_C_end hN) n k o i l a j l' m hk hi.2 h
  omega
def RqM (ro : ab_R) (T : List im_T) (n k jx : Nat) (rk : Int) : Prop := ∀ (d : Nat) (od : Bool) (v : Nat → Int) (R : Nat → Int → Int) (A : Int → Int) (N o i l : Int) (res : dR), RPR od A N v R → (0 ≤ o ∧ o ≤ 8) → 8 * (8 - o) + rk ≤ (d : Int) → (0 ≤ i ∧ i ≤ tk_nt A N) → (0 ≤ l ∧ l ≤ 50) → dn od (tk_C A N) (tk_X A N) n k o i l d_0 = some res → im_ct ro T d jx [mr 0, .inl o] (MW (PW v i l (-1)) R) (fun r w => r = none ∧ RPp A N v R res w)
def RqR (ro : ab_R) (T : List im_T) (n k : Nat) (code : ab_C) (rk : Int) : Prop := ∀ (d : Nat) (od : Bool) (v : Nat → Int) (R : Nat → Int → Int) (A : Int → Int) (N o i l : Int) (a : dM) (res : dR), RPR od A N v R → (0 ≤ o ∧ o ≤ 8) → 8 * (8 - o) + rk ≤ (d : Int) → (0 ≤ i ∧ i ≤ tk_nt A N) → (0 ≤ l ∧ l ≤ 50) → dn od (tk_C A N) (tk_X A N) n k o i l a = some res → im_wp ro (ab_Ev ro ab_codes d) 9 none code 24 T (fun r w => r = none ∧ RPp A N v R res w) (5, [some (mr 0), some (.inl o)], [], MW (PW v i l (-1)) R)
def Rq6 (ro : ab_R) (T : List im_T) (n : Nat) : Prop := ∀ (d : Nat) (od : Bool) (v : Nat → Int) (R : Nat → Int → Int) (A : Int → Int) (N o i l : Int) (res : dR) (x3 : Option im_V), RPR od A N v R → (0 ≤ o ∧ o ≤ 8) → 8 * (8 - o) + 6 ≤ (d : Int) → (0 ≤ i ∧ i ≤ tk_nt A N) → (0 ≤ l ∧ l ≤ 50) → dn od (tk_C A N) (tk_X A N) n 6 o i l d_0 = some res → im_wp ro (ab_Ev ro ab_codes d) 9 none ab_k_X9_readPlain 24 T (fun r w => r = none ∧ RPp A N v R res w) (16, [some (mr 0), some (.inl o), some (.inl 0), x3], [], MW (PW v i l (-1)) R)
section Rq
variable {ro : ab_R} {T : List im_T} {d : Nat} {v : Nat → Int} {R : Nat → Int → Int} {A : Int → Int} {N i l t b : Int}
set_option maxHeartbeats 8000000 in
theorem r_fA (hd : 1 ≤ d) (hT : T.length < 1000)  : im_ct ro T d 150 [mr 0] (MW (PW v i l (-1)) R) (fun r w => r = some (.inl 1) ∧ w = MW (PW v i l (-1)) R) := by
  obtain ⟨d, rfl⟩ : ∃ e, d = e + 1 := ⟨d - 1, by omega⟩
  refine im_ct_of (own := 9) (ret := (some .boolean)) (code := ab_k_X9_fine) (nL := 1) (L0 := [some (mr 0)]) (n := 24) rfl rfl rfl rfl rfl rfl rfl rfl rfl ?_
  refine im_g 3 (y := (5, _, _, _)) rfl trivial ?_
  refine im_bF rfl rfl ⟨(by first | decide | (show im_ir (-1 : Int); decide)), (by first | decide | (show im_ir (-1 : Int); decide)), trivial⟩ (fun z => z rfl) ?_
  refine im_g 2 (y := (13, _, _, _)) rfl trivial ?_
  refine im_r rfl rfl ⟨(by decide), trivial⟩ rfl ?_
  exact ⟨rfl, rfl⟩
set_option maxHeartbeats 8000000 in
theorem r_fD (hd : 1 ≤ d) (hT : T.length < 1000) (hb : 0 ≤ b ∧ b ≤ 400) : im_ct ro T d 150 [mr 0] (MW (PW v t l b) R) (fun r w => r = some (.inl 0) ∧ w = MW (PW v t l b) R) := by
  obtain ⟨d, rfl⟩ : ∃ e, d = e + 1 := ⟨d - 1, by omega⟩
  have e19 : PW v t l b 19 = t := rfl
  have e20 : PW v t l b 20 = l := rfl
  have e21 : PW v t l b 21 = b := rfl
  refine im_ct_of (own := 9) (ret := (some .boolean)) (code := ab_k_X9_fine) (nL := 1) (L0 := [some (mr 0)]) (n := 24) rfl rfl rfl rfl rfl rfl rfl rfl rfl ?_
  refine im_g 3 (y := (5, _, _, _)) rfl trivial ?_
  refine im_bT rfl rfl ⟨(by omega), (by omega), trivial⟩ (by omega) ?_
  refine im_g 1 (y := (13, _, _, _)) rfl trivial ?_
  refine im_r rfl rfl ⟨(by decide), trivial⟩ rfl ?_
  exact ⟨rfl, rfl⟩
set_option maxHeartbeats 8000000 in
theorem r_faultsA (hd : 2 ≤ d) (hT : T.length < 1000) (hA : tk_ok A) (hN : 0 ≤ N ∧ N ≤ 400) (hk : TKS A N R) (hi : 0 ≤ i ∧ i ≤ tk_nt A N) : im_ct ro T d 151 [mr 0] (MW (PW v i l (-1)) R) (fun r w => r = none ∧ w = MW (PW v i l (tk_Q A N i)) R) := by
  obtain ⟨d, rfl⟩ : ∃ e, d = e + 1 := ⟨d - 1, by omega⟩
  have e19 : PW v i l (-1) 19 = i := rfl
  have e20 : PW v i l (-1) 20 = l := rfl
  have e21 : PW v i l (-1) 21 = (-1) := rfl
  have hkk := hk i hi.1 hi.2
  have ec : R 9 (PW v i l (-1) 19) = tk_C A N i := hkk.1
  have ex : R 10 (PW v i l (-1) 19) = tk_X A N i := hkk.2.1
  have ep : R 11 (PW v i l (-1) 19) = tk_Q A N i := hkk.2.2
  have hcb : 0 ≤ tk_C A N i ∧ tk_C A N i ≤ 355 := tk_code_b hA _ _
  have hxb : 0 ≤ tk_X A N i ∧ tk_X A N i ≤ 100000000 := tk_val_b _ _
  have hqb := rq_Q (A := A) hN i
  have htn := (tk_nt_b (A := A) hN).1
  refine im_ct_of (own := 9) (ret := none) (code := ab_k_X9_faults) (nL := 1) (L0 := [some (mr 0)]) (n := 24) rfl rfl rfl rfl rfl rfl rfl rfl rfl ?_
  refine im_g 1 (y := (1, _, _, _)) rfl trivial ?_
  refine im_cM rfl rfl (r_fA (v := v) (R := R) (i := i) (l := l) (by omega) hT) rfl hT (fun v1 w1 hq => ?_)
  obtain ⟨rfl, rfl⟩ := hq
  refine ⟨(PW v i l (-1)), R, rfl, rfl, ?_⟩
  refine im_bF rfl rfl ⟨(by decide), trivial⟩ (by decide) ?_
  refine im_g 7 (y := (20, _, _, _)) rfl ⟨(by omega), trivial⟩ ?_
  refine im_r rfl rfl trivial rfl ?_
  rw [← ep]
  exact ⟨rfl, rfl⟩
set_option maxHeartbeats 8000000 in
theorem r_faultsD (hd : 2 ≤ d) (hT : T.length < 1000) (hb : 0 ≤ b ∧ b ≤ 400) : im_ct ro T d 151 [mr 0] (MW (PW v t l b) R) (fun r w => r = none ∧ w = MW (PW v t l b) R) := by
  obtain ⟨d, rfl⟩ : ∃ e, d = e + 1 := ⟨d - 1, by omega⟩
  refine im_ct_of (own := 9) (ret := none) (code := ab_k_X9_faults) (nL := 1) (L0 := [some (mr 0)]) (n := 24) rfl rfl rfl rfl rfl rfl rfl rfl rfl ?_
  refine im_g 1 (y := (1, _, _, _)) rfl trivial ?_
  refine im_cM rfl rfl (r_fD (v := v) (R := R) (t := t) (l := l) (b := b) (by omega) hT hb) rfl hT (fun v1 w1 hq => ?_)
  obtain ⟨rfl, rfl⟩ := hq
  refine ⟨(PW v t l b), R, rfl, rfl, ?_⟩
  refine im_bT rfl rfl ⟨(by decide), trivial⟩ rfl ?_
  refine im_r rfl rfl trivial rfl ?_
  exact ⟨rfl, rfl⟩
set_option maxHeartbeats 8000000 in
theorem r_takeA (hd : 2 ≤ d) (hT : T.length < 1000) (hA : tk_ok A) (hN : 0 ≤ N ∧ N ≤ 400) (hk : TKS A N R) (hi : 0 ≤ i ∧ i ≤ tk_nt A N) {c : Int} (hc : 0 ≤ c ∧ c ≤ 1000) : im_ct ro T d 152 [mr 0, .inl c] (MW (PW v i l (-1)) R) (fun r w => r = some (.inl (if tk_C A N i = c then 1 else 0)) ∧ w = MW (PW v (if tk_C A N i = c then i + 1 else i) l (-1)) R) := by
  obtain ⟨d, rfl⟩ : ∃ e, d = e + 1 := ⟨d - 1, by omega⟩
  have e19 : PW v i l (-1) 19 = i := rfl
  have e20 : PW v i l (-1) 20 = l := rfl
  have e21 : PW v i l (-1) 21 = (-1) := rfl
  have hkk := hk i hi.1 hi.2
  have ec : R 9 (PW v i l (-1) 19) = tk_C A N i := hkk.1
  have ex : R 10 (PW v i l (-1) 19) = tk_X A N i := hkk.2.1
  have ep : R 11 (PW v i l (-1) 19) = tk_Q A N i := hkk.2.2
  have hcb : 0 ≤ tk_C A N i ∧ tk_C A N i ≤ 355 := tk_code_b hA _ _
  have hxb : 0 ≤ tk_X A N i ∧ tk_X A N i ≤ 100000000 := tk_val_b _ _
  have hqb := rq_Q (A := A) hN i
  have htn := (tk_nt_b (A := A) hN).1
  refine im_ct_of (own := 9) (ret := (some .boolean)) (code := ab_k_X9_takes0) (nL := 3) (L0 := [some (mr 0), some (.inl c), none]) (n := 24) rfl rfl rfl rfl rfl rfl rfl rfl rfl ?_
  refine im_g 1 (y := (1, _, _, _)) rfl trivial ?_
  refine im_cM rfl rfl (r_fA (v := v) (R := R) (i := i) (l := l) (by omega) hT) rfl hT (fun v1 w1 hq => ?_)
  obtain ⟨rfl, rfl⟩ := hq
  refine ⟨(PW v i l (-1)), R, rfl, rfl, ?_⟩
  refine im_bF rfl rfl ⟨(by decide), trivial⟩ (by decide) ?_
  refine im_g 6 (y := (17, _, _, _)) rfl ⟨(by omega), trivial⟩ ?_
  refine im_b rfl rfl ⟨(by omega), (by omega), trivial⟩ (fun br1 => ?_) (fun br1 => ?_)
  · refine im_g 3 (y := (27, _, _, _)) rfl trivial ?_
    refine im_bT rfl rfl ⟨(by decide), trivial⟩ rfl ?_
    refine im_g 1 (y := (41, _, _, _)) rfl trivial ?_
    refine im_r rfl rfl ⟨(by decide), trivial⟩ rfl ?_
    rw [if_neg (by omega), if_neg (by omega)]
    exact ⟨rfl, rfl⟩
  · refine im_g 4 (y := (27, _, _, _)) rfl trivial ?_
    refine im_bF rfl rfl ⟨(by decide), trivial⟩ (by decide) ?_
    refine im_g 7 (y := (41, _, _, _)) rfl trivial ?_
    refine im_r rfl rfl ⟨(by decide), trivial⟩ rfl ?_
    rw [if_pos (by omega), if_pos (by omega)]
    exact ⟨rfl, rfl⟩
set_option maxHeartbeats 8000000 in
theorem r_takeD (hd : 2 ≤ d) (hT : T.length < 1000) (hb : 0 ≤ b ∧ b ≤ 400) {c : Int} : im_ct ro T d 152 [mr 0, .inl c] (MW (PW v t l b) R) (fun r w => r = some (.inl 0) ∧ w = MW (PW v t l b) R) := by
  obtain ⟨d, rfl⟩ : ∃ e, d = e + 1 := ⟨d - 1, by omega⟩
  refine im_ct_of (own := 9) (ret := (some .boolean)) (code := ab_k_X9_takes0) (nL := 3) (L0 := [some (mr 0), some (.inl c), none]) (n := 24) rfl rfl rfl rfl rfl rfl rfl rfl rfl ?_
  refine im_g 1 (y := (1, _, _, _)) rfl trivial ?_
  refine im_cM rfl rfl (r_fD (v := v) (R := R) (t := t) (l := l) (b := b) (by omega) hT hb) rfl hT (fun v1 w1 hq => ?_)
  obtain ⟨rfl, rfl⟩ := hq
  refine ⟨(PW v t l b), R, rfl, rfl, ?_⟩
  refine im_bT rfl rfl ⟨(by decide), trivial⟩ rfl ?_
  refine im_g 3 (y := (27, _, _, _)) rfl trivial ?_
  refine im_bT rfl rfl ⟨(by decide), trivial⟩ rfl ?_
  refine im_g 1 (y := (41, _, _, _)) rfl trivial ?_
  refine im_r rfl rfl ⟨(by decide), trivial⟩ rfl ?_
  exact ⟨rfl, rfl⟩
set_option maxHeartbeats 8000000 in
theorem r_mustY (hd : 3 ≤ d) (hT : T.length < 1000) (hA : tk_ok A) (hN : 0 ≤ N ∧ N ≤ 400) (hk : TKS A N R) (hi : 0 ≤ i ∧ i ≤ tk_nt A N) {c : Int} (hc : 0 ≤ c ∧ c ≤ 1000) (h : tk_C A N i = c) : im_ct ro T d 153 [mr 0, .inl c] (MW (PW v i l (-1)) R) (fun r w => r = none ∧ w = MW (PW v (i + 1) l (-1)) R) := by
  obtain ⟨d, rfl⟩ : ∃ e, d = e + 1 := ⟨d - 1, by omega⟩
  refine im_ct_of (own := 9) (ret := none) (code := ab_k_X9_must) (nL := 2) (L0 := [some (mr 0), some (.inl c)]) (n := 24) rfl rfl rfl rfl rfl rfl rfl rfl rfl ?_
  refine im_g 2 (y := (2, _, _, _)) rfl trivial ?_
  refine im_cM rfl rfl (r_takeA (v := v) (R := R) (A := A) (N := N) (i := i) (l := l) (c := c) (by omega) hT hA hN hk hi hc) rfl hT (fun v1 w1 hq => ?_)
  obtain ⟨rfl, rfl⟩ := hq
  refine ⟨(PW v (if tk_C A N i = c then i + 1 else i) l (-1)), R, rfl, rfl, ?_⟩
  rw [if_pos h, if_pos h]
  refine im_bT rfl rfl ⟨(by decide), trivial⟩ (by decide) ?_
  refine im_r rfl rfl trivial rfl ?_
  exact ⟨rfl, rfl⟩
set_option maxHeartbeats 8000000 in
theorem r_mustN (hd : 3 ≤ d) (hT : T.length < 1000) (hA : tk_ok A) (hN : 0 ≤ N ∧ N ≤ 400) (hk : TKS A N R) (hi : 0 ≤ i ∧ i ≤ tk_nt A N) {c : Int} (hc : 0 ≤ c ∧ c ≤ 1000) (h : ¬ tk_C A N i = c) : im_ct ro T d 153 [mr 0, .inl c] (MW (PW v i l (-1)) R) (fun r w => r = none ∧ w = MW (PW v i l (tk_Q A N i)) R) := by
  obtain ⟨d, rfl⟩ : ∃ e, d = e + 1 := ⟨d - 1, by omega⟩
  refine im_ct_of (own := 9) (ret := none) (code := ab_k_X9_must) (nL := 2) (L0 := [some (mr 0), some (.inl c)]) (n := 24) rfl rfl rfl rfl rfl rfl rfl rfl rfl ?_
  refine im_g 2 (y := (2, _, _, _)) rfl trivial ?_
  refine im_cM rfl rfl (r_takeA (v := v) (R := R) (A := A) (N := N) (i := i) (l := l) (c := c) (by omega) hT hA hN hk hi hc) rfl hT (fun v1 w1 hq => ?_)
  obtain ⟨rfl, rfl⟩ := hq
  refine ⟨(PW v (if tk_C A N i = c then i + 1 else i) l (-1)), R, rfl, rfl, ?_⟩
  rw [if_neg h, if_neg h]
  refine im_bF rfl rfl ⟨(by decide), trivial⟩ (fun z => z rfl) ?_
  refine im_g 1 (y := (9, _, _, _)) rfl trivial ?_
  refine im_cM rfl rfl (r_faultsA (v := v) (R := R) (A := A) (N := N) (i := i) (l := l) (by omega) hT hA hN hk hi) rfl hT (fun v1 w1 hq => ?_)
  obtain ⟨rfl, rfl⟩ := hq
  refine ⟨(PW v i l (tk_Q A N i)), R, rfl, rfl, ?_⟩
  refine im_r rfl rfl trivial rfl ?_
  exact ⟨rfl, rfl⟩
set_option maxHeartbeats 8000000 in
theorem r_mustD (hd : 3 ≤ d) (hT : T.length < 1000) (hb : 0 ≤ b ∧ b ≤ 400) {c : Int} : im_ct ro T d 153 [mr 0, .inl c] (MW (PW v t l b) R) (fun r w => r = none ∧ w = MW (PW v t l b) R) := by
  obtain ⟨d, rfl⟩ : ∃ e, d = e + 1 := ⟨d - 1, by omega⟩
  refine im_ct_of (own := 9) (ret := none) (code := ab_k_X9_must) (nL := 2) (L0 := [some (mr 0), some (.inl c)]) (n := 24) rfl rfl rfl rfl rfl rfl rfl rfl rfl ?_
  refine im_g 2 (y := (2, _, _, _)) rfl trivial ?_
  refine im_cM rfl rfl (r_takeD (v := v) (R := R) (t := t) (l := l) (b := b) (by omega) hT hb (c := c)) rfl hT (fun v1 w1 hq => ?_)
  obtain ⟨rfl, rfl⟩ := hq
  refine ⟨(PW v t l b), R, rfl, rfl, ?_⟩
  refine im_bF rfl rfl ⟨(by decide), trivial⟩ (fun z => z rfl) ?_
  refine im_g 1 (y := (9, _, _, _)) rfl trivial ?_
  refine im_cM rfl rfl (r_faultsD (v := v) (R := R) (t := t) (l := l) (b := b) (by omega) hT hb) rfl hT (fun v1 w1 hq => ?_)
  obtain ⟨rfl, rfl⟩ := hq
  refine ⟨(PW v t l b), R, rfl, rfl, ?_⟩
  refine im_r rfl rfl trivial rfl ?_
  exact ⟨rfl, rfl⟩
set_option maxHeartbeats 8000000 in
theorem r_leafY (hd : 2 ≤ d) (hT : T.length < 1000) (hA : tk_ok A) (hN : 0 ≤ N ∧ N ≤ 400) (hk : TKS A N R) (hi : 0 ≤ i ∧ i ≤ tk_nt A N) (hl : 0 ≤ l ∧ l < 50) : im_ct ro T d 154 [mr 0] (MW (PW v i l (-1)) R) (fun r w => r = none ∧ w = MW (PW v (i + 1) (l + 1) (-1)) R) := by
  obtain ⟨d, rfl⟩ : ∃ e, d = e + 1 := ⟨d - 1, by omega⟩
  have e19 : PW v i l (-1) 19 = i := rfl
  have e20 : PW v i l (-1) 20 = l := rfl
  have e21 : PW v i l (-1) 21 = (-1) := rfl
  have hkk := hk i hi.1 hi.2
  have ec : R 9 (PW v i l (-1) 19) = tk_C A N i := hkk.1
  have ex : R 10 (PW v i l (-1) 19) = tk_X A N i := hkk.2.1
  have ep : R 11 (PW v i l (-1) 19) = tk_Q A N i := hkk.2.2
  have hcb : 0 ≤ tk_C A N i ∧ tk_C A N i ≤ 355 := tk_code_b hA _ _
  have hxb : 0 ≤ tk_X A N i ∧ tk_X A N i ≤ 100000000 := tk_val_b _ _
  have hqb := rq_Q (A := A) hN i
  have htn := (tk_nt_b (A := A) hN).1
  refine im_ct_of (own := 9) (ret := none) (code := ab_k_X9_leaf) (nL := 1) (L0 := [some (mr 0)]) (n := 24) rfl rfl rfl rfl rfl rfl rfl rfl rfl ?_
  refine im_g 3 (y := (6, _, _, _)) rfl trivial ?_
  refine im_bT rfl rfl ⟨(by omega), (by omega), trivial⟩ (by omega) ?_
  refine im_g 7 (y := (24, _, _, _)) rfl trivial ?_
  refine im_cM rfl rfl (r_fA (v := v) (R := R) (i := i) (l := l + 1) (by omega) hT) rfl hT (fun v1 w1 hq => ?_)
  obtain ⟨rfl, rfl⟩ := hq
  refine ⟨(PW v i (l + 1) (-1)), R, rfl, rfl, ?_⟩
  refine im_bF rfl rfl ⟨(by decide), trivial⟩ (by decide) ?_
  refine im_g 6 (y := (40, _, _, _)) rfl trivial ?_
  refine im_r rfl rfl trivial rfl ?_
  exact ⟨rfl, rfl⟩
set_option maxHeartbeats 8000000 in
theorem r_leafN (hd : 3 ≤ d) (hT : T.length < 1000) (hA : tk_ok A) (hN : 0 ≤ N ∧ N ≤ 400) (hk : TKS A N R) (hi : 0 ≤ i ∧ i ≤ tk_nt A N) (hl : l = 50) : im_ct ro T d 154 [mr 0] (MW (PW v i l (-1)) R) (fun r w => r = none ∧ w = MW (PW v i 51 (tk_Q A N i)) R) := by
  obtain ⟨d, rfl⟩ : ∃ e, d = e + 1 := ⟨d - 1, by omega⟩
  have e19 : PW v i l (-1) 19 = i := rfl
  have e20 : PW v i l (-1) 20 = l := rfl
  have e21 : PW v i l (-1) 21 = (-1) := rfl
  have hkk := hk i hi.1 hi.2
  have ec : R 9 (PW v i l (-1) 19) = tk_C A N i := hkk.1
  have ex : R 10 (PW v i l (-1) 19) = tk_X A N i := hkk.2.1
  have ep : R 11 (PW v i l (-1) 19) = tk_Q A N i := hkk.2.2
  have hcb : 0 ≤ tk_C A N i ∧ tk_C A N i ≤ 355 := tk_code_b hA _ _
  have hxb : 0 ≤ tk_X A N i ∧ tk_X A N i ≤ 100000000 := tk_val_b _ _
  have hqb := rq_Q (A := A) hN i
  have htn := (tk_nt_b (A := A) hN).1
  refine im_ct_of (own := 9) (ret := none) (code := ab_k_X9_leaf) (nL := 1) (L0 := [some (mr 0)]) (n := 24) rfl rfl rfl rfl rfl rfl rfl rfl rfl ?_
  refine im_g 3 (y := (6, _, _, _)) rfl trivial ?_
  refine im_bF rfl rfl ⟨(by omega), (by omega), trivial⟩ (by omega) ?_
  refine im_g 1 (y := (10, _, _, _)) rfl trivial ?_
  refine im_cM rfl rfl (r_faultsA (v := v) (R := R) (A := A) (N := N) (i := i) (l := l) (by omega) hT hA hN hk hi) rfl hT (fun v1 w1 hq => ?_)
  obtain ⟨rfl, rfl⟩ := hq
  refine ⟨(PW v i l (tk_Q A N i)), R, rfl, rfl, ?_⟩
  refine im_g 7 (y := (24, _, _, _)) rfl trivial ?_
  refine im_cM rfl rfl (r_fD (v := v) (R := R) (t := i) (l := l + 1) (b := tk_Q A N i) (by omega) hT hqb) rfl hT (fun v1 w1 hq => ?_)
  obtain ⟨rfl, rfl⟩ := hq
  refine ⟨(PW v i (l + 1) (tk_Q A N i)), R, rfl, rfl, ?_⟩
  refine im_bT rfl rfl ⟨(by decide), trivial⟩ rfl ?_
  refine im_r rfl rfl trivial rfl ?_
  rw [hl]
  exact ⟨rfl, rfl⟩
set_option maxHeartbeats 8000000 in
theorem r_numY (hd : 3 ≤ d) (hT : T.length < 1000) (hA : tk_ok A) (hN : 0 ≤ N ∧ N ≤ 400) (hk : TKS A N R) (hi : 0 ≤ i ∧ i ≤ tk_nt A N) {lo hi2 : Int} (hlo : 0 ≤ lo ∧ lo ≤ 1000) (hh : 0 ≤ hi2 ∧ hi2 ≤ 1000) (h : tk_C A N i = 50 ∧ lo ≤ tk_X A N i ∧ tk_X A N i ≤ hi2) : im_ct ro T d 156 [mr 0, .inl lo, .inl hi2] (MW (PW v i l (-1)) R) (fun r w => r = none ∧ w = MW (PW v (i + 1) l (-1)) R) := by
  obtain ⟨d, rfl⟩ : ∃ e, d = e + 1 := ⟨d - 1, by omega⟩
  have e19 : PW v i l (-1) 19 = i := rfl
  have e20 : PW v i l (-1) 20 = l := rfl
  have e21 : PW v i l (-1) 21 = (-1) := rfl
  have hkk := hk i hi.1 hi.2
  have ec : R 9 (PW v i l (-1) 19) = tk_C A N i := hkk.1
  have ex : R 10 (PW v i l (-1) 19) = tk_X A N i := hkk.2.1
  have ep : R 11 (PW v i l (-1) 19) = tk_Q A N i := hkk.2.2
  have hcb : 0 ≤ tk_C A N i ∧ tk_C A N i ≤ 355 := tk_code_b hA _ _
  have hxb : 0 ≤ tk_X A N i ∧ tk_X A N i ≤ 100000000 := tk_val_b _ _
  have hqb := rq_Q (A := A) hN i
  have htn := (tk_nt_b (A := A) hN).1
  have hlies : im_ct ro T d 120 [.inl (R 10 (PW v i l (-1) 19)), .inl lo, .inl hi2] [] (fun r w => r = some (.inl 1) ∧ w = []) := by
    have t := m_lies (ro := ro) (T := T) (d := d) (x := R 10 (PW v i l (-1) 19)) (a := lo) (b := hi2) (by omega) hT (by omega) (by omega) (by omega)
    rw [if_pos (by omega)] at t
    exact t
  refine im_ct_of (own := 9) (ret := none) (code := ab_k_X9_mustNumber) (nL := 3) (L0 := [some (mr 0), some (.inl lo), some (.inl hi2)]) (n := 24) rfl rfl rfl rfl rfl rfl rfl rfl rfl ?_
  refine im_g 1 (y := (1, _, _, _)) rfl trivial ?_
  refine im_cM rfl rfl (r_fA (v := v) (R := R) (i := i) (l := l) (by omega) hT) rfl hT (fun v1 w1 hq => ?_)
  obtain ⟨rfl, rfl⟩ := hq
  refine ⟨(PW v i l (-1)), R, rfl, rfl, ?_⟩
  refine im_bF rfl rfl ⟨(by decide), trivial⟩ (by decide) ?_
  refine im_g 6 (y := (18, _, _, _)) rfl ⟨(by omega), trivial⟩ ?_
  refine im_bF rfl rfl ⟨(by omega), (by omega), trivial⟩ (by omega) ?_
  refine im_g 7 (y := (32, _, _, _)) rfl ⟨(by omega), trivial⟩ ?_
  refine im_call [] rfl rfl (show im_ct ro T d 120 [.inl (R 10 (PW v i l (-1) 19)), .inl lo, .inl hi2] [] (fun r w => r = some (.inl 1) ∧ w = []) from hlies) rfl rfl rfl (by decide) rfl (by decide) hT (fun v1 w1 hq => ?_)
  obtain ⟨rfl, rfl⟩ := hq
  refine ⟨_, _, MW (PW v i l (-1)) R, rfl, rfl, rfl, ?_⟩
  refine im_bT rfl rfl ⟨(by decide), trivial⟩ (by decide) ?_
  refine im_g 1 (y := (43, _, _, _)) rfl trivial ?_
  refine im_cM rfl rfl (r_fA (v := v) (R := R) (i := i) (l := l) (by omega) hT) rfl hT (fun v1 w1 hq => ?_)
  obtain ⟨rfl, rfl⟩ := hq
  refine ⟨(PW v i l (-1)), R, rfl, rfl, ?_⟩
  refine im_bF rfl rfl ⟨(by decide), trivial⟩ (by decide) ?_
  refine im_g 6 (y := (59, _, _, _)) rfl trivial ?_
  refine im_r rfl rfl trivial rfl ?_
  exact ⟨rfl, rfl⟩
set_option maxHeartbeats 8000000 in
set_option maxHeartbeats 8000000 in
theorem r_numN (hd : 3 ≤ d) (hT : T.length < 1000) (hA : tk_ok A) (hN : 0 ≤ N ∧ N ≤ 400) (hk : TKS A N R) (hi : 0 ≤ i ∧ i ≤ tk_nt A N) {lo hi2 : Int} (hlo : 0 ≤ lo ∧ lo ≤ 1000) (hh : 0 ≤ hi2 ∧ hi2 ≤ 1000) (h : ¬ (tk_C A N i = 50 ∧ lo ≤ tk_X A N i ∧ tk_X A N i ≤ hi2)) : im_ct ro T d 156 [mr 0, .inl lo, .inl hi2] (MW (PW v i l (-1)) R) (fun r w => r = none ∧ w = MW (PW v i l (tk_Q A N i)) R) := by
  obtain ⟨d, rfl⟩ : ∃ e, d = e + 1 := ⟨d - 1, by omega⟩
  have e19 : PW v i l (-1) 19 = i := rfl
  have e20 : PW v i l (-1) 20 = l := rfl
  have e21 : PW v i l (-1) 21 = (-1) := rfl
  have hkk := hk i hi.1 hi.2
  have ec : R 9 (PW v i l (-1) 19) = tk_C A N i := hkk.1
  have ex : R 10 (PW v i l (-1) 19) = tk_X A N i := hkk.2.1
  have ep : R 11 (PW v i l (-1) 19) = tk_Q A N i := hkk.2.2
  have hcb : 0 ≤ tk_C A N i ∧ tk_C A N i ≤ 355 := tk_code_b hA _ _
  have hxb : 0 ≤ tk_X A N i ∧ tk_X A N i ≤ 100000000 := tk_val_b _ _
  have hqb := rq_Q (A := A) hN i
  have htn := (tk_nt_b (A := A) hN).1
  refine im_ct_of (own := 9) (ret := none) (code := ab_k_X9_mustNumber) (nL := 3) (L0 := [some (mr 0), some (.inl lo), some (.inl hi2)]) (n := 24) rfl rfl rfl rfl rfl rfl rfl rfl rfl ?_
  refine im_g 1 (y := (1, _, _, _)) rfl trivial ?_
  refine im_cM rfl rfl (r_fA (v := v) (R := R) (i := i) (l := l) (by omega) hT) rfl hT (fun v1 w1 hq => ?_)
  obtain ⟨rfl, rfl⟩ := hq
  refine ⟨(PW v i l (-1)), R, rfl, rfl, ?_⟩
  refine im_bF rfl rfl ⟨(by decide), trivial⟩ (by decide) ?_
  refine im_g 6 (y := (18, _, _, _)) rfl ⟨(by omega), trivial⟩ ?_
  refine im_b rfl rfl ⟨(by omega), (by omega), trivial⟩ (fun br1 => ?_) (fun br1 => ?_)
  · refine im_g 1 (y := (39, _, _, _)) rfl trivial ?_
    refine im_cM rfl rfl (r_faultsA (v := v) (R := R) (A := A) (N := N) (i := i) (l := l) (by omega) hT hA hN hk hi) rfl hT (fun v1 w1 hq => ?_)
    obtain ⟨rfl, rfl⟩ := hq
    refine ⟨(PW v i l (tk_Q A N i)), R, rfl, rfl, ?_⟩
    refine im_g 1 (y := (43, _, _, _)) rfl trivial ?_
    refine im_cM rfl rfl (r_fD (v := v) (R := R) (t := i) (l := l) (b := tk_Q A N i) (by omega) hT hqb) rfl hT (fun v1 w1 hq => ?_)
    obtain ⟨rfl, rfl⟩ := hq
    refine ⟨(PW v i l (tk_Q A N i)), R, rfl, rfl, ?_⟩
    refine im_bT rfl rfl ⟨(by decide), trivial⟩ rfl ?_
    refine im_r rfl rfl trivial rfl ?_
    exact ⟨rfl, rfl⟩
  · refine im_g 7 (y := (32, _, _, _)) rfl ⟨(by omega), trivial⟩ ?_
    refine im_call [] rfl rfl (m_lies (x := R 10 (PW v i l (-1) 19)) (a := lo) (b := hi2) (by omega) hT (by omega) (by omega) (by omega)) rfl rfl rfl (by decide) rfl (by decide) hT (fun v1 w1 hq => ?_)
    obtain ⟨rfl, rfl⟩ := hq
    refine ⟨_, _, MW (PW v i l (-1)) R, rfl, rfl, rfl, ?_⟩
    rw [if_neg (by omega)]
    refine im_bF rfl rfl ⟨(by decide), trivial⟩ (fun z => z rfl) ?_
    refine im_g 1 (y := (39, _, _, _)) rfl trivial ?_
    refine im_cM rfl rfl (r_faultsA (v := v) (R := R) (A := A) (N := N) (i := i) (l := l) (by omega) hT hA hN hk hi) rfl hT (fun v1 w1 hq => ?_)
    obtain ⟨rfl, rfl⟩ := hq
    refine ⟨(PW v i l (tk_Q A N i)), R, rfl, rfl, ?_⟩
    refine im_g 1 (y := (43, _, _, _)) rfl trivial ?_
    refine im_cM rfl rfl (r_fD (v := v) (R := R) (t := i) (l := l) (b := tk_Q A N i) (by omega) hT hqb) rfl hT (fun v1 w1 hq => ?_)
    obtain ⟨rfl, rfl⟩ := hq
    refine ⟨(PW v i l (tk_Q A N i)), R, rfl, rfl, ?_⟩
    refine im_bT rfl rfl ⟨(by decide), trivial⟩ rfl ?_
    refine im_r rfl rfl trivial rfl ?_
    exact ⟨rfl, rfl⟩
set_option maxHeartbeats 8000000 in
theorem r_numD (hd : 2 ≤ d) (hT : T.length < 1000) (hb : 0 ≤ b ∧ b ≤ 400) {lo hi2 : Int} : im_ct ro T d 156 [mr 0, .inl lo, .inl hi2] (MW (PW v t l b) R) (fun r w => r = none ∧ w = MW (PW v t l b) R) := by
  obtain ⟨d, rfl⟩ : ∃ e, d = e + 1 := ⟨d - 1, by omega⟩
  refine im_ct_of (own := 9) (ret := none) (code := ab_k_X9_mustNumber) (nL := 3) (L0 := [some (mr 0), some (.inl lo), some (.inl hi2)]) (n := 24) rfl rfl rfl rfl rfl rfl rfl rfl rfl ?_
  refine im_g 1 (y := (1, _, _, _)) rfl trivial ?_
  refine im_cM rfl rfl (r_fD (v := v) (R := R) (t := t) (l := l) (b := b) (by omega) hT hb) rfl hT (fun v1 w1 hq => ?_)
  obtain ⟨rfl, rfl⟩ := hq
  refine ⟨(PW v t l b), R, rfl, rfl, ?_⟩
  refine im_bT rfl rfl ⟨(by decide), trivial⟩ rfl ?_
  refine im_g 1 (y := (43, _, _, _)) rfl trivial ?_
  refine im_cM rfl rfl (r_fD (v := v) (R := R) (t := t) (l := l) (b := b) (by omega) hT hb) rfl hT (fun v1 w1 hq => ?_)
  obtain ⟨rfl, rfl⟩ := hq
  refine ⟨(PW v t l b), R, rfl, rfl, ?_⟩
  refine im_bT rfl rfl ⟨(by decide), trivial⟩ rfl ?_
  refine im_r rfl rfl trivial rfl ?_
  exact ⟨rfl, rfl⟩
set_option maxHeartbeats 8000000 in
theorem r_partD (hd : 2 ≤ d) (hT : T.length < 1000) (hb : 0 ≤ b ∧ b ≤ 400) {o : Int} : im_ct ro T d 165 [mr 0, .inl o] (MW (PW v t l b) R) (fun r w => r = none ∧ w = MW (PW v t l b) R) := by
  obtain ⟨d, rfl⟩ : ∃ e, d = e + 1 := ⟨d - 1, by omega⟩
  refine im_ct_of (own := 9) (ret := none) (code := ab_k_X9_readPart) (nL := 3) (L0 := [some (mr 0), some (.inl o), none]) (n := 24) rfl rfl rfl rfl rfl rfl rfl rfl rfl ?_
  refine im_g 1 (y := (1, _, _, _)) rfl trivial ?_
  refine im_cM rfl rfl (r_fD (v := v) (R := R) (t := t) (l := l) (b := b) (by omega) hT hb) rfl hT (fun v1 w1 hq => ?_)
  obtain ⟨rfl, rfl⟩ := hq
  refine ⟨(PW v t l b), R, rfl, rfl, ?_⟩
  refine im_bF rfl rfl ⟨(by decide), trivial⟩ (fun z => z rfl) ?_
  refine im_r rfl rfl trivial rfl ?_
  exact ⟨rfl, rfl⟩
set_option maxHeartbeats 8000000 in
theorem r_termD (hd : 3 ≤ d) (hT : T.length < 1000) (hb : 0 ≤ b ∧ b ≤ 400) {o : Int} : im_ct ro T d 164 [mr 0, .inl o] (MW (PW v t l b) R) (fun r w => r = none ∧ w = MW (PW v t l b) R) := by
  obtain ⟨d, rfl⟩ : ∃ e, d = e + 1 := ⟨d - 1, by omega⟩
  refine im_ct_of (own := 9) (ret := none) (code := ab_k_X9_readTerm) (nL := 2) (L0 := [some (mr 0), some (.inl o)]) (n := 24) rfl rfl rfl rfl rfl rfl rfl rfl rfl ?_
  refine im_g 2 (y := (2, _, _, _)) rfl trivial ?_
  refine im_cM rfl rfl (r_partD (v := v) (R := R) (t := t) (l := l) (b := b) (by omega) hT hb) rfl hT (fun v1 w1 hq => ?_)
  obtain ⟨rfl, rfl⟩ := hq
  refine ⟨(PW v t l b), R, rfl, rfl, ?_⟩
  refine im_g 2 (y := (8, _, _, _)) rfl trivial ?_
  refine im_call [] rfl rfl (m_sign (a := 42) (by omega) hT) rfl rfl rfl (by decide) rfl (by decide) hT (fun v1 w1 hq => ?_)
  obtain ⟨rfl, rfl⟩ := hq
  refine ⟨_, _, MW (PW v t l b) R, rfl, rfl, rfl, ?_⟩
  refine im_cM rfl rfl (r_takeD (v := v) (R := R) (t := t) (l := l) (b := b) (by omega) hT hb) rfl hT (fun v1 w1 hq => ?_)
  obtain ⟨rfl, rfl⟩ := hq
  refine ⟨(PW v t l b), R, rfl, rfl, ?_⟩
  refine im_bF rfl rfl ⟨(by decide), trivial⟩ (fun z => z rfl) ?_
  refine im_g 2 (y := (20, _, _, _)) rfl trivial ?_
  refine im_call [] rfl rfl (m_sign (a := 47) (by omega) hT) rfl rfl rfl (by decide) rfl (by decide) hT (fun v1 w1 hq => ?_)
  obtain ⟨rfl, rfl⟩ := hq
  refine ⟨_, _, MW (PW v t l b) R, rfl, rfl, rfl, ?_⟩
  refine im_cM rfl rfl (r_takeD (v := v) (R := R) (t := t) (l := l) (b := b) (by omega) hT hb) rfl hT (fun v1 w1 hq => ?_)
  obtain ⟨rfl, rfl⟩ := hq
  refine ⟨(PW v t l b), R, rfl, rfl, ?_⟩
  refine im_bF rfl rfl ⟨(by decide), trivial⟩ (fun z => z rfl) ?_
  refine im_g 2 (y := (32, _, _, _)) rfl trivial ?_
  refine im_call [] rfl rfl (m_sign (a := 37) (by omega) hT) rfl rfl rfl (by decide) rfl (by decide) hT (fun v1 w1 hq => ?_)
  obtain ⟨rfl, rfl⟩ := hq
  refine ⟨_, _, MW (PW v t l b) R, rfl, rfl, rfl, ?_⟩
  refine im_cM rfl rfl (r_takeD (v := v) (R := R) (t := t) (l := l) (b := b) (by omega) hT hb) rfl hT (fun v1 w1 hq => ?_)
  obtain ⟨rfl, rfl⟩ := hq
  refine ⟨(PW v t l b), R, rfl, rfl, ?_⟩
  refine im_bT rfl rfl ⟨(by decide), trivial⟩ rfl ?_
  refine im_r rfl rfl trivial rfl ?_
  exact ⟨rfl, rfl⟩
set_option maxHeartbeats 8000000 in
theorem r_sumD (hd : 4 ≤ d) (hT : T.length < 1000) (hb : 0 ≤ b ∧ b ≤ 400) {o : Int} : im_ct ro T d 163 [mr 0, .inl o] (MW (PW v t l b) R) (fun r w => r = none ∧ w = MW (PW v t l b) R) := by
  obtain ⟨d, rfl⟩ : ∃ e, d = e + 1 := ⟨d - 1, by omega⟩
  refine im_ct_of (own := 9) (ret := none) (code := ab_k_X9_readSum) (nL := 2) (L0 := [some (mr 0), some (.inl o)]) (n := 24) rfl rfl rfl rfl rfl rfl rfl rfl rfl ?_
  refine im_g 2 (y := (2, _, _, _)) rfl trivial ?_
  refine im_cM rfl rfl (r_termD (v := v) (R := R) (t := t) (l := l) (b := b) (by omega) hT hb) rfl hT (fun v1 w1 hq => ?_)
  obtain ⟨rfl, rfl⟩ := hq
  refine ⟨(PW v t l b), R, rfl, rfl, ?_⟩
  refine im_g 2 (y := (8, _, _, _)) rfl trivial ?_
  refine im_call [] rfl rfl (m_sign (a := 43) (by omega) hT) rfl rfl rfl (by decide) rfl (by decide) hT (fun v1 w1 hq => ?_)
  obtain ⟨rfl, rfl⟩ := hq
  refine ⟨_, _, MW (PW v t l b) R, rfl, rfl, rfl, ?_⟩
  refine im_cM rfl rfl (r_takeD (v := v) (R := R) (t := t) (l := l) (b := b) (by omega) hT hb) rfl hT (fun v1 w1 hq => ?_)
  obtain ⟨rfl, rfl⟩ := hq
  refine ⟨(PW v t l b), R, rfl, rfl, ?_⟩
  refine im_bF rfl rfl ⟨(by decide), trivial⟩ (fun z => z rfl) ?_
  refine im_g 2 (y := (20, _, _, _)) rfl trivial ?_
  refine im_call [] rfl rfl (m_sign (a := 45) (by omega) hT) rfl rfl rfl (by decide) rfl (by decide) hT (fun v1 w1 hq => ?_)
  obtain ⟨rfl, rfl⟩ := hq
  refine ⟨_, _, MW (PW v t l b) R, rfl, rfl, rfl, ?_⟩
  refine im_cM rfl rfl (r_takeD (v := v) (R := R) (t := t) (l := l) (b := b) (by omega) hT hb) rfl hT (fun v1 w1 hq => ?_)
  obtain ⟨rfl, rfl⟩ := hq
  refine ⟨(PW v t l b), R, rfl, rfl, ?_⟩
  refine im_bT rfl rfl ⟨(by decide), trivial⟩ rfl ?_
  refine im_r rfl rfl trivial rfl ?_
  exact ⟨rfl, rfl⟩
end Rq
section Rr
variable {ro : ab_R} {T : List im_T}
set_option maxHeartbeats 8000000 in
theorem r_R4 (hT : T.length < 1000) {n : Nat} (h1 : RqM ro T n 1 164 5) (h2 : RqR ro T n 4 ab_k_X9_readSum 5) : RqR ro T (n + 1) 4 ab_k_X9_readSum 5 := by
  intro d od v R A N o i l a res hP ho hd hi hl hdn
  obtain ⟨hA, hN, hk, hv8, hv9, hv10⟩ := id hP
  have htn := (tk_nt_b (A := A) hN).1
  have hcb : 0 ≤ tk_C A N i ∧ tk_C A N i ≤ 355 := tk_code_b hA _ _
  have hkk := hk i hi.1 hi.2
  refine im_g 2 (y := (8, _, _, _)) rfl trivial ?_
  refine im_call [] rfl rfl (m_sign (a := 43) (by omega) hT) rfl rfl rfl (by decide) rfl (by decide) hT (fun v1 w1 hq => ?_)
  obtain ⟨rfl, rfl⟩ := hq
  refine ⟨_, _, MW (PW v i l (-1)) R, rfl, rfl, rfl, ?_⟩
  refine im_cM rfl rfl (r_takeA (v := v) (R := R) (A := A) (N := N) (i := i) (l := l) (c := 100 + 43) (by omega) hT hA hN hk hi (by decide)) rfl hT (fun v1 w1 hq => ?_)
  obtain ⟨rfl, rfl⟩ := hq
  refine ⟨(PW v (if tk_C A N i = 100 + 43 then i + 1 else i) l (-1)), R, rfl, rfl, ?_⟩
  refine im_b rfl rfl ⟨(by split <;> decide), trivial⟩ (fun br1 => ?_) (fun br1 => ?_)
  · have c14 : tk_C A N i = 100 + 43 := by
      by_cases hh : tk_C A N i = 100 + 43
      · exact hh
      · rw [if_neg hh] at br1; exact absurd rfl br1
    clear br1
    rw [if_pos c14]
    rw [dn_4, if_pos (by omega)] at hdn
    have hlt := rq_lt (A := A) hN (i := i) (by omega)
    rcases d_bind_s hdn with ⟨f, q1, hres⟩ | ⟨j1, l1, m1, q1, q3⟩
    · refine im_g 2 (y := (31, _, _, _)) rfl trivial ?_
      refine im_cM rfl rfl (h1 d od v R A N (o) (i + 1) (l) (.inl f) hP (by omega) (by omega) (by omega) hl q1) rfl hT (fun v1 w1 hq => ?_)
      obtain ⟨rfl, hf1, t1, lz1, rfl⟩ := hq
      refine ⟨(PW v t1 lz1 (tk_Q A N f)), R, rfl, rfl, ?_⟩
      refine im_g 1 (y := (5, _, _, _)) rfl trivial ?_
      refine im_g 2 (y := (8, _, _, _)) rfl trivial ?_
      refine im_call [] rfl rfl (m_sign (a := 43) (by omega) hT) rfl rfl rfl (by decide) rfl (by decide) hT (fun v1 w1 hq => ?_)
      obtain ⟨rfl, rfl⟩ := hq
      refine ⟨_, _, MW (PW v t1 lz1 (tk_Q A N f)) R, rfl, rfl, rfl, ?_⟩
      refine im_cM rfl rfl (r_takeD (v := v) (R := R) (t := t1) (l := lz1) (b := (tk_Q A N f)) (by omega) hT (rq_Q hN f)) rfl hT (fun v1 w1 hq => ?_)
      obtain ⟨rfl, rfl⟩ := hq
      refine ⟨(PW v t1 lz1 (tk_Q A N f)), R, rfl, rfl, ?_⟩
      refine im_bF rfl rfl ⟨(by decide), trivial⟩ (fun z => z rfl) ?_
      refine im_g 2 (y := (20, _, _, _)) rfl trivial ?_
      refine im_call [] rfl rfl (m_sign (a := 45) (by omega) hT) rfl rfl rfl (by decide) rfl (by decide) hT (fun v1 w1 hq => ?_)
      obtain ⟨rfl, rfl⟩ := hq
      refine ⟨_, _, MW (PW v t1 lz1 (tk_Q A N f)) R, rfl, rfl, rfl, ?_⟩
      refine im_cM rfl rfl (r_takeD (v := v) (R := R) (t := t1) (l := lz1) (b := (tk_Q A N f)) (by omega) hT (rq_Q hN f)) rfl hT (fun v1 w1 hq => ?_)
      obtain ⟨rfl, rfl⟩ := hq
      refine ⟨(PW v t1 lz1 (tk_Q A N f)), R, rfl, rfl, ?_⟩
      refine im_bT rfl rfl ⟨(by decide), trivial⟩ rfl ?_
      refine im_r rfl rfl trivial rfl ?_
      rw [hres]
      exact ⟨rfl, hf1, t1, lz1, rfl⟩
    · have hj1 := rq_nt hN (by decide) (show 0 ≤ i + 1 ∧ i + 1 ≤ tk_nt A N by omega) q1
      refine im_g 2 (y := (31, _, _, _)) rfl trivial ?_
      refine im_cM rfl rfl (h1 d od v R A N (o) (i + 1) (l) (.inr (j1, l1, m1)) hP (by omega) (by omega) (by omega) hl q1) rfl hT (fun v1 w1 hq => ?_)
      obtain ⟨rfl, hlb1, rfl⟩ := hq
      refine ⟨(PW v j1 l1 (-1)), R, rfl, rfl, ?_⟩
      refine im_g 1 (y := (5, _, _, _)) rfl trivial ?_
      exact h2 d od v R A N o j1 l1 _ res hP ho (by omega) hj1 hlb1 q3
  · have c14 : ¬ (tk_C A N i = 100 + 43) := by
      intro hh
      rw [if_pos hh] at br1
      exact br1 (by decide)
    clear br1
    rw [if_neg c14]
    refine im_g 2 (y := (20, _, _, _)) rfl trivial ?_
    refine im_call [] rfl rfl (m_sign (a := 45) (by omega) hT) rfl rfl rfl (by decide) rfl (by decide) hT (fun v1 w1 hq => ?_)
    obtain ⟨rfl, rfl⟩ := hq
    refine ⟨_, _, MW (PW v i l (-1)) R, rfl, rfl, rfl, ?_⟩
    refine im_cM rfl rfl (r_takeA (v := v) (R := R) (A := A) (N := N) (i := i) (l := l) (c := 100 + 45) (by omega) hT hA hN hk hi (by decide)) rfl hT (fun v1 w1 hq => ?_)
    obtain ⟨rfl, rfl⟩ := hq
    refine ⟨(PW v (if tk_C A N i = 100 + 45 then i + 1 else i) l (-1)), R, rfl, rfl, ?_⟩
    refine im_b rfl rfl ⟨(by split <;> decide), trivial⟩ (fun br2 => ?_) (fun br2 => ?_)
    · have c26 : ¬ (tk_C A N i = 100 + 45) := by
        intro hh
        rw [if_pos hh] at br2
        exact absurd br2 (by decide)
      clear br2
      rw [if_neg c26]
      refine im_r rfl rfl trivial rfl ?_
      rw [dn_4, if_neg (by omega)] at hdn
      have hres : res = .inr (i, l, a) := by cases hdn; rfl
      rw [hres]
      exact ⟨rfl, hl, rfl⟩
    · have c26 : tk_C A N i = 100 + 45 := by
        by_cases hh : tk_C A N i = 100 + 45
        · exact hh
        · rw [if_neg hh] at br2; exact absurd rfl br2
      clear br2
      rw [if_pos c26]
      rw [dn_4, if_pos (by omega)] at hdn
      have hlt := rq_lt (A := A) hN (i := i) (by omega)
      rcases d_bind_s hdn with ⟨f, q1, hres⟩ | ⟨j1, l1, m1, q1, q3⟩
      · refine im_g 2 (y := (31, _, _, _)) rfl trivial ?_
        refine im_cM rfl rfl (h1 d od v R A N (o) (i + 1) (l) (.inl f) hP (by omega) (by omega) (by omega) hl q1) rfl hT (fun v1 w1 hq => ?_)
        obtain ⟨rfl, hf1, t1, lz1, rfl⟩ := hq
        refine ⟨(PW v t1 lz1 (tk_Q A N f)), R, rfl, rfl, ?_⟩
        refine im_g 1 (y := (5, _, _, _)) rfl trivial ?_
        refine im_g 2 (y := (8, _, _, _)) rfl trivial ?_
        refine im_call [] rfl rfl (m_sign (a := 43) (by omega) hT) rfl rfl rfl (by decide) rfl (by decide) hT (fun v1 w1 hq => ?_)
        obtain ⟨rfl, rfl⟩ := hq
        refine ⟨_, _, MW (PW v t1 lz1 (tk_Q A N f)) R, rfl, rfl, rfl, ?_⟩
        refine im_cM rfl rfl (r_takeD (v := v) (R := R) (t := t1) (l := lz1) (b := (tk_Q A N f)) (by omega) hT (rq_Q hN f)) rfl hT (fun v1 w1 hq => ?_)
        obtain ⟨rfl, rfl⟩ := hq
        refine ⟨(PW v t1 lz1 (tk_Q A N f)), R, rfl, rfl, ?_⟩
        refine im_bF rfl rfl ⟨(by decide), trivial⟩ (fun z => z rfl) ?_
        refine im_g 2 (y := (20, _, _, _)) rfl trivial ?_
        refine im_call [] rfl rfl (m_sign (a := 45) (by omega) hT) rfl rfl rfl (by decide) rfl (by decide) hT (fun v1 w1 hq => ?_)
        obtain ⟨rfl, rfl⟩ := hq
        refine ⟨_, _, MW (PW v t1 lz1 (tk_Q A N f)) R, rfl, rfl, rfl, ?_⟩
        refine im_cM rfl rfl (r_takeD (v := v) (R := R) (t := t1) (l := lz1) (b := (tk_Q A N f)) (by omega) hT (rq_Q hN f)) rfl hT (fun v1 w1 hq => ?_)
        obtain ⟨rfl, rfl⟩ := hq
        refine ⟨(PW v t1 lz1 (tk_Q A N f)), R, rfl, rfl, ?_⟩
        refine im_bT rfl rfl ⟨(by decide), trivial⟩ rfl ?_
        refine im_r rfl rfl trivial rfl ?_
        rw [hres]
        exact ⟨rfl, hf1, t1, lz1, rfl⟩
      · have hj1 := rq_nt hN (by decide) (show 0 ≤ i + 1 ∧ i + 1 ≤ tk_nt A N by omega) q1
        refine im_g 2 (y := (31, _, _, _)) rfl trivial ?_
        refine im_cM rfl rfl (h1 d od v R A N (o) (i + 1) (l) (.inr (j1, l1, m1)) hP (by omega) (by omega) (by omega) hl q1) rfl hT (fun v1 w1 hq => ?_)
        obtain ⟨rfl, hlb1, rfl⟩ := hq
        refine ⟨(PW v j1 l1 (-1)), R, rfl, rfl, ?_⟩
        refine im_g 1 (y := (5, _, _, _)) rfl trivial ?_
        exact h2 d od v R A N o j1 l1 _ res hP ho (by omega) hj1 hlb1 q3
set_option maxHeartbeats 8000000 in
theorem r_R2 (hT : T.length < 1000) {n : Nat} (h1 : RqM ro T n 0 165 4) (h2 : RqR ro T n 2 ab_k_X9_readTerm 4) : RqR ro T (n + 1) 2 ab_k_X9_readTerm 4 := by
  intro d od v R A N o i l a res hP ho hd hi hl hdn
  obtain ⟨hA, hN, hk, hv8, hv9, hv10⟩ := id hP
  have htn := (tk_nt_b (A := A) hN).1
  have hcb : 0 ≤ tk_C A N i ∧ tk_C A N i ≤ 355 := tk_code_b hA _ _
  have hkk := hk i hi.1 hi.2
  refine im_g 2 (y := (8, _, _, _)) rfl trivial ?_
  refine im_call [] rfl rfl (m_sign (a := 42) (by omega) hT) rfl rfl rfl (by decide) rfl (by decide) hT (fun v1 w1 hq => ?_)
  obtain ⟨rfl, rfl⟩ := hq
  refine ⟨_, _, MW (PW v i l (-1)) R, rfl, rfl, rfl, ?_⟩
  refine im_cM rfl rfl (r_takeA (v := v) (R := R) (A := A) (N := N) (i := i) (l := l) (c := 100 + 42) (by omega) hT hA hN hk hi (by decide)) rfl hT (fun v1 w1 hq => ?_)
  obtain ⟨rfl, rfl⟩ := hq
  refine ⟨(PW v (if tk_C A N i = 100 + 42 then i + 1 else i) l (-1)), R, rfl, rfl, ?_⟩
  refine im_b rfl rfl ⟨(by split <;> decide), trivial⟩ (fun br1 => ?_) (fun br1 => ?_)
  · have c14 : tk_C A N i = 100 + 42 := by
      by_cases hh : tk_C A N i = 100 + 42
      · exact hh
      · rw [if_neg hh] at br1; exact absurd rfl br1
    clear br1
    rw [if_pos c14]
    rw [dn_2, if_pos (by omega)] at hdn
    have hlt := rq_lt (A := A) hN (i := i) (by omega)
    rcases d_bind_s hdn with ⟨f, q1, hres⟩ | ⟨j1, l1, m1, q1, q3⟩
    · refine im_g 2 (y := (43, _, _, _)) rfl trivial ?_
      refine im_cM rfl rfl (h1 d od v R A N (o) (i + 1) (l) (.inl f) hP (by omega) (by omega) (by omega) hl q1) rfl hT (fun v1 w1 hq => ?_)
      obtain ⟨rfl, hf1, t1, lz1, rfl⟩ := hq
      refine ⟨(PW v t1 lz1 (tk_Q A N f)), R, rfl, rfl, ?_⟩
      refine im_g 1 (y := (5, _, _, _)) rfl trivial ?_
      refine im_g 2 (y := (8, _, _, _)) rfl trivial ?_
      refine im_call [] rfl rfl (m_sign (a := 42) (by omega) hT) rfl rfl rfl (by decide) rfl (by decide) hT (fun v1 w1 hq => ?_)
      obtain ⟨rfl, rfl⟩ := hq
      refine ⟨_, _, MW (PW v t1 lz1 (tk_Q A N f)) R, rfl, rfl, rfl, ?_⟩
      refine im_cM rfl rfl (r_takeD (v := v) (R := R) (t := t1) (l := lz1) (b := (tk_Q A N f)) (by omega) hT (rq_Q hN f)) rfl hT (fun v1 w1 hq => ?_)
      obtain ⟨rfl, rfl⟩ := hq
      refine ⟨(PW v t1 lz1 (tk_Q A N f)), R, rfl, rfl, ?_⟩
      refine im_bF rfl rfl ⟨(by decide), trivial⟩ (fun z => z rfl) ?_
      refine im_g 2 (y := (20, _, _, _)) rfl trivial ?_
      refine im_call [] rfl rfl (m_sign (a := 47) (by omega) hT) rfl rfl rfl (by decide) rfl (by decide) hT (fun v1 w1 hq => ?_)
      obtain ⟨rfl, rfl⟩ := hq
      refine ⟨_, _, MW (PW v t1 lz1 (tk_Q A N f)) R, rfl, rfl, rfl, ?_⟩
      refine im_cM rfl rfl (r_takeD (v := v) (R := R) (t := t1) (l := lz1) (b := (tk_Q A N f)) (by omega) hT (rq_Q hN f)) rfl hT (fun v1 w1 hq => ?_)
      obtain ⟨rfl, rfl⟩ := hq
      refine ⟨(PW v t1 lz1 (tk_Q A N f)), R, rfl, rfl, ?_⟩
      refine im_bF rfl rfl ⟨(by decide), trivial⟩ (fun z => z rfl) ?_
      refine im_g 2 (y := (32, _, _, _)) rfl trivial ?_
      refine im_call [] rfl rfl (m_sign (a := 37) (by omega) hT) rfl rfl rfl (by decide) rfl (by decide) hT (fun v1 w1 hq => ?_)
      obtain ⟨rfl, rfl⟩ := hq
      refine ⟨_, _, MW (PW v t1 lz1 (tk_Q A N f)) R, rfl, rfl, rfl, ?_⟩
      refine im_cM rfl rfl (r_takeD (v := v) (R := R) (t := t1) (l := lz1) (b := (tk_Q A N f)) (by omega) hT (rq_Q hN f)) rfl hT (fun v1 w1 hq => ?_)
      obtain ⟨rfl, rfl⟩ := hq
      refine ⟨(PW v t1 lz1 (tk_Q A N f)), R, rfl, rfl, ?_⟩
      refine im_bT rfl rfl ⟨(by decide), trivial⟩ rfl ?_
      refine im_r rfl rfl trivial rfl ?_
      rw [hres]
      exact ⟨rfl, hf1, t1, lz1, rfl⟩
    · have hj1 := rq_nt hN (by decide) (show 0 ≤ i + 1 ∧ i + 1 ≤ tk_nt A N by omega) q1
      refine im_g 2 (y := (43, _, _, _)) rfl trivial ?_
      refine im_cM rfl rfl (h1 d od v R A N (o) (i + 1) (l) (.inr (j1, l1, m1)) hP (by omega) (by omega) (by omega) hl q1) rfl hT (fun v1 w1 hq => ?_)
      obtain ⟨rfl, hlb1, rfl⟩ := hq
      refine ⟨(PW v j1 l1 (-1)), R, rfl, rfl, ?_⟩
      refine im_g 1 (y := (5, _, _, _)) rfl trivial ?_
      exact h2 d od v R A N o j1 l1 _ res hP ho (by omega) hj1 hlb1 q3
  · have c14 : ¬ (tk_C A N i = 100 + 42) := by
      intro hh
      rw [if_pos hh] at br1
      exact br1 (by decide)
    clear br1
    rw [if_neg c14]
    refine im_g 2 (y := (20, _, _, _)) rfl trivial ?_
    refine im_call [] rfl rfl (m_sign (a := 47) (by omega) hT) rfl rfl rfl (by decide) rfl (by decide) hT (fun v1 w1 hq => ?_)
    obtain ⟨rfl, rfl⟩ := hq
    refine ⟨_, _, MW (PW v i l (-1)) R, rfl, rfl, rfl, ?_⟩
    refine im_cM rfl rfl (r_takeA (v := v) (R := R) (A := A) (N := N) (i := i) (l := l) (c := 100 + 47) (by omega) hT hA hN hk hi (by decide)) rfl hT (fun v1 w1 hq => ?_)
    obtain ⟨rfl, rfl⟩ := hq
    refine ⟨(PW v (if tk_C A N i = 100 + 47 then i + 1 else i) l (-1)), R, rfl, rfl, ?_⟩
    refine im_b rfl rfl ⟨(by split <;> decide), trivial⟩ (fun br2 => ?_) (fun br2 => ?_)
    · have c26 : tk_C A N i = 100 + 47 := by
        by_cases hh : tk_C A N i = 100 + 47
        · exact hh
        · rw [if_neg hh] at br2; exact absurd rfl br2
      clear br2
      rw [if_pos c26]
      rw [dn_2, if_pos (by omega)] at hdn
      have hlt := rq_lt (A := A) hN (i := i) (by omega)
      rcases d_bind_s hdn with ⟨f, q1, hres⟩ | ⟨j1, l1, m1, q1, q3⟩
      · refine im_g 2 (y := (43, _, _, _)) rfl trivial ?_
        refine im_cM rfl rfl (h1 d od v R A N (o) (i + 1) (l) (.inl f) hP (by omega) (by omega) (by omega) hl q1) rfl hT (fun v1 w1 hq => ?_)
        obtain ⟨rfl, hf1, t1, lz1, rfl⟩ := hq
        refine ⟨(PW v t1 lz1 (tk_Q A N f)), R, rfl, rfl, ?_⟩
        refine im_g 1 (y := (5, _, _, _)) rfl trivial ?_
        refine im_g 2 (y := (8, _, _, _)) rfl trivial ?_
        refine im_call [] rfl rfl (m_sign (a := 42) (by omega) hT) rfl rfl rfl (by decide) rfl (by decide) hT (fun v1 w1 hq => ?_)
        obtain ⟨rfl, rfl⟩ := hq
        refine ⟨_, _, MW (PW v t1 lz1 (tk_Q A N f)) R, rfl, rfl, rfl, ?_⟩
        refine im_cM rfl rfl (r_takeD (v := v) (R := R) (t := t1) (l := lz1) (b := (tk_Q A N f)) (by omega) hT (rq_Q hN f)) rfl hT (fun v1 w1 hq => ?_)
        obtain ⟨rfl, rfl⟩ := hq
        refine ⟨(PW v t1 lz1 (tk_Q A N f)), R, rfl, rfl, ?_⟩
        refine im_bF rfl rfl ⟨(by decide), trivial⟩ (fun z => z rfl) ?_
        refine im_g 2 (y := (20, _, _, _)) rfl trivial ?_
        refine im_call [] rfl rfl (m_sign (a := 47) (by omega) hT) rfl rfl rfl (by decide) rfl (by decide) hT (fun v1 w1 hq => ?_)
        obtain ⟨rfl, rfl⟩ := hq
        refine ⟨_, _, MW (PW v t1 lz1 (tk_Q A N f)) R, rfl, rfl, rfl, ?_⟩
        refine im_cM rfl rfl (r_takeD (v := v) (R := R) (t := t1) (l := lz1) (b := (tk_Q A N f)) (by omega) hT (rq_Q hN f)) rfl hT (fun v1 w1 hq => ?_)
        obtain ⟨rfl, rfl⟩ := hq
        refine ⟨(PW v t1 lz1 (tk_Q A N f)), R, rfl, rfl, ?_⟩
        refine im_bF rfl rfl ⟨(by decide), trivial⟩ (fun z => z rfl) ?_
        refine im_g 2 (y := (32, _, _, _)) rfl trivial ?_
        refine im_call [] rfl rfl (m_sign (a := 37) (by omega) hT) rfl rfl rfl (by decide) rfl (by decide) hT (fun v1 w1 hq => ?_)
        obtain ⟨rfl, rfl⟩ := hq
        refine ⟨_, _, MW (PW v t1 lz1 (tk_Q A N f)) R, rfl, rfl, rfl, ?_⟩
        refine im_cM rfl rfl (r_takeD (v := v) (R := R) (t := t1) (l := lz1) (b := (tk_Q A N f)) (by omega) hT (rq_Q hN f)) rfl hT (fun v1 w1 hq => ?_)
        obtain ⟨rfl, rfl⟩ := hq
        refine ⟨(PW v t1 lz1 (tk_Q A N f)), R, rfl, rfl, ?_⟩
        refine im_bT rfl rfl ⟨(by decide), trivial⟩ rfl ?_
        refine im_r rfl rfl trivial rfl ?_
        rw [hres]
        exact ⟨rfl, hf1, t1, lz1, rfl⟩
      · have hj1 := rq_nt hN (by decide) (show 0 ≤ i + 1 ∧ i + 1 ≤ tk_nt A N by omega) q1
        refine im_g 2 (y := (43, _, _, _)) rfl trivial ?_
        refine im_cM rfl rfl (h1 d od v R A N (o) (i + 1) (l) (.inr (j1, l1, m1)) hP (by omega) (by omega) (by omega) hl q1) rfl hT (fun v1 w1 hq => ?_)
        obtain ⟨rfl, hlb1, rfl⟩ := hq
        refine ⟨(PW v j1 l1 (-1)), R, rfl, rfl, ?_⟩
        refine im_g 1 (y := (5, _, _, _)) rfl trivial ?_
        exact h2 d od v R A N o j1 l1 _ res hP ho (by omega) hj1 hlb1 q3
    · have c26 : ¬ (tk_C A N i = 100 + 47) := by
        intro hh
        rw [if_pos hh] at br2
        exact br2 (by decide)
      clear br2
      rw [if_neg c26]
      refine im_g 2 (y := (32, _, _, _)) rfl trivial ?_
      refine im_call [] rfl rfl (m_sign (a := 37) (by omega) hT) rfl rfl rfl (by decide) rfl (by decide) hT (fun v1 w1 hq => ?_)
      obtain ⟨rfl, rfl⟩ := hq
      refine ⟨_, _, MW (PW v i l (-1)) R, rfl, rfl, rfl, ?_⟩
      refine im_cM rfl rfl (r_takeA (v := v) (R := R) (A := A) (N := N) (i := i) (l := l) (c := 100 + 37) (by omega) hT hA hN hk hi (by decide)) rfl hT (fun v1 w1 hq => ?_)
      obtain ⟨rfl, rfl⟩ := hq
      refine ⟨(PW v (if tk_C A N i = 100 + 37 then i + 1 else i) l (-1)), R, rfl, rfl, ?_⟩
      refine im_b rfl rfl ⟨(by split <;> decide), trivial⟩ (fun br3 => ?_) (fun br3 => ?_)
      · have c38 : ¬ (tk_C A N i = 100 + 37) := by
          intro hh
          rw [if_pos hh] at br3
          exact absurd br3 (by decide)
        clear br3
        rw [if_neg c38]
        refine im_r rfl rfl trivial rfl ?_
        rw [dn_2, if_neg (by omega)] at hdn
        have hres : res = .inr (i, l, a) := by cases hdn; rfl
        rw [hres]
        exact ⟨rfl, hl, rfl⟩
      · have c38 : tk_C A N i = 100 + 37 := by
          by_cases hh : tk_C A N i = 100 + 37
          · exact hh
          · rw [if_neg hh] at br3; exact absurd rfl br3
        clear br3
        rw [if_pos c38]
        rw [dn_2, if_pos (by omega)] at hdn
        have hlt := rq_lt (A := A) hN (i := i) (by omega)
        rcases d_bind_s hdn with ⟨f, q1, hres⟩ | ⟨j1, l1, m1, q1, q3⟩
        · refine im_g 2 (y := (43, _, _, _)) rfl trivial ?_
          refine im_cM rfl rfl (h1 d od v R A N (o) (i + 1) (l) (.inl f) hP (by omega) (by omega) (by omega) hl q1) rfl hT (fun v1 w1 hq => ?_)
          obtain ⟨rfl, hf1, t1, lz1, rfl⟩ := hq
          refine ⟨(PW v t1 lz1 (tk_Q A N f)), R, rfl, rfl, ?_⟩
          refine im_g 1 (y := (5, _, _, _)) rfl trivial ?_
          refine im_g 2 (y := (8, _, _, _)) rfl trivial ?_
          refine im_call [] rfl rfl (m_sign (a := 42) (by omega) hT) rfl rfl rfl (by decide) rfl (by decide) hT (fun v1 w1 hq => ?_)
          obtain ⟨rfl, rfl⟩ := hq
          refine ⟨_, _, MW (PW v t1 lz1 (tk_Q A N f)) R, rfl, rfl, rfl, ?_⟩
          refine im_cM rfl rfl (r_takeD (v := v) (R := R) (t := t1) (l := lz1) (b := (tk_Q A N f)) (by omega) hT (rq_Q hN f)) rfl hT (fun v1 w1 hq => ?_)
          obtain ⟨rfl, rfl⟩ := hq
          refine ⟨(PW v t1 lz1 (tk_Q A N f)), R, rfl, rfl, ?_⟩
          refine im_bF rfl rfl ⟨(by decide), trivial⟩ (fun z => z rfl) ?_
          refine im_g 2 (y := (20, _, _, _)) rfl trivial ?_
          refine im_call [] rfl rfl (m_sign (a := 47) (by omega) hT) rfl rfl rfl (by decide) rfl (by decide) hT (fun v1 w1 hq => ?_)
          obtain ⟨rfl, rfl⟩ := hq
          refine ⟨_, _, MW (PW v t1 lz1 (tk_Q A N f)) R, rfl, rfl, rfl, ?_⟩
          refine im_cM rfl rfl (r_takeD (v := v) (R := R) (t := t1) (l := lz1) (b := (tk_Q A N f)) (by omega) hT (rq_Q hN f)) rfl hT (fun v1 w1 hq => ?_)
          obtain ⟨rfl, rfl⟩ := hq
          refine ⟨(PW v t1 lz1 (tk_Q A N f)), R, rfl, rfl, ?_⟩
          refine im_bF rfl rfl ⟨(by decide), trivial⟩ (fun z => z rfl) ?_
          refine im_g 2 (y := (32, _, _, _)) rfl trivial ?_
          refine im_call [] rfl rfl (m_sign (a := 37) (by omega) hT) rfl rfl rfl (by decide) rfl (by decide) hT (fun v1 w1 hq => ?_)
          obtain ⟨rfl, rfl⟩ := hq
          refine ⟨_, _, MW (PW v t1 lz1 (tk_Q A N f)) R, rfl, rfl, rfl, ?_⟩
          refine im_cM rfl rfl (r_takeD (v := v) (R := R) (t := t1) (l := lz1) (b := (tk_Q A N f)) (by omega) hT (rq_Q hN f)) rfl hT (fun v1 w1 hq => ?_)
          obtain ⟨rfl, rfl⟩ := hq
          refine ⟨(PW v t1 lz1 (tk_Q A N f)), R, rfl, rfl, ?_⟩
          refine im_bT rfl rfl ⟨(by decide), trivial⟩ rfl ?_
          refine im_r rfl rfl trivial rfl ?_
          rw [hres]
          exact ⟨rfl, hf1, t1, lz1, rfl⟩
        · have hj1 := rq_nt hN (by decide) (show 0 ≤ i + 1 ∧ i + 1 ≤ tk_nt A N by omega) q1
          refine im_g 2 (y := (43, _, _, _)) rfl trivial ?_
          refine im_cM rfl rfl (h1 d od v R A N (o) (i + 1) (l) (.inr (j1, l1, m1)) hP (by omega) (by omega) (by omega) hl q1) rfl hT (fun v1 w1 hq => ?_)
          obtain ⟨rfl, hlb1, rfl⟩ := hq
          refine ⟨(PW v j1 l1 (-1)), R, rfl, rfl, ?_⟩
          refine im_g 1 (y := (5, _, _, _)) rfl trivial ?_
          exact h2 d od v R A N o j1 l1 _ res hP ho (by omega) hj1 hlb1 q3
set_option maxHeartbeats 8000000 in
theorem r_R8 (hT : T.length < 1000) {n : Nat} (h1 : RqM ro T n 5 162 7) (h2 : RqR ro T n 8 ab_k_X9_readBoth 7) : RqR ro T (n + 1) 8 ab_k_X9_readBoth 7 := by
  intro d od v R A N o i l a res hP ho hd hi hl hdn
  obtain ⟨hA, hN, hk, hv8, hv9, hv10⟩ := id hP
  have htn := (tk_nt_b (A := A) hN).1
  have hcb : 0 ≤ tk_C A N i ∧ tk_C A N i ≤ 355 := tk_code_b hA _ _
  have hkk := hk i hi.1 hi.2
  refine im_g 2 (y := (8, _, _, _)) rfl trivial ?_
  refine im_cM rfl rfl (r_takeA (v := v) (R := R) (A := A) (N := N) (i := i) (l := l) (c := 7) (by omega) hT hA hN hk hi (by decide)) rfl hT (fun v1 w1 hq => ?_)
  obtain ⟨rfl, rfl⟩ := hq
  refine ⟨(PW v (if tk_C A N i = 7 then i + 1 else i) l (-1)), R, rfl, rfl, ?_⟩
  refine im_b rfl rfl ⟨(by split <;> decide), trivial⟩ (fun br1 => ?_) (fun br1 => ?_)
  · have c11 : ¬ (tk_C A N i = 7) := by
      intro hh
      rw [if_pos hh] at br1
      exact absurd br1 (by decide)
    clear br1
    rw [if_neg c11]
    refine im_r rfl rfl trivial rfl ?_
    rw [dn_8, if_neg (by omega)] at hdn
    have hres : res = .inr (i, l, a) := by cases hdn; rfl
    rw [hres]
    exact ⟨rfl, hl, rfl⟩
  · have c11 : tk_C A N i = 7 := by
      by_cases hh : tk_C A N i = 7
      · exact hh
      · rw [if_neg hh] at br1; exact absurd rfl br1
    clear br1
    rw [if_pos c11]
    rw [dn_8, if_pos (by omega)] at hdn
    have hlt := rq_lt (A := A) hN (i := i) (by omega)
    rcases d_bind_s hdn with ⟨f, q1, hres⟩ | ⟨j1, l1, m1, q1, q3⟩
    · refine im_g 2 (y := (16, _, _, _)) rfl trivial ?_
      refine im_cM rfl rfl (h1 d od v R A N (o) (i + 1) (l) (.inl f) hP (by omega) (by omega) (by omega) hl q1) rfl hT (fun v1 w1 hq => ?_)
      obtain ⟨rfl, hf1, t1, lz1, rfl⟩ := hq
      refine ⟨(PW v t1 lz1 (tk_Q A N f)), R, rfl, rfl, ?_⟩
      refine im_g 1 (y := (5, _, _, _)) rfl trivial ?_
      refine im_g 2 (y := (8, _, _, _)) rfl trivial ?_
      refine im_cM rfl rfl (r_takeD (v := v) (R := R) (t := t1) (l := lz1) (b := (tk_Q A N f)) (by omega) hT (rq_Q hN f)) rfl hT (fun v1 w1 hq => ?_)
      obtain ⟨rfl, rfl⟩ := hq
      refine ⟨(PW v t1 lz1 (tk_Q A N f)), R, rfl, rfl, ?_⟩
      refine im_bT rfl rfl ⟨(by decide), trivial⟩ rfl ?_
      refine im_r rfl rfl trivial rfl ?_
      rw [hres]
      exact ⟨rfl, hf1, t1, lz1, rfl⟩
    · have hj1 := rq_nt hN (by decide) (show 0 ≤ i + 1 ∧ i + 1 ≤ tk_nt A N by omega) q1
      refine im_g 2 (y := (16, _, _, _)) rfl trivial ?_
      refine im_cM rfl rfl (h1 d od v R A N (o) (i + 1) (l) (.inr (j1, l1, m1)) hP (by omega) (by omega) (by omega) hl q1) rfl hT (fun v1 w1 hq => ?_)
      obtain ⟨rfl, hlb1, rfl⟩ := hq
      refine ⟨(PW v j1 l1 (-1)), R, rfl, rfl, ?_⟩
      refine im_g 1 (y := (5, _, _, _)) rfl trivial ?_
      exact h2 d od v R A N o j1 l1 _ res hP ho (by omega) hj1 hlb1 q3
set_option maxHeartbeats 8000000 in
theorem r_R10 (hT : T.length < 1000) {n : Nat} (h1 : RqM ro T n 7 161 8) (h2 : RqR ro T n 10 ab_k_X9_readTest 8) : RqR ro T (n + 1) 10 ab_k_X9_readTest 8 := by
  intro d od v R A N o i l a res hP ho hd hi hl hdn
  obtain ⟨hA, hN, hk, hv8, hv9, hv10⟩ := id hP
  have htn := (tk_nt_b (A := A) hN).1
  have hcb : 0 ≤ tk_C A N i ∧ tk_C A N i ≤ 355 := tk_code_b hA _ _
  have hkk := hk i hi.1 hi.2
  refine im_g 2 (y := (8, _, _, _)) rfl trivial ?_
  refine im_cM rfl rfl (r_takeA (v := v) (R := R) (A := A) (N := N) (i := i) (l := l) (c := 6) (by omega) hT hA hN hk hi (by decide)) rfl hT (fun v1 w1 hq => ?_)
  obtain ⟨rfl, rfl⟩ := hq
  refine ⟨(PW v (if tk_C A N i = 6 then i + 1 else i) l (-1)), R, rfl, rfl, ?_⟩
  refine im_b rfl rfl ⟨(by split <;> decide), trivial⟩ (fun br1 => ?_) (fun br1 => ?_)
  · have c11 : ¬ (tk_C A N i = 6) := by
      intro hh
      rw [if_pos hh] at br1
      exact absurd br1 (by decide)
    clear br1
    rw [if_neg c11]
    refine im_r rfl rfl trivial rfl ?_
    rw [dn_10, if_neg (by omega)] at hdn
    have hres : res = .inr (i, l, a) := by cases hdn; rfl
    rw [hres]
    exact ⟨rfl, hl, rfl⟩
  · have c11 : tk_C A N i = 6 := by
      by_cases hh : tk_C A N i = 6
      · exact hh
      · rw [if_neg hh] at br1; exact absurd rfl br1
    clear br1
    rw [if_pos c11]
    rw [dn_10, if_pos (by omega)] at hdn
    have hlt := rq_lt (A := A) hN (i := i) (by omega)
    rcases d_bind_s hdn with ⟨f, q1, hres⟩ | ⟨j1, l1, m1, q1, q3⟩
    · refine im_g 2 (y := (16, _, _, _)) rfl trivial ?_
      refine im_cM rfl rfl (h1 d od v R A N (o) (i + 1) (l) (.inl f) hP (by omega) (by omega) (by omega) hl q1) rfl hT (fun v1 w1 hq => ?_)
      obtain ⟨rfl, hf1, t1, lz1, rfl⟩ := hq
      refine ⟨(PW v t1 lz1 (tk_Q A N f)), R, rfl, rfl, ?_⟩
      refine im_g 1 (y := (5, _, _, _)) rfl trivial ?_
      refine im_g 2 (y := (8, _, _, _)) rfl trivial ?_
      refine im_cM rfl rfl (r_takeD (v := v) (R := R) (t := t1) (l := lz1) (b := (tk_Q A N f)) (by omega) hT (rq_Q hN f)) rfl hT (fun v1 w1 hq => ?_)
      obtain ⟨rfl, rfl⟩ := hq
      refine ⟨(PW v t1 lz1 (tk_Q A N f)), R, rfl, rfl, ?_⟩
      refine im_bT rfl rfl ⟨(by decide), trivial⟩ rfl ?_
      refine im_r rfl rfl trivial rfl ?_
      rw [hres]
      exact ⟨rfl, hf1, t1, lz1, rfl⟩
    · have hj1 := rq_nt hN (by decide) (show 0 ≤ i + 1 ∧ i + 1 ≤ tk_nt A N by omega) q1
      refine im_g 2 (y := (16, _, _, _)) rfl trivial ?_
      refine im_cM rfl rfl (h1 d od v R A N (o) (i + 1) (l) (.inr (j1, l1, m1)) hP (by omega) (by omega) (by omega) hl q1) rfl hT (fun v1 w1 hq => ?_)
      obtain ⟨rfl, hlb1, rfl⟩ := hq
      refine ⟨(PW v j1 l1 (-1)), R, rfl, rfl, ?_⟩
      refine im_g 1 (y := (5, _, _, _)) rfl trivial ?_
      exact h2 d od v R A N o j1 l1 _ res hP ho (by omega) hj1 hlb1 q3
set_option maxHeartbeats 8000000 in
theorem r_3 (hT : T.length < 1000) {n : Nat} (h1 : RqM ro T n 1 164 5) (h2 : RqR ro T n 4 ab_k_X9_readSum 5) : RqM ro T (n + 1) 3 163 6 := by
  intro d od v R A N o i l res hP ho hd hi hl hdn
  obtain ⟨hA, hN, hk, hv8, hv9, hv10⟩ := id hP
  have htn := (tk_nt_b (A := A) hN).1
  have hcb : 0 ≤ tk_C A N i ∧ tk_C A N i ≤ 355 := tk_code_b hA _ _
  have hkk := hk i hi.1 hi.2
  obtain ⟨d, rfl⟩ : ∃ e, d = e + 1 := ⟨d - 1, by omega⟩
  rw [dn_3] at hdn
  refine im_ct_of (own := 9) (ret := none) (code := ab_k_X9_readSum) (nL := 2) (L0 := [some (mr 0), some (.inl o)]) (n := 24) rfl rfl rfl rfl rfl rfl rfl rfl rfl ?_
  rcases d_bind_s hdn with ⟨f, q1, hres⟩ | ⟨j1, l1, m1, q1, q3⟩
  · refine im_g 2 (y := (2, _, _, _)) rfl trivial ?_
    refine im_cM rfl rfl (h1 d od v R A N (o) (i) (l) (.inl f) hP (by omega) (by omega) hi hl q1) rfl hT (fun v1 w1 hq => ?_)
    obtain ⟨rfl, hf1, t1, lz1, rfl⟩ := hq
    refine ⟨(PW v t1 lz1 (tk_Q A N f)), R, rfl, rfl, ?_⟩
    refine im_g 2 (y := (8, _, _, _)) rfl trivial ?_
    refine im_call [] rfl rfl (m_sign (a := 43) (by omega) hT) rfl rfl rfl (by decide) rfl (by decide) hT (fun v1 w1 hq => ?_)
    obtain ⟨rfl, rfl⟩ := hq
    refine ⟨_, _, MW (PW v t1 lz1 (tk_Q A N f)) R, rfl, rfl, rfl, ?_⟩
    refine im_cM rfl rfl (r_takeD (v := v) (R := R) (t := t1) (l := lz1) (b := (tk_Q A N f)) (by omega) hT (rq_Q hN f)) rfl hT (fun v1 w1 hq => ?_)
    obtain ⟨rfl, rfl⟩ := hq
    refine ⟨(PW v t1 lz1 (tk_Q A N f)), R, rfl, rfl, ?_⟩
    refine im_bF rfl rfl ⟨(by decide), trivial⟩ (fun z => z rfl) ?_
    refine im_g 2 (y := (20, _, _, _)) rfl trivial ?_
    refine im_call [] rfl rfl (m_sign (a := 45) (by omega) hT) rfl rfl rfl (by decide) rfl (by decide) hT (fun v1 w1 hq => ?_)
    obtain ⟨rfl, rfl⟩ := hq
    refine ⟨_, _, MW (PW v t1 lz1 (tk_Q A N f)) R, rfl, rfl, rfl, ?_⟩
    refine im_cM rfl rfl (r_takeD (v := v) (R := R) (t := t1) (l := lz1) (b := (tk_Q A N f)) (by omega) hT (rq_Q hN f)) rfl hT (fun v1 w1 hq => ?_)
    obtain ⟨rfl, rfl⟩ := hq
    refine ⟨(PW v t1 lz1 (tk_Q A N f)), R, rfl, rfl, ?_⟩
    refine im_bT rfl rfl ⟨(by decide), trivial⟩ rfl ?_
    refine im_r rfl rfl trivial rfl ?_
    rw [hres]
    exact ⟨rfl, hf1, t1, lz1, rfl⟩
  · have hj1 := rq_nt hN (by decide) hi q1
    refine im_g 2 (y := (2, _, _, _)) rfl trivial ?_
    refine im_cM rfl rfl (h1 d od v R A N (o) (i) (l) (.inr (j1, l1, m1)) hP (by omega) (by omega) hi hl q1) rfl hT (fun v1 w1 hq => ?_)
    obtain ⟨rfl, hlb1, rfl⟩ := hq
    refine ⟨(PW v j1 l1 (-1)), R, rfl, rfl, ?_⟩
    exact h2 d od v R A N o j1 l1 m1 res hP ho (by omega) hj1 hlb1 q3
set_option maxHeartbeats 8000000 in
theorem r_1 (hT : T.length < 1000) {n : Nat} (h1 : RqM ro T n 0 165 4) (h2 : RqR ro T n 2 ab_k_X9_readTerm 4) : RqM ro T (n + 1) 1 164 5 := by
  intro d od v R A N o i l res hP ho hd hi hl hdn
  obtain ⟨hA, hN, hk, hv8, hv9, hv10⟩ := id hP
  have htn := (tk_nt_b (A := A) hN).1
  have hcb : 0 ≤ tk_C A N i ∧ tk_C A N i ≤ 355 := tk_code_b hA _ _
  have hkk := hk i hi.1 hi.2
  obtain ⟨d, rfl⟩ : ∃ e, d = e + 1 := ⟨d - 1, by omega⟩
  rw [dn_1] at hdn
  refine im_ct_of (own := 9) (ret := none) (code := ab_k_X9_readTerm) (nL := 2) (L0 := [some (mr 0), some (.inl o)]) (n := 24) rfl rfl rfl rfl rfl rfl rfl rfl rfl ?_
  rcases d_bind_s hdn with ⟨f, q1, hres⟩ | ⟨j1, l1, m1, q1, q3⟩
  · refine im_g 2 (y := (2, _, _, _)) rfl trivial ?_
    refine im_cM rfl rfl (h1 d od v R A N (o) (i) (l) (.inl f) hP (by omega) (by omega) hi hl q1) rfl hT (fun v1 w1 hq => ?_)
    obtain ⟨rfl, hf1, t1, lz1, rfl⟩ := hq
    refine ⟨(PW v t1 lz1 (tk_Q A N f)), R, rfl, rfl, ?_⟩
    refine im_g 2 (y := (8, _, _, _)) rfl trivial ?_
    refine im_call [] rfl rfl (m_sign (a := 42) (by omega) hT) rfl rfl rfl (by decide) rfl (by decide) hT (fun v1 w1 hq => ?_)
    obtain ⟨rfl, rfl⟩ := hq
    refine ⟨_, _, MW (PW v t1 lz1 (tk_Q A N f)) R, rfl, rfl, rfl, ?_⟩
    refine im_cM rfl rfl (r_takeD (v := v) (R := R) (t := t1) (l := lz1) (b := (tk_Q A N f)) (by omega) hT (rq_Q hN f)) rfl hT (fun v1 w1 hq => ?_)
    obtain ⟨rfl, rfl⟩ := hq
    refine ⟨(PW v t1 lz1 (tk_Q A N f)), R, rfl, rfl, ?_⟩
    refine im_bF rfl rfl ⟨(by decide), trivial⟩ (fun z => z rfl) ?_
    refine im_g 2 (y := (20, _, _, _)) rfl trivial ?_
    refine im_call [] rfl rfl (m_sign (a := 47) (by omega) hT) rfl rfl rfl (by decide) rfl (by decide) hT (fun v1 w1 hq => ?_)
    obtain ⟨rfl, rfl⟩ := hq
    refine ⟨_, _, MW (PW v t1 lz1 (tk_Q A N f)) R, rfl, rfl, rfl, ?_⟩
    refine im_cM rfl rfl (r_takeD (v := v) (R := R) (t := t1) (l := lz1) (b := (tk_Q A N f)) (by omega) hT (rq_Q hN f)) rfl hT (fun v1 w1 hq => ?_)
    obtain ⟨rfl, rfl⟩ := hq
    refine ⟨(PW v t1 lz1 (tk_Q A N f)), R, rfl, rfl, ?_⟩
    refine im_bF rfl rfl ⟨(by decide), trivial⟩ (fun z => z rfl) ?_
    refine im_g 2 (y := (32, _, _, _)) rfl trivial ?_
    refine im_call [] rfl rfl (m_sign (a := 37) (by omega) hT) rfl rfl rfl (by decide) rfl (by decide) hT (fun v1 w1 hq => ?_)
    obtain ⟨rfl, rfl⟩ := hq
    refine ⟨_, _, MW (PW v t1 lz1 (tk_Q A N f)) R, rfl, rfl, rfl, ?_⟩
    refine im_cM rfl rfl (r_takeD (v := v) (R := R) (t := t1) (l := lz1) (b := (tk_Q A N f)) (by omega) hT (rq_Q hN f)) rfl hT (fun v1 w1 hq => ?_)
    obtain ⟨rfl, rfl⟩ := hq
    refine ⟨(PW v t1 lz1 (tk_Q A N f)), R, rfl, rfl, ?_⟩
    refine im_bT rfl rfl ⟨(by decide), trivial⟩ rfl ?_
    refine im_r rfl rfl trivial rfl ?_
    rw [hres]
    exact ⟨rfl, hf1, t1, lz1, rfl⟩
  · have hj1 := rq_nt hN (by decide) hi q1
    refine im_g 2 (y := (2, _, _, _)) rfl trivial ?_
    refine im_cM rfl rfl (h1 d od v R A N (o) (i) (l) (.inr (j1, l1, m1)) hP (by omega) (by omega) hi hl q1) rfl hT (fun v1 w1 hq => ?_)
    obtain ⟨rfl, hlb1, rfl⟩ := hq
    refine ⟨(PW v j1 l1 (-1)), R, rfl, rfl, ?_⟩
    exact h2 d od v R A N o j1 l1 m1 res hP ho (by omega) hj1 hlb1 q3
set_option maxHeartbeats 8000000 in
theorem r_7 (hT : T.length < 1000) {n : Nat} (h1 : RqM ro T n 5 162 7) (h2 : RqR ro T n 8 ab_k_X9_readBoth 7) : RqM ro T (n + 1) 7 161 8 := by
  intro d od v R A N o i l res hP ho hd hi hl hdn
  obtain ⟨hA, hN, hk, hv8, hv9, hv10⟩ := id hP
  have htn := (tk_nt_b (A := A) hN).1
  have hcb : 0 ≤ tk_C A N i ∧ tk_C A N i ≤ 355 := tk_code_b hA _ _
  have hkk := hk i hi.1 hi.2
  obtain ⟨d, rfl⟩ : ∃ e, d = e + 1 := ⟨d - 1, by omega⟩
  rw [dn_7] at hdn
  refine im_ct_of (own := 9) (ret := none) (code := ab_k_X9_readBoth) (nL := 2) (L0 := [some (mr 0), some (.inl o)]) (n := 24) rfl rfl rfl rfl rfl rfl rfl rfl rfl ?_
  rcases d_bind_s hdn with ⟨f, q1, hres⟩ | ⟨j1, l1, m1, q1, q3⟩
  · refine im_g 2 (y := (2, _, _, _)) rfl trivial ?_
    refine im_cM rfl rfl (h1 d od v R A N (o) (i) (l) (.inl f) hP (by omega) (by omega) hi hl q1) rfl hT (fun v1 w1 hq => ?_)
    obtain ⟨rfl, hf1, t1, lz1, rfl⟩ := hq
    refine ⟨(PW v t1 lz1 (tk_Q A N f)), R, rfl, rfl, ?_⟩
    refine im_g 2 (y := (8, _, _, _)) rfl trivial ?_
    refine im_cM rfl rfl (r_takeD (v := v) (R := R) (t := t1) (l := lz1) (b := (tk_Q A N f)) (by omega) hT (rq_Q hN f)) rfl hT (fun v1 w1 hq => ?_)
    obtain ⟨rfl, rfl⟩ := hq
    refine ⟨(PW v t1 lz1 (tk_Q A N f)), R, rfl, rfl, ?_⟩
    refine im_bT rfl rfl ⟨(by decide), trivial⟩ rfl ?_
    refine im_r rfl rfl trivial rfl ?_
    rw [hres]
    exact ⟨rfl, hf1, t1, lz1, rfl⟩
  · have hj1 := rq_nt hN (by decide) hi q1
    refine im_g 2 (y := (2, _, _, _)) rfl trivial ?_
    refine im_cM rfl rfl (h1 d od v R A N (o) (i) (l) (.inr (j1, l1, m1)) hP (by omega) (by omega) hi hl q1) rfl hT (fun v1 w1 hq => ?_)
    obtain ⟨rfl, hlb1, rfl⟩ := hq
    refine ⟨(PW v j1 l1 (-1)), R, rfl, rfl, ?_⟩
    exact h2 d od v R A N o j1 l1 m1 res hP ho (by omega) hj1 hlb1 q3
set_option maxHeartbeats 8000000 in
theorem r_9 (hT : T.length < 1000) {n : Nat} (h1 : RqM ro T n 7 161 8) (h2 : RqR ro T n 10 ab_k_X9_readTest 8) : RqM ro T (n + 1) 9 160 9 := by
  intro d od v R A N o i l res hP ho hd hi hl hdn
  obtain ⟨hA, hN, hk, hv8, hv9, hv10⟩ := id hP
  have htn := (tk_nt_b (A := A) hN).1
  have hcb : 0 ≤ tk_C A N i ∧ tk_C A N i ≤ 355 := tk_code_b hA _ _
  have hkk := hk i hi.1 hi.2
  obtain ⟨d, rfl⟩ : ∃ e, d = e + 1 := ⟨d - 1, by omega⟩
  rw [dn_9] at hdn
  refine im_ct_of (own := 9) (ret := none) (code := ab_k_X9_readTest) (nL := 2) (L0 := [some (mr 0), some (.inl o)]) (n := 24) rfl rfl rfl rfl rfl rfl rfl rfl rfl ?_
  rcases d_bind_s hdn with ⟨f, q1, hres⟩ | ⟨j1, l1, m1, q1, q3⟩
  · refine im_g 2 (y := (2, _, _, _)) rfl trivial ?_
    refine im_cM rfl rfl (h1 d od v R A N (o) (i) (l) (.inl f) hP (by omega) (by omega) hi hl q1) rfl hT (fun v1 w1 hq => ?_)
    obtain ⟨rfl, hf1, t1, lz1, rfl⟩ := hq
    refine ⟨(PW v t1 lz1 (tk_Q A N f)), R, rfl, rfl, ?_⟩
    refine im_g 2 (y := (8, _, _, _)) rfl trivial ?_
    refine im_cM rfl rfl (r_takeD (v := v) (R := R) (t := t1) (l := lz1) (b := (tk_Q A N f)) (by omega) hT (rq_Q hN f)) rfl hT (fun v1 w1 hq => ?_)
    obtain ⟨rfl, rfl⟩ := hq
    refine ⟨(PW v t1 lz1 (tk_Q A N f)), R, rfl, rfl, ?_⟩
    refine im_bT rfl rfl ⟨(by decide), trivial⟩ rfl ?_
    refine im_r rfl rfl trivial rfl ?_
    rw [hres]
    exact ⟨rfl, hf1, t1, lz1, rfl⟩
  · have hj1 := rq_nt hN (by decide) hi q1
    refine im_g 2 (y := (2, _, _, _)) rfl trivial ?_
    refine im_cM rfl rfl (h1 d od v R A N (o) (i) (l) (.inr (j1, l1, m1)) hP (by omega) (by omega) hi hl q1) rfl hT (fun v1 w1 hq => ?_)
    obtain ⟨rfl, hlb1, rfl⟩ := hq
    refine ⟨(PW v j1 l1 (-1)), R, rfl, rfl, ?_⟩
    exact h2 d od v R A N o j1 l1 m1 res hP ho (by omega) hj1 hlb1 q3
set_option maxHeartbeats 8000000 in
theorem r_0 (hT : T.length < 1000) {n : Nat} (h3 : RqM ro T n 3 163 6) : RqM ro T (n + 1) 0 165 4 := by
  intro d od v R A N o i l res hP ho hd hi hl hdn
  obtain ⟨hA, hN, hk, hv8, hv9, hv10⟩ := id hP
  have htn := (tk_nt_b (A := A) hN).1
  have hcb : 0 ≤ tk_C A N i ∧ tk_C A N i ≤ 355 := tk_code_b hA _ _
  have hkk := hk i hi.1 hi.2
  obtain ⟨d, rfl⟩ : ∃ e, d = e + 1 := ⟨d - 1, by omega⟩
  have hcc : R 9 (PW v i l (-1) 19) = tk_C A N i := hkk.1
  have hxx : R 10 (PW v i l (-1) 19) = tk_X A N i := hkk.2.1
  have e19 : PW v i l (-1) 19 = i := rfl
  have hxb : 0 ≤ tk_X A N i ∧ tk_X A N i ≤ 100000000 := tk_val_b _ _
  cases od with
  | false =>
    replace hv8 : PW v i l (-1) 8 = 9 := hv8
    replace hv9 : PW v i l (-1) 9 = 16 := hv9
    replace hv10 : v 10 = 0 := hv10
    refine im_ct_of (own := 9) (ret := none) (code := ab_k_X9_readPart) (nL := 3) (L0 := [some (mr 0), some (.inl o), none]) (n := 24) rfl rfl rfl rfl rfl rfl rfl rfl rfl ?_
    refine im_g 1 (y := (1, _, _, _)) rfl trivial ?_
    refine im_cM rfl rfl (r_fA (v := v) (R := R) (i := i) (l := l) (by omega) hT) rfl hT (fun v1 w1 hq => ?_)
    obtain ⟨rfl, rfl⟩ := hq
    refine ⟨(PW v i l (-1)), R, rfl, rfl, ?_⟩
    refine im_bT rfl rfl ⟨(by decide), trivial⟩ (by decide) ?_
    refine im_g 8 (y := (21, _, _, _)) rfl ⟨(by omega), trivial⟩ ?_
    refine im_call [] rfl rfl (m_sign (a := 91) (by omega) hT) rfl rfl rfl (by decide) rfl (by decide) hT (fun v1 w1 hq => ?_)
    obtain ⟨rfl, rfl⟩ := hq
    refine ⟨_, _, MW (PW v i l (-1)) R, rfl, rfl, rfl, ?_⟩
    refine im_b rfl rfl ⟨(by omega), (by omega), trivial⟩ (fun br1 => ?_) (fun br1 => ?_)
    · have c24 : ¬ tk_C A N i = 191 := by omega
      rw [dn_0, if_neg c24] at hdn
      rw [show d_first false = 9 from rfl, show d_last false = 16 from rfl] at hdn
      refine im_g 2 (y := (77, _, _, _)) rfl trivial ?_
      refine im_b rfl rfl ⟨(by omega), (by omega), trivial⟩ (fun br2 => ?_) (fun br2 => ?_)
      · refine im_g 3 (y := (100, _, _, _)) rfl trivial ?_
        refine im_b rfl rfl ⟨(by omega), (by omega), trivial⟩ (fun br3 => ?_) (fun br3 => ?_)
        · refine im_g 1 (y := (145, _, _, _)) rfl trivial ?_
          refine im_cM rfl rfl (r_faultsA (v := v) (R := R) (A := A) (N := N) (i := i) (l := l) (by omega) hT hA hN hk hi) rfl hT (fun v1 w1 hq => ?_)
          obtain ⟨rfl, rfl⟩ := hq
          refine ⟨(PW v i l (tk_Q A N i)), R, rfl, rfl, ?_⟩
          refine im_r rfl rfl trivial rfl ?_
          rw [if_neg (by omega)] at hdn
          have hres : res = .inl i := by cases hdn; rfl
          rw [hres]
          exact ⟨rfl, hi, i, l, rfl⟩
        · refine im_g 3 (y := (108, _, _, _)) rfl trivial ?_
          refine im_b rfl rfl ⟨(by omega), (by omega), trivial⟩ (fun br4 => ?_) (fun br4 => ?_)
          · refine im_g 1 (y := (145, _, _, _)) rfl trivial ?_
            refine im_cM rfl rfl (r_faultsA (v := v) (R := R) (A := A) (N := N) (i := i) (l := l) (by omega) hT hA hN hk hi) rfl hT (fun v1 w1 hq => ?_)
            obtain ⟨rfl, rfl⟩ := hq
            refine ⟨(PW v i l (tk_Q A N i)), R, rfl, rfl, ?_⟩
            refine im_r rfl rfl trivial rfl ?_
            rw [if_neg (by omega)] at hdn
            have hres : res = .inl i := by cases hdn; rfl
            rw [hres]
            exact ⟨rfl, hi, i, l, rfl⟩
          · rw [if_pos (show (tk_C A N i = 50 ∧ tk_X A N i ≤ 1000) ∨ (9 ≤ tk_C A N i ∧ tk_C A N i ≤ 16) by omega)] at hdn
            have hlt := rq_lt (A := A) hN (i := i) (by omega)
            by_cases hl50 : l = 50
            · rw [if_pos hl50] at hdn
              have hres : res = .inl i := by cases hdn; rfl
              refine im_g 1 (y := (112, _, _, _)) rfl trivial ?_
              refine im_cM rfl rfl (r_leafN (v := v) (R := R) (A := A) (N := N) (i := i) (l := l) (by omega) hT hA hN hk hi hl50) rfl hT (fun v1 w1 hq => ?_)
              obtain ⟨rfl, rfl⟩ := hq
              refine ⟨(PW v i 51 (tk_Q A N i)), R, rfl, rfl, ?_⟩
              refine im_g 2 (y := (119, _, _, _)) rfl trivial ?_
              refine im_bT rfl rfl ⟨(by first | decide | (show im_ir (v 10); rw [hv10]; decide)), trivial⟩ (show v 10 = 0 from hv10) ?_
              refine im_r rfl rfl trivial rfl ?_
              rw [hres]
              exact ⟨rfl, hi, i, 51, rfl⟩
            · rw [if_neg hl50] at hdn
              refine im_g 1 (y := (112, _, _, _)) rfl trivial ?_
              refine im_cM rfl rfl (r_leafY (v := v) (R := R) (A := A) (N := N) (i := i) (l := l) (by omega) hT hA hN hk hi (by omega)) rfl hT (fun v1 w1 hq => ?_)
              obtain ⟨rfl, rfl⟩ := hq
              refine ⟨(PW v (i + 1) (l + 1) (-1)), R, rfl, rfl, ?_⟩
              refine im_g 2 (y := (119, _, _, _)) rfl trivial ?_
              refine im_bT rfl rfl ⟨(by first | decide | (show im_ir (v 10); rw [hv10]; decide)), trivial⟩ (show v 10 = 0 from hv10) ?_
              refine im_r rfl rfl trivial rfl ?_
              rw [if_neg (fun z => absurd z.1 (by decide))] at hdn
              have hres : ∃ m, res = .inr (i + 1, l + 1, m) := by cases hdn; exact ⟨_, rfl⟩
              obtain ⟨m9, hres⟩ := hres
              rw [hres]
              exact ⟨rfl, (by omega), rfl⟩
      · refine im_g 6 (y := (92, _, _, _)) rfl ⟨(by omega), trivial⟩ ?_
        refine im_b rfl rfl ⟨(by omega), (by omega), trivial⟩ (fun br5 => ?_) (fun br5 => ?_)
        · rw [if_pos (show (tk_C A N i = 50 ∧ tk_X A N i ≤ 1000) ∨ (9 ≤ tk_C A N i ∧ tk_C A N i ≤ 16) by omega)] at hdn
          have hlt := rq_lt (A := A) hN (i := i) (by omega)
          by_cases hl50 : l = 50
          · rw [if_pos hl50] at hdn
            have hres : res = .inl i := by cases hdn; rfl
            refine im_g 1 (y := (112, _, _, _)) rfl trivial ?_
            refine im_cM rfl rfl (r_leafN (v := v) (R := R) (A := A) (N := N) (i := i) (l := l) (by omega) hT hA hN hk hi hl50) rfl hT (fun v1 w1 hq => ?_)
            obtain ⟨rfl, rfl⟩ := hq
            refine ⟨(PW v i 51 (tk_Q A N i)), R, rfl, rfl, ?_⟩
            refine im_g 2 (y := (119, _, _, _)) rfl trivial ?_
            refine im_bT rfl rfl ⟨(by first | decide | (show im_ir (v 10); rw [hv10]; decide)), trivial⟩ (show v 10 = 0 from hv10) ?_
            refine im_r rfl rfl trivial rfl ?_
            rw [hres]
            exact ⟨rfl, hi, i, 51, rfl⟩
          · rw [if_neg hl50] at hdn
            refine im_g 1 (y := (112, _, _, _)) rfl trivial ?_
            refine im_cM rfl rfl (r_leafY (v := v) (R := R) (A := A) (N := N) (i := i) (l := l) (by omega) hT hA hN hk hi (by omega)) rfl hT (fun v1 w1 hq => ?_)
            obtain ⟨rfl, rfl⟩ := hq
            refine ⟨(PW v (i + 1) (l + 1) (-1)), R, rfl, rfl, ?_⟩
            refine im_g 2 (y := (119, _, _, _)) rfl trivial ?_
            refine im_bT rfl rfl ⟨(by first | decide | (show im_ir (v 10); rw [hv10]; decide)), trivial⟩ (show v 10 = 0 from hv10) ?_
            refine im_r rfl rfl trivial rfl ?_
            rw [if_neg (fun z => absurd z.1 (by decide))] at hdn
            have hres : ∃ m, res = .inr (i + 1, l + 1, m) := by cases hdn; exact ⟨_, rfl⟩
            obtain ⟨m9, hres⟩ := hres
            rw [hres]
            exact ⟨rfl, (by omega), rfl⟩
        · refine im_g 3 (y := (100, _, _, _)) rfl trivial ?_
          refine im_b rfl rfl ⟨(by omega), (by omega), trivial⟩ (fun br6 => ?_) (fun br6 => ?_)
          · refine im_g 1 (y := (145, _, _, _)) rfl trivial ?_
            refine im_cM rfl rfl (r_faultsA (v := v) (R := R) (A := A) (N := N) (i := i) (l := l) (by omega) hT hA hN hk hi) rfl hT (fun v1 w1 hq => ?_)
            obtain ⟨rfl, rfl⟩ := hq
            refine ⟨(PW v i l (tk_Q A N i)), R, rfl, rfl, ?_⟩
            refine im_r rfl rfl trivial rfl ?_
            rw [if_neg (by omega)] at hdn
            have hres : res = .inl i := by cases hdn; rfl
            rw [hres]
            exact ⟨rfl, hi, i, l, rfl⟩
          · refine im_g 3 (y := (108, _, _, _)) rfl trivial ?_
            refine im_b rfl rfl ⟨(by omega), (by omega), trivial⟩ (fun br7 => ?_) (fun br7 => ?_)
            · refine im_g 1 (y := (145, _, _, _)) rfl trivial ?_
              refine im_cM rfl rfl (r_faultsA (v := v) (R := R) (A := A) (N := N) (i := i) (l := l) (by omega) hT hA hN hk hi) rfl hT (fun v1 w1 hq => ?_)
              obtain ⟨rfl, rfl⟩ := hq
              refine ⟨(PW v i l (tk_Q A N i)), R, rfl, rfl, ?_⟩
              refine im_r rfl rfl trivial rfl ?_
              rw [if_neg (by omega)] at hdn
              have hres : res = .inl i := by cases hdn; rfl
              rw [hres]
              exact ⟨rfl, hi, i, l, rfl⟩
            · rw [if_pos (show (tk_C A N i = 50 ∧ tk_X A N i ≤ 1000) ∨ (9 ≤ tk_C A N i ∧ tk_C A N i ≤ 16) by omega)] at hdn
              have hlt := rq_lt (A := A) hN (i := i) (by omega)
              by_cases hl50 : l = 50
              · rw [if_pos hl50] at hdn
                have hres : res = .inl i := by cases hdn; rfl
                refine im_g 1 (y := (112, _, _, _)) rfl trivial ?_
                refine im_cM rfl rfl (r_leafN (v := v) (R := R) (A := A) (N := N) (i := i) (l := l) (by omega) hT hA hN hk hi hl50) rfl hT (fun v1 w1 hq => ?_)
                obtain ⟨rfl, rfl⟩ := hq
                refine ⟨(PW v i 51 (tk_Q A N i)), R, rfl, rfl, ?_⟩
                refine im_g 2 (y := (119, _, _, _)) rfl trivial ?_
                refine im_bT rfl rfl ⟨(by first | decide | (show im_ir (v 10); rw [hv10]; decide)), trivial⟩ (show v 10 = 0 from hv10) ?_
                refine im_r rfl rfl trivial rfl ?_
                rw [hres]
                exact ⟨rfl, hi, i, 51, rfl⟩
              · rw [if_neg hl50] at hdn
                refine im_g 1 (y := (112, _, _, _)) rfl trivial ?_
                refine im_cM rfl rfl (r_leafY (v := v) (R := R) (A := A) (N := N) (i := i) (l := l) (by omega) hT hA hN hk hi (by omega)) rfl hT (fun v1 w1 hq => ?_)
                obtain ⟨rfl, rfl⟩ := hq
                refine ⟨(PW v (i + 1) (l + 1) (-1)), R, rfl, rfl, ?_⟩
                refine im_g 2 (y := (119, _, _, _)) rfl trivial ?_
                refine im_bT rfl rfl ⟨(by first | decide | (show im_ir (v 10); rw [hv10]; decide)), trivial⟩ (show v 10 = 0 from hv10) ?_
                refine im_r rfl rfl trivial rfl ?_
                rw [if_neg (fun z => absurd z.1 (by decide))] at hdn
                have hres : ∃ m, res = .inr (i + 1, l + 1, m) := by cases hdn; exact ⟨_, rfl⟩
                obtain ⟨m9, hres⟩ := hres
                rw [hres]
                exact ⟨rfl, (by omega), rfl⟩
    · have c24 : tk_C A N i = 191 := by omega
      rw [dn_0, if_pos c24] at hdn
      have hlt := rq_lt (A := A) hN (i := i) (by omega)
      by_cases ho8 : o = 8
      · rw [if_pos ho8] at hdn
        have hres : res = .inl i := by cases hdn; rfl
        refine im_g 2 (y := (30, _, _, _)) rfl trivial ?_
        refine im_bF rfl rfl ⟨(by omega), (by omega), trivial⟩ (fun z => z ho8) ?_
        refine im_g 1 (y := (34, _, _, _)) rfl trivial ?_
        refine im_cM rfl rfl (r_faultsA (v := v) (R := R) (A := A) (N := N) (i := i) (l := l) (by omega) hT hA hN hk hi) rfl hT (fun v1 w1 hq => ?_)
        obtain ⟨rfl, rfl⟩ := hq
        refine ⟨(PW v i l (tk_Q A N i)), R, rfl, rfl, ?_⟩
        refine im_g 1 (y := (38, _, _, _)) rfl trivial ?_
        refine im_cM rfl rfl (r_fD (v := v) (R := R) (t := i) (l := l) (b := (tk_Q A N i)) (by omega) hT (rq_Q hN i)) rfl hT (fun v1 w1 hq => ?_)
        obtain ⟨rfl, rfl⟩ := hq
        refine ⟨(PW v i l (tk_Q A N i)), R, rfl, rfl, ?_⟩
        refine im_bF rfl rfl ⟨(by decide), trivial⟩ (fun z => z rfl) ?_
        refine im_r rfl rfl trivial rfl ?_
        rw [hres]
        exact ⟨rfl, hi, i, l, rfl⟩
      · rw [if_neg ho8] at hdn
        refine im_g 2 (y := (30, _, _, _)) rfl trivial ?_
        refine im_bT rfl rfl ⟨(by omega), (by omega), trivial⟩ ho8 ?_
        refine im_g 1 (y := (38, _, _, _)) rfl trivial ?_
        refine im_cM rfl rfl (r_fA (v := v) (R := R) (i := i) (l := l) (by omega) hT) rfl hT (fun v1 w1 hq => ?_)
        obtain ⟨rfl, rfl⟩ := hq
        refine ⟨(PW v i l (-1)), R, rfl, rfl, ?_⟩
        refine im_bT rfl rfl ⟨(by decide), trivial⟩ (by decide) ?_
        rcases d_bind_s hdn with ⟨f, q1, hres⟩ | ⟨j1, l1, m1, q1, q3⟩
        · refine im_g 10 (y := (59, _, _, _)) rfl trivial ?_
          refine im_cM rfl rfl (h3 d false v R A N (o + 1) (i + 1) (l) (.inl f) hP (by omega) (by omega) (by omega) hl q1) rfl hT (fun v1 w1 hq => ?_)
          obtain ⟨rfl, hf1, t1, lz1, rfl⟩ := hq
          refine ⟨(PW v t1 lz1 (tk_Q A N f)), R, rfl, rfl, ?_⟩
          refine im_g 2 (y := (65, _, _, _)) rfl trivial ?_
          refine im_call [] rfl rfl (m_sign (a := 93) (by omega) hT) rfl rfl rfl (by decide) rfl (by decide) hT (fun v1 w1 hq => ?_)
          obtain ⟨rfl, rfl⟩ := hq
          refine ⟨_, _, MW (PW v t1 lz1 (tk_Q A N f)) R, rfl, rfl, rfl, ?_⟩
          refine im_cM rfl rfl (r_mustD (v := v) (R := R) (t := t1) (l := lz1) (b := (tk_Q A N f)) (by omega) hT (rq_Q hN f) (c := 100 + 93)) rfl hT (fun v1 w1 hq => ?_)
          obtain ⟨rfl, rfl⟩ := hq
          refine ⟨(PW v t1 lz1 (tk_Q A N f)), R, rfl, rfl, ?_⟩
          refine im_g 1 (y := (148, _, _, _)) rfl trivial ?_
          refine im_r rfl rfl trivial rfl ?_
          rw [hres]
          exact ⟨rfl, hf1, t1, lz1, rfl⟩
        · have hj1 := rq_nt hN (by decide) (show 0 ≤ i + 1 ∧ i + 1 ≤ tk_nt A N by omega) q1
          refine im_g 10 (y := (59, _, _, _)) rfl trivial ?_
          refine im_cM rfl rfl (h3 d false v R A N (o + 1) (i + 1) (l) (.inr (j1, l1, m1)) hP (by omega) (by omega) (by omega) hl q1) rfl hT (fun v1 w1 hq => ?_)
          obtain ⟨rfl, hlb1, rfl⟩ := hq
          refine ⟨(PW v j1 l1 (-1)), R, rfl, rfl, ?_⟩
          refine im_g 2 (y := (65, _, _, _)) rfl trivial ?_
          refine im_call [] rfl rfl (m_sign (a := 93) (by omega) hT) rfl rfl rfl (by decide) rfl (by decide) hT (fun v1 w1 hq => ?_)
          obtain ⟨rfl, rfl⟩ := hq
          refine ⟨_, _, MW (PW v j1 l1 (-1)) R, rfl, rfl, rfl, ?_⟩
          by_cases hcl : tk_C A N j1 = 100 + 93
          · rw [if_pos (show tk_C A N j1 = 193 from hcl)] at q3
            have hres : res = .inr (j1 + 1, l1, m1) := by cases q3; rfl
            refine im_cM rfl rfl (r_mustY (v := v) (R := R) (A := A) (N := N) (i := j1) (l := l1) (c := 100 + 93) (by omega) hT hA hN hk hj1 (by decide) hcl) rfl hT (fun v1 w1 hq => ?_)
            obtain ⟨rfl, rfl⟩ := hq
            refine ⟨(PW v (j1 + 1) l1 (-1)), R, rfl, rfl, ?_⟩
            refine im_g 1 (y := (148, _, _, _)) rfl trivial ?_
            refine im_r rfl rfl trivial rfl ?_
            rw [hres]
            exact ⟨rfl, hlb1, rfl⟩
          · rw [if_neg (show ¬ tk_C A N j1 = 193 from hcl)] at q3
            have hres : res = .inl j1 := by cases q3; rfl
            refine im_cM rfl rfl (r_mustN (v := v) (R := R) (A := A) (N := N) (i := j1) (l := l1) (c := 100 + 93) (by omega) hT hA hN hk hj1 (by decide) hcl) rfl hT (fun v1 w1 hq => ?_)
            obtain ⟨rfl, rfl⟩ := hq
            refine ⟨(PW v j1 l1 (tk_Q A N j1)), R, rfl, rfl, ?_⟩
            refine im_g 1 (y := (148, _, _, _)) rfl trivial ?_
            refine im_r rfl rfl trivial rfl ?_
            rw [hres]
            exact ⟨rfl, hj1, j1, l1, rfl⟩
  | true =>
    replace hv8 : PW v i l (-1) 8 = 14 := hv8
    replace hv9 : PW v i l (-1) 9 = 20 := hv9
    replace hv10 : v 10 = 1 := hv10
    refine im_ct_of (own := 9) (ret := none) (code := ab_k_X9_readPart) (nL := 3) (L0 := [some (mr 0), some (.inl o), none]) (n := 24) rfl rfl rfl rfl rfl rfl rfl rfl rfl ?_
    refine im_g 1 (y := (1, _, _, _)) rfl trivial ?_
    refine im_cM rfl rfl (r_fA (v := v) (R := R) (i := i) (l := l) (by omega) hT) rfl hT (fun v1 w1 hq => ?_)
    obtain ⟨rfl, rfl⟩ := hq
    refine ⟨(PW v i l (-1)), R, rfl, rfl, ?_⟩
    refine im_bT rfl rfl ⟨(by decide), trivial⟩ (by decide) ?_
    refine im_g 8 (y := (21, _, _, _)) rfl ⟨(by omega), trivial⟩ ?_
    refine im_call [] rfl rfl (m_sign (a := 91) (by omega) hT) rfl rfl rfl (by decide) rfl (by decide) hT (fun v1 w1 hq => ?_)
    obtain ⟨rfl, rfl⟩ := hq
    refine ⟨_, _, MW (PW v i l (-1)) R, rfl, rfl, rfl, ?_⟩
    refine im_b rfl rfl ⟨(by omega), (by omega), trivial⟩ (fun br1 => ?_) (fun br1 => ?_)
    · have c24 : ¬ tk_C A N i = 191 := by omega
      rw [dn_0, if_neg c24] at hdn
      rw [show d_first true = 14 from rfl, show d_last true = 20 from rfl] at hdn
      refine im_g 2 (y := (77, _, _, _)) rfl trivial ?_
      refine im_b rfl rfl ⟨(by omega), (by omega), trivial⟩ (fun br2 => ?_) (fun br2 => ?_)
      · refine im_g 3 (y := (100, _, _, _)) rfl trivial ?_
        refine im_b rfl rfl ⟨(by omega), (by omega), trivial⟩ (fun br3 => ?_) (fun br3 => ?_)
        · refine im_g 1 (y := (145, _, _, _)) rfl trivial ?_
          refine im_cM rfl rfl (r_faultsA (v := v) (R := R) (A := A) (N := N) (i := i) (l := l) (by omega) hT hA hN hk hi) rfl hT (fun v1 w1 hq => ?_)
          obtain ⟨rfl, rfl⟩ := hq
          refine ⟨(PW v i l (tk_Q A N i)), R, rfl, rfl, ?_⟩
          refine im_r rfl rfl trivial rfl ?_
          rw [if_neg (by omega)] at hdn
          have hres : res = .inl i := by cases hdn; rfl
          rw [hres]
          exact ⟨rfl, hi, i, l, rfl⟩
        · refine im_g 3 (y := (108, _, _, _)) rfl trivial ?_
          refine im_b rfl rfl ⟨(by omega), (by omega), trivial⟩ (fun br4 => ?_) (fun br4 => ?_)
          · refine im_g 1 (y := (145, _, _, _)) rfl trivial ?_
            refine im_cM rfl rfl (r_faultsA (v := v) (R := R) (A := A) (N := N) (i := i) (l := l) (by omega) hT hA hN hk hi) rfl hT (fun v1 w1 hq => ?_)
            obtain ⟨rfl, rfl⟩ := hq
            refine ⟨(PW v i l (tk_Q A N i)), R, rfl, rfl, ?_⟩
            refine im_r rfl rfl trivial rfl ?_
            rw [if_neg (by omega)] at hdn
            have hres : res = .inl i := by cases hdn; rfl
            rw [hres]
            exact ⟨rfl, hi, i, l, rfl⟩
          · rw [if_pos (show (tk_C A N i = 50 ∧ tk_X A N i ≤ 1000) ∨ (14 ≤ tk_C A N i ∧ tk_C A N i ≤ 20) by omega)] at hdn
            have hlt := rq_lt (A := A) hN (i := i) (by omega)
            by_cases hl50 : l = 50
            · rw [if_pos hl50] at hdn
              have hres : res = .inl i := by cases hdn; rfl
              refine im_g 1 (y := (112, _, _, _)) rfl trivial ?_
              refine im_cM rfl rfl (r_leafN (v := v) (R := R) (A := A) (N := N) (i := i) (l := l) (by omega) hT hA hN hk hi hl50) rfl hT (fun v1 w1 hq => ?_)
              obtain ⟨rfl, rfl⟩ := hq
              refine ⟨(PW v i 51 (tk_Q A N i)), R, rfl, rfl, ?_⟩
              refine im_g 2 (y := (119, _, _, _)) rfl trivial ?_
              refine im_bF rfl rfl ⟨(by first | decide | (show im_ir (v 10); rw [hv10]; decide)), trivial⟩ (show ¬ v 10 = 0 by rw [hv10]; decide) ?_
              refine im_g 2 (y := (125, _, _, _)) rfl trivial ?_
              refine im_b rfl rfl ⟨(by omega), (by omega), trivial⟩ (fun br5 => ?_) (fun br5 => ?_)
              · refine im_g 3 (y := (138, _, _, _)) rfl trivial ?_
                refine im_cM rfl rfl (r_numD (v := v) (R := R) (t := i) (l := 51) (b := tk_Q A N i) (by omega) hT (rq_Q hN i) (lo := 0) (hi2 := 9)) rfl hT (fun v1 w1 hq => ?_)
                obtain ⟨rfl, rfl⟩ := hq
                refine ⟨(PW v i 51 (tk_Q A N i)), R, rfl, rfl, ?_⟩
                refine im_g 1 (y := (148, _, _, _)) rfl trivial ?_
                refine im_r rfl rfl trivial rfl ?_
                rw [hres]
                exact ⟨rfl, hi, i, 51, rfl⟩
              · refine im_g 2 (y := (131, _, _, _)) rfl trivial ?_
                refine im_b rfl rfl ⟨(by omega), (by omega), trivial⟩ (fun br6 => ?_) (fun br6 => ?_)
                · refine im_r rfl rfl trivial rfl ?_
                  rw [hres]
                  exact ⟨rfl, hi, i, 51, rfl⟩
                · refine im_g 3 (y := (138, _, _, _)) rfl trivial ?_
                  refine im_cM rfl rfl (r_numD (v := v) (R := R) (t := i) (l := 51) (b := tk_Q A N i) (by omega) hT (rq_Q hN i) (lo := 0) (hi2 := 9)) rfl hT (fun v1 w1 hq => ?_)
                  obtain ⟨rfl, rfl⟩ := hq
                  refine ⟨(PW v i 51 (tk_Q A N i)), R, rfl, rfl, ?_⟩
                  refine im_g 1 (y := (148, _, _, _)) rfl trivial ?_
                  refine im_r rfl rfl trivial rfl ?_
                  rw [hres]
                  exact ⟨rfl, hi, i, 51, rfl⟩
            · rw [if_neg hl50] at hdn
              refine im_g 1 (y := (112, _, _, _)) rfl trivial ?_
              refine im_cM rfl rfl (r_leafY (v := v) (R := R) (A := A) (N := N) (i := i) (l := l) (by omega) hT hA hN hk hi (by omega)) rfl hT (fun v1 w1 hq => ?_)
              obtain ⟨rfl, rfl⟩ := hq
              refine ⟨(PW v (i + 1) (l + 1) (-1)), R, rfl, rfl, ?_⟩
              refine im_g 2 (y := (119, _, _, _)) rfl trivial ?_
              refine im_bF rfl rfl ⟨(by first | decide | (show im_ir (v 10); rw [hv10]; decide)), trivial⟩ (show ¬ v 10 = 0 by rw [hv10]; decide) ?_
              refine im_g 2 (y := (125, _, _, _)) rfl trivial ?_
              refine im_b rfl rfl ⟨(by omega), (by omega), trivial⟩ (fun br7 => ?_) (fun br7 => ?_)
              · rw [if_pos ⟨rfl, by omega⟩] at hdn
                by_cases hw : tk_C A N (i + 1) = 50 ∧ 0 ≤ tk_X A N (i + 1) ∧ tk_X A N (i + 1) ≤ 9
                · have hres : ∃ m, res = .inr (i + 2, l + 1, m) := by rw [if_pos hw] at hdn; cases hdn; exact ⟨_, rfl⟩
                  obtain ⟨m9, hres⟩ := hres
                  refine im_g 3 (y := (138, _, _, _)) rfl trivial ?_
                  refine im_cM rfl rfl (r_numY (v := v) (R := R) (A := A) (N := N) (i := i + 1) (l := l + 1) (lo := 0) (hi2 := 9) (by omega) hT hA hN hk (by omega) (by decide) (by decide) hw) rfl hT (fun v1 w1 hq => ?_)
                  obtain ⟨rfl, rfl⟩ := hq
                  refine ⟨(PW v (i + 1 + 1) (l + 1) (-1)), R, rfl, rfl, ?_⟩
                  refine im_g 1 (y := (148, _, _, _)) rfl trivial ?_
                  refine im_r rfl rfl trivial rfl ?_
                  rw [hres]
                  rw [show i + 1 + 1 = i + 2 by omega]
                  exact ⟨rfl, (by omega), rfl⟩
                · have hres : res = .inl (i + 1) := by rw [if_neg hw] at hdn; cases hdn; rfl
                  refine im_g 3 (y := (138, _, _, _)) rfl trivial ?_
                  refine im_cM rfl rfl (r_numN (v := v) (R := R) (A := A) (N := N) (i := i + 1) (l := l + 1) (lo := 0) (hi2 := 9) (by omega) hT hA hN hk (by omega) (by decide) (by decide) hw) rfl hT (fun v1 w1 hq => ?_)
                  obtain ⟨rfl, rfl⟩ := hq
                  refine ⟨(PW v (i + 1) (l + 1) (tk_Q A N (i + 1))), R, rfl, rfl, ?_⟩
                  refine im_g 1 (y := (148, _, _, _)) rfl trivial ?_
                  refine im_r rfl rfl trivial rfl ?_
                  rw [hres]
                  exact ⟨rfl, (by omega), _, _, rfl⟩
              · refine im_g 2 (y := (131, _, _, _)) rfl trivial ?_
                refine im_b rfl rfl ⟨(by omega), (by omega), trivial⟩ (fun br8 => ?_) (fun br8 => ?_)
                · refine im_r rfl rfl trivial rfl ?_
                  rw [if_neg (by omega)] at hdn
                  have hres : ∃ m, res = .inr (i + 1, l + 1, m) := by cases hdn; exact ⟨_, rfl⟩
                  obtain ⟨m9, hres⟩ := hres
                  rw [hres]
                  exact ⟨rfl, (by omega), rfl⟩
                · rw [if_pos ⟨rfl, by omega⟩] at hdn
                  by_cases hw : tk_C A N (i + 1) = 50 ∧ 0 ≤ tk_X A N (i + 1) ∧ tk_X A N (i + 1) ≤ 9
                  · have hres : ∃ m, res = .inr (i + 2, l + 1, m) := by rw [if_pos hw] at hdn; cases hdn; exact ⟨_, rfl⟩
                    obtain ⟨m9, hres⟩ := hres
                    refine im_g 3 (y := (138, _, _, _)) rfl trivial ?_
                    refine im_cM rfl rfl (r_numY (v := v) (R := R) (A := A) (N := N) (i := i + 1) (l := l + 1) (lo := 0) (hi2 := 9) (by omega) hT hA hN hk (by omega) (by decide) (by decide) hw) rfl hT (fun v1 w1 hq => ?_)
                    obtain ⟨rfl, rfl⟩ := hq
                    refine ⟨(PW v (i + 1 + 1) (l + 1) (-1)), R, rfl, rfl, ?_⟩
                    refine im_g 1 (y := (148, _, _, _)) rfl trivial ?_
                    refine im_r rfl rfl trivial rfl ?_
                    rw [hres]
                    rw [show i + 1 + 1 = i + 2 by omega]
                    exact ⟨rfl, (by omega), rfl⟩
                  · have hres : res = .inl (i + 1) := by rw [if_neg hw] at hdn; cases hdn; rfl
                    refine im_g 3 (y := (138, _, _, _)) rfl trivial ?_
                    refine im_cM rfl rfl (r_numN (v := v) (R := R) (A := A) (N := N) (i := i + 1) (l := l + 1) (lo := 0) (hi2 := 9) (by omega) hT hA hN hk (by omega) (by decide) (by decide) hw) rfl hT (fun v1 w1 hq => ?_)
                    obtain ⟨rfl, rfl⟩ := hq
                    refine ⟨(PW v (i + 1) (l + 1) (tk_Q A N (i + 1))), R, rfl, rfl, ?_⟩
                    refine im_g 1 (y := (148, _, _, _)) rfl trivial ?_
                    refine im_r rfl rfl trivial rfl ?_
                    rw [hres]
                    exact ⟨rfl, (by omega), _, _, rfl⟩
      · refine im_g 6 (y := (92, _, _, _)) rfl ⟨(by omega), trivial⟩ ?_
        refine im_b rfl rfl ⟨(by omega), (by omega), trivial⟩ (fun br9 => ?_) (fun br9 => ?_)
        · rw [if_pos (show (tk_C A N i = 50 ∧ tk_X A N i ≤ 1000) ∨ (14 ≤ tk_C A N i ∧ tk_C A N i ≤ 20) by omega)] at hdn
          have hlt := rq_lt (A := A) hN (i := i) (by omega)
          by_cases hl50 : l = 50
          · rw [if_pos hl50] at hdn
            have hres : res = .inl i := by cases hdn; rfl
            refine im_g 1 (y := (112, _, _, _)) rfl trivial ?_
            refine im_cM rfl rfl (r_leafN (v := v) (R := R) (A := A) (N := N) (i := i) (l := l) (by omega) hT hA hN hk hi hl50) rfl hT (fun v1 w1 hq => ?_)
            obtain ⟨rfl, rfl⟩ := hq
            refine ⟨(PW v i 51 (tk_Q A N i)), R, rfl, rfl, ?_⟩
            refine im_g 2 (y := (119, _, _, _)) rfl trivial ?_
            refine im_bF rfl rfl ⟨(by first | decide | (show im_ir (v 10); rw [hv10]; decide)), trivial⟩ (show ¬ v 10 = 0 by rw [hv10]; decide) ?_
            refine im_g 2 (y := (125, _, _, _)) rfl trivial ?_
            refine im_b rfl rfl ⟨(by omega), (by omega), trivial⟩ (fun br10 => ?_) (fun br10 => ?_)
            · refine im_g 3 (y := (138, _, _, _)) rfl trivial ?_
              refine im_cM rfl rfl (r_numD (v := v) (R := R) (t := i) (l := 51) (b := tk_Q A N i) (by omega) hT (rq_Q hN i) (lo := 0) (hi2 := 9)) rfl hT (fun v1 w1 hq => ?_)
              obtain ⟨rfl, rfl⟩ := hq
              refine ⟨(PW v i 51 (tk_Q A N i)), R, rfl, rfl, ?_⟩
              refine im_g 1 (y := (148, _, _, _)) rfl trivial ?_
              refine im_r rfl rfl trivial rfl ?_
              rw [hres]
              exact ⟨rfl, hi, i, 51, rfl⟩
            · refine im_g 2 (y := (131, _, _, _)) rfl trivial ?_
              refine im_b rfl rfl ⟨(by omega), (by omega), trivial⟩ (fun br11 => ?_) (fun br11 => ?_)
              · refine im_r rfl rfl trivial rfl ?_
                rw [hres]
                exact ⟨rfl, hi, i, 51, rfl⟩
              · refine im_g 3 (y := (138, _, _, _)) rfl trivial ?_
                refine im_cM rfl rfl (r_numD (v := v) (R := R) (t := i) (l := 51) (b := tk_Q A N i) (by omega) hT (rq_Q hN i) (lo := 0) (hi2 := 9)) rfl hT (fun v1 w1 hq => ?_)
                obtain ⟨rfl, rfl⟩ := hq
                refine ⟨(PW v i 51 (tk_Q A N i)), R, rfl, rfl, ?_⟩
                refine im_g 1 (y := (148, _, _, _)) rfl trivial ?_
                refine im_r rfl rfl trivial rfl ?_
                rw [hres]
                exact ⟨rfl, hi, i, 51, rfl⟩
          · rw [if_neg hl50] at hdn
            refine im_g 1 (y := (112, _, _, _)) rfl trivial ?_
            refine im_cM rfl rfl (r_leafY (v := v) (R := R) (A := A) (N := N) (i := i) (l := l) (by omega) hT hA hN hk hi (by omega)) rfl hT (fun v1 w1 hq => ?_)
            obtain ⟨rfl, rfl⟩ := hq
            refine ⟨(PW v (i + 1) (l + 1) (-1)), R, rfl, rfl, ?_⟩
            refine im_g 2 (y := (119, _, _, _)) rfl trivial ?_
            refine im_bF rfl rfl ⟨(by first | decide | (show im_ir (v 10); rw [hv10]; decide)), trivial⟩ (show ¬ v 10 = 0 by rw [hv10]; decide) ?_
            refine im_g 2 (y := (125, _, _, _)) rfl trivial ?_
            refine im_b rfl rfl ⟨(by omega), (by omega), trivial⟩ (fun br12 => ?_) (fun br12 => ?_)
            · rw [if_pos ⟨rfl, by omega⟩] at hdn
              by_cases hw : tk_C A N (i + 1) = 50 ∧ 0 ≤ tk_X A N (i + 1) ∧ tk_X A N (i + 1) ≤ 9
              · have hres : ∃ m, res = .inr (i + 2, l + 1, m) := by rw [if_pos hw] at hdn; cases hdn; exact ⟨_, rfl⟩
                obtain ⟨m9, hres⟩ := hres
                refine im_g 3 (y := (138, _, _, _)) rfl trivial ?_
                refine im_cM rfl rfl (r_numY (v := v) (R := R) (A := A) (N := N) (i := i + 1) (l := l + 1) (lo := 0) (hi2 := 9) (by omega) hT hA hN hk (by omega) (by decide) (by decide) hw) rfl hT (fun v1 w1 hq => ?_)
                obtain ⟨rfl, rfl⟩ := hq
                refine ⟨(PW v (i + 1 + 1) (l + 1) (-1)), R, rfl, rfl, ?_⟩
                refine im_g 1 (y := (148, _, _, _)) rfl trivial ?_
                refine im_r rfl rfl trivial rfl ?_
                rw [hres]
                rw [show i + 1 + 1 = i + 2 by omega]
                exact ⟨rfl, (by omega), rfl⟩
              · have hres : res = .inl (i + 1) := by rw [if_neg hw] at hdn; cases hdn; rfl
                refine im_g 3 (y := (138, _, _, _)) rfl trivial ?_
                refine im_cM rfl rfl (r_numN (v := v) (R := R) (A := A) (N := N) (i := i + 1) (l := l + 1) (lo := 0) (hi2 := 9) (by omega) hT hA hN hk (by omega) (by decide) (by decide) hw) rfl hT (fun v1 w1 hq => ?_)
                obtain ⟨rfl, rfl⟩ := hq
                refine ⟨(PW v (i + 1) (l + 1) (tk_Q A N (i + 1))), R, rfl, rfl, ?_⟩
                refine im_g 1 (y := (148, _, _, _)) rfl trivial ?_
                refine im_r rfl rfl trivial rfl ?_
                rw [hres]
                exact ⟨rfl, (by omega), _, _, rfl⟩
            · refine im_g 2 (y := (131, _, _, _)) rfl trivial ?_
              refine im_b rfl rfl ⟨(by omega), (by omega), trivial⟩ (fun br13 => ?_) (fun br13 => ?_)
              · refine im_r rfl rfl trivial rfl ?_
                rw [if_neg (by omega)] at hdn
                have hres : ∃ m, res = .inr (i + 1, l + 1, m) := by cases hdn; exact ⟨_, rfl⟩
                obtain ⟨m9, hres⟩ := hres
                rw [hres]
                exact ⟨rfl, (by omega), rfl⟩
              · rw [if_pos ⟨rfl, by omega⟩] at hdn
                by_cases hw : tk_C A N (i + 1) = 50 ∧ 0 ≤ tk_X A N (i + 1) ∧ tk_X A N (i + 1) ≤ 9
                · have hres : ∃ m, res = .inr (i + 2, l + 1, m) := by rw [if_pos hw] at hdn; cases hdn; exact ⟨_, rfl⟩
                  obtain ⟨m9, hres⟩ := hres
                  refine im_g 3 (y := (138, _, _, _)) rfl trivial ?_
                  refine im_cM rfl rfl (r_numY (v := v) (R := R) (A := A) (N := N) (i := i + 1) (l := l + 1) (lo := 0) (hi2 := 9) (by omega) hT hA hN hk (by omega) (by decide) (by decide) hw) rfl hT (fun v1 w1 hq => ?_)
                  obtain ⟨rfl, rfl⟩ := hq
                  refine ⟨(PW v (i + 1 + 1) (l + 1) (-1)), R, rfl, rfl, ?_⟩
                  refine im_g 1 (y := (148, _, _, _)) rfl trivial ?_
                  refine im_r rfl rfl trivial rfl ?_
                  rw [hres]
                  rw [show i + 1 + 1 = i + 2 by omega]
                  exact ⟨rfl, (by omega), rfl⟩
                · have hres : res = .inl (i + 1) := by rw [if_neg hw] at hdn; cases hdn; rfl
                  refine im_g 3 (y := (138, _, _, _)) rfl trivial ?_
                  refine im_cM rfl rfl (r_numN (v := v) (R := R) (A := A) (N := N) (i := i + 1) (l := l + 1) (lo := 0) (hi2 := 9) (by omega) hT hA hN hk (by omega) (by decide) (by decide) hw) rfl hT (fun v1 w1 hq => ?_)
                  obtain ⟨rfl, rfl⟩ := hq
                  refine ⟨(PW v (i + 1) (l + 1) (tk_Q A N (i + 1))), R, rfl, rfl, ?_⟩
                  refine im_g 1 (y := (148, _, _, _)) rfl trivial ?_
                  refine im_r rfl rfl trivial rfl ?_
                  rw [hres]
                  exact ⟨rfl, (by omega), _, _, rfl⟩
        · refine im_g 3 (y := (100, _, _, _)) rfl trivial ?_
          refine im_b rfl rfl ⟨(by omega), (by omega), trivial⟩ (fun br14 => ?_) (fun br14 => ?_)
          · refine im_g 1 (y := (145, _, _, _)) rfl trivial ?_
            refine im_cM rfl rfl (r_faultsA (v := v) (R := R) (A := A) (N := N) (i := i) (l := l) (by omega) hT hA hN hk hi) rfl hT (fun v1 w1 hq => ?_)
            obtain ⟨rfl, rfl⟩ := hq
            refine ⟨(PW v i l (tk_Q A N i)), R, rfl, rfl, ?_⟩
            refine im_r rfl rfl trivial rfl ?_
            rw [if_neg (by omega)] at hdn
            have hres : res = .inl i := by cases hdn; rfl
            rw [hres]
            exact ⟨rfl, hi, i, l, rfl⟩
          · refine im_g 3 (y := (108, _, _, _)) rfl trivial ?_
            refine im_b rfl rfl ⟨(by omega), (by omega), trivial⟩ (fun br15 => ?_) (fun br15 => ?_)
            · refine im_g 1 (y := (145, _, _, _)) rfl trivial ?_
              refine im_cM rfl rfl (r_faultsA (v := v) (R := R) (A := A) (N := N) (i := i) (l := l) (by omega) hT hA hN hk hi) rfl hT (fun v1 w1 hq => ?_)
              obtain ⟨rfl, rfl⟩ := hq
              refine ⟨(PW v i l (tk_Q A N i)), R, rfl, rfl, ?_⟩
              refine im_r rfl rfl trivial rfl ?_
              rw [if_neg (by omega)] at hdn
              have hres : res = .inl i := by cases hdn; rfl
              rw [hres]
              exact ⟨rfl, hi, i, l, rfl⟩
            · rw [if_pos (show (tk_C A N i = 50 ∧ tk_X A N i ≤ 1000) ∨ (14 ≤ tk_C A N i ∧ tk_C A N i ≤ 20) by omega)] at hdn
              have hlt := rq_lt (A := A) hN (i := i) (by omega)
              by_cases hl50 : l = 50
              · rw [if_pos hl50] at hdn
                have hres : res = .inl i := by cases hdn; rfl
                refine im_g 1 (y := (112, _, _, _)) rfl trivial ?_
                refine im_cM rfl rfl (r_leafN (v := v) (R := R) (A := A) (N := N) (i := i) (l := l) (by omega) hT hA hN hk hi hl50) rfl hT (fun v1 w1 hq => ?_)
                obtain ⟨rfl, rfl⟩ := hq
                refine ⟨(PW v i 51 (tk_Q A N i)), R, rfl, rfl, ?_⟩
                refine im_g 2 (y := (119, _, _, _)) rfl trivial ?_
                refine im_bF rfl rfl ⟨(by first | decide | (show im_ir (v 10); rw [hv10]; decide)), trivial⟩ (show ¬ v 10 = 0 by rw [hv10]; decide) ?_
                refine im_g 2 (y := (125, _, _, _)) rfl trivial ?_
                refine im_b rfl rfl ⟨(by omega), (by omega), trivial⟩ (fun br16 => ?_) (fun br16 => ?_)
                · refine im_g 3 (y := (138, _, _, _)) rfl trivial ?_
                  refine im_cM rfl rfl (r_numD (v := v) (R := R) (t := i) (l := 51) (b := tk_Q A N i) (by omega) hT (rq_Q hN i) (lo := 0) (hi2 := 9)) rfl hT (fun v1 w1 hq => ?_)
                  obtain ⟨rfl, rfl⟩ := hq
                  refine ⟨(PW v i 51 (tk_Q A N i)), R, rfl, rfl, ?_⟩
                  refine im_g 1 (y := (148, _, _, _)) rfl trivial ?_
                  refine im_r rfl rfl trivial rfl ?_
                  rw [hres]
                  exact ⟨rfl, hi, i, 51, rfl⟩
                · refine im_g 2 (y := (131, _, _, _)) rfl trivial ?_
                  refine im_b rfl rfl ⟨(by omega), (by omega), trivial⟩ (fun br17 => ?_) (fun br17 => ?_)
                  · refine im_r rfl rfl trivial rfl ?_
                    rw [hres]
                    exact ⟨rfl, hi, i, 51, rfl⟩
                  · refine im_g 3 (y := (138, _, _, _)) rfl trivial ?_
                    refine im_cM rfl rfl (r_numD (v := v) (R := R) (t := i) (l := 51) (b := tk_Q A N i) (by omega) hT (rq_Q hN i) (lo := 0) (hi2 := 9)) rfl hT (fun v1 w1 hq => ?_)
                    obtain ⟨rfl, rfl⟩ := hq
                    refine ⟨(PW v i 51 (tk_Q A N i)), R, rfl, rfl, ?_⟩
                    refine im_g 1 (y := (148, _, _, _)) rfl trivial ?_
                    refine im_r rfl rfl trivial rfl ?_
                    rw [hres]
                    exact ⟨rfl, hi, i, 51, rfl⟩
              · rw [if_neg hl50] at hdn
                refine im_g 1 (y := (112, _, _, _)) rfl trivial ?_
                refine im_cM rfl rfl (r_leafY (v := v) (R := R) (A := A) (N := N) (i := i) (l := l) (by omega) hT hA hN hk hi (by omega)) rfl hT (fun v1 w1 hq => ?_)
                obtain ⟨rfl, rfl⟩ := hq
                refine ⟨(PW v (i + 1) (l + 1) (-1)), R, rfl, rfl, ?_⟩
                refine im_g 2 (y := (119, _, _, _)) rfl trivial ?_
                refine im_bF rfl rfl ⟨(by first | decide | (show im_ir (v 10); rw [hv10]; decide)), trivial⟩ (show ¬ v 10 = 0 by rw [hv10]; decide) ?_
                refine im_g 2 (y := (125, _, _, _)) rfl trivial ?_
                refine im_b rfl rfl ⟨(by omega), (by omega), trivial⟩ (fun br18 => ?_) (fun br18 => ?_)
                · rw [if_pos ⟨rfl, by omega⟩] at hdn
                  by_cases hw : tk_C A N (i + 1) = 50 ∧ 0 ≤ tk_X A N (i + 1) ∧ tk_X A N (i + 1) ≤ 9
                  · have hres : ∃ m, res = .inr (i + 2, l + 1, m) := by rw [if_pos hw] at hdn; cases hdn; exact ⟨_, rfl⟩
                    obtain ⟨m9, hres⟩ := hres
                    refine im_g 3 (y := (138, _, _, _)) rfl trivial ?_
                    refine im_cM rfl rfl (r_numY (v := v) (R := R) (A := A) (N := N) (i := i + 1) (l := l + 1) (lo := 0) (hi2 := 9) (by omega) hT hA hN hk (by omega) (by decide) (by decide) hw) rfl hT (fun v1 w1 hq => ?_)
                    obtain ⟨rfl, rfl⟩ := hq
                    refine ⟨(PW v (i + 1 + 1) (l + 1) (-1)), R, rfl, rfl, ?_⟩
                    refine im_g 1 (y := (148, _, _, _)) rfl trivial ?_
                    refine im_r rfl rfl trivial rfl ?_
                    rw [hres]
                    rw [show i + 1 + 1 = i + 2 by omega]
                    exact ⟨rfl, (by omega), rfl⟩
                  · have hres : res = .inl (i + 1) := by rw [if_neg hw] at hdn; cases hdn; rfl
                    refine im_g 3 (y := (138, _, _, _)) rfl trivial ?_
                    refine im_cM rfl rfl (r_numN (v := v) (R := R) (A := A) (N := N) (i := i + 1) (l := l + 1) (lo := 0) (hi2 := 9) (by omega) hT hA hN hk (by omega) (by decide) (by decide) hw) rfl hT (fun v1 w1 hq => ?_)
                    obtain ⟨rfl, rfl⟩ := hq
                    refine ⟨(PW v (i + 1) (l + 1) (tk_Q A N (i + 1))), R, rfl, rfl, ?_⟩
                    refine im_g 1 (y := (148, _, _, _)) rfl trivial ?_
                    refine im_r rfl rfl trivial rfl ?_
                    rw [hres]
                    exact ⟨rfl, (by omega), _, _, rfl⟩
                · refine im_g 2 (y := (131, _, _, _)) rfl trivial ?_
                  refine im_b rfl rfl ⟨(by omega), (by omega), trivial⟩ (fun br19 => ?_) (fun br19 => ?_)
                  · refine im_r rfl rfl trivial rfl ?_
                    rw [if_neg (by omega)] at hdn
                    have hres : ∃ m, res = .inr (i + 1, l + 1, m) := by cases hdn; exact ⟨_, rfl⟩
                    obtain ⟨m9, hres⟩ := hres
                    rw [hres]
                    exact ⟨rfl, (by omega), rfl⟩
                  · rw [if_pos ⟨rfl, by omega⟩] at hdn
                    by_cases hw : tk_C A N (i + 1) = 50 ∧ 0 ≤ tk_X A N (i + 1) ∧ tk_X A N (i + 1) ≤ 9
                    · have hres : ∃ m, res = .inr (i + 2, l + 1, m) := by rw [if_pos hw] at hdn; cases hdn; exact ⟨_, rfl⟩
                      obtain ⟨m9, hres⟩ := hres
                      refine im_g 3 (y := (138, _, _, _)) rfl trivial ?_
                      refine im_cM rfl rfl (r_numY (v := v) (R := R) (A := A) (N := N) (i := i + 1) (l := l + 1) (lo := 0) (hi2 := 9) (by omega) hT hA hN hk (by omega) (by decide) (by decide) hw) rfl hT (fun v1 w1 hq => ?_)
                      obtain ⟨rfl, rfl⟩ := hq
                      refine ⟨(PW v (i + 1 + 1) (l + 1) (-1)), R, rfl, rfl, ?_⟩
                      refine im_g 1 (y := (148, _, _, _)) rfl trivial ?_
                      refine im_r rfl rfl trivial rfl ?_
                      rw [hres]
                      rw [show i + 1 + 1 = i + 2 by omega]
                      exact ⟨rfl, (by omega), rfl⟩
                    · have hres : res = .inl (i + 1) := by rw [if_neg hw] at hdn; cases hdn; rfl
                      refine im_g 3 (y := (138, _, _, _)) rfl trivial ?_
                      refine im_cM rfl rfl (r_numN (v := v) (R := R) (A := A) (N := N) (i := i + 1) (l := l + 1) (lo := 0) (hi2 := 9) (by omega) hT hA hN hk (by omega) (by decide) (by decide) hw) rfl hT (fun v1 w1 hq => ?_)
                      obtain ⟨rfl, rfl⟩ := hq
                      refine ⟨(PW v (i + 1) (l + 1) (tk_Q A N (i + 1))), R, rfl, rfl, ?_⟩
                      refine im_g 1 (y := (148, _, _, _)) rfl trivial ?_
                      refine im_r rfl rfl trivial rfl ?_
                      rw [hres]
                      exact ⟨rfl, (by omega), _, _, rfl⟩
    · have c24 : tk_C A N i = 191 := by omega
      rw [dn_0, if_pos c24] at hdn
      have hlt := rq_lt (A := A) hN (i := i) (by omega)
      by_cases ho8 : o = 8
      · rw [if_pos ho8] at hdn
        have hres : res = .inl i := by cases hdn; rfl
        refine im_g 2 (y := (30, _, _, _)) rfl trivial ?_
        refine im_bF rfl rfl ⟨(by omega), (by omega), trivial⟩ (fun z => z ho8) ?_
        refine im_g 1 (y := (34, _, _, _)) rfl trivial ?_
        refine im_cM rfl rfl (r_faultsA (v := v) (R := R) (A := A) (N := N) (i := i) (l := l) (by omega) hT hA hN hk hi) rfl hT (fun v1 w1 hq => ?_)
        obtain ⟨rfl, rfl⟩ := hq
        refine ⟨(PW v i l (tk_Q A N i)), R, rfl, rfl, ?_⟩
        refine im_g 1 (y := (38, _, _, _)) rfl trivial ?_
        refine im_cM rfl rfl (r_fD (v := v) (R := R) (t := i) (l := l) (b := (tk_Q A N i)) (by omega) hT (rq_Q hN i)) rfl hT (fun v1 w1 hq => ?_)
        obtain ⟨rfl, rfl⟩ := hq
        refine ⟨(PW v i l (tk_Q A N i)), R, rfl, rfl, ?_⟩
        refine im_bF rfl rfl ⟨(by decide), trivial⟩ (fun z => z rfl) ?_
        refine im_r rfl rfl trivial rfl ?_
        rw [hres]
        exact ⟨rfl, hi, i, l, rfl⟩
      · rw [if_neg ho8] at hdn
        refine im_g 2 (y := (30, _, _, _)) rfl trivial ?_
        refine im_bT rfl rfl ⟨(by omega), (by omega), trivial⟩ ho8 ?_
        refine im_g 1 (y := (38, _, _, _)) rfl trivial ?_
        refine im_cM rfl rfl (r_fA (v := v) (R := R) (i := i) (l := l) (by omega) hT) rfl hT (fun v1 w1 hq => ?_)
        obtain ⟨rfl, rfl⟩ := hq
        refine ⟨(PW v i l (-1)), R, rfl, rfl, ?_⟩
        refine im_bT rfl rfl ⟨(by decide), trivial⟩ (by decide) ?_
        rcases d_bind_s hdn with ⟨f, q1, hres⟩ | ⟨j1, l1, m1, q1, q3⟩
        · refine im_g 10 (y := (59, _, _, _)) rfl trivial ?_
          refine im_cM rfl rfl (h3 d true v R A N (o + 1) (i + 1) (l) (.inl f) hP (by omega) (by omega) (by omega) hl q1) rfl hT (fun v1 w1 hq => ?_)
          obtain ⟨rfl, hf1, t1, lz1, rfl⟩ := hq
          refine ⟨(PW v t1 lz1 (tk_Q A N f)), R, rfl, rfl, ?_⟩
          refine im_g 2 (y := (65, _, _, _)) rfl trivial ?_
          refine im_call [] rfl rfl (m_sign (a := 93) (by omega) hT) rfl rfl rfl (by decide) rfl (by decide) hT (fun v1 w1 hq => ?_)
          obtain ⟨rfl, rfl⟩ := hq
          refine ⟨_, _, MW (PW v t1 lz1 (tk_Q A N f)) R, rfl, rfl, rfl, ?_⟩
          refine im_cM rfl rfl (r_mustD (v := v) (R := R) (t := t1) (l := lz1) (b := (tk_Q A N f)) (by omega) hT (rq_Q hN f) (c := 100 + 93)) rfl hT (fun v1 w1 hq => ?_)
          obtain ⟨rfl, rfl⟩ := hq
          refine ⟨(PW v t1 lz1 (tk_Q A N f)), R, rfl, rfl, ?_⟩
          refine im_g 1 (y := (148, _, _, _)) rfl trivial ?_
          refine im_r rfl rfl trivial rfl ?_
          rw [hres]
          exact ⟨rfl, hf1, t1, lz1, rfl⟩
        · have hj1 := rq_nt hN (by decide) (show 0 ≤ i + 1 ∧ i + 1 ≤ tk_nt A N by omega) q1
          refine im_g 10 (y := (59, _, _, _)) rfl trivial ?_
          refine im_cM rfl rfl (h3 d true v R A N (o + 1) (i + 1) (l) (.inr (j1, l1, m1)) hP (by omega) (by omega) (by omega) hl q1) rfl hT (fun v1 w1 hq => ?_)
          obtain ⟨rfl, hlb1, rfl⟩ := hq
          refine ⟨(PW v j1 l1 (-1)), R, rfl, rfl, ?_⟩
          refine im_g 2 (y := (65, _, _, _)) rfl trivial ?_
          refine im_call [] rfl rfl (m_sign (a := 93) (by omega) hT) rfl rfl rfl (by decide) rfl (by decide) hT (fun v1 w1 hq => ?_)
          obtain ⟨rfl, rfl⟩ := hq
          refine ⟨_, _, MW (PW v j1 l1 (-1)) R, rfl, rfl, rfl, ?_⟩
          by_cases hcl : tk_C A N j1 = 100 + 93
          · rw [if_pos (show tk_C A N j1 = 193 from hcl)] at q3
            have hres : res = .inr (j1 + 1, l1, m1) := by cases q3; rfl
            refine im_cM rfl rfl (r_mustY (v := v) (R := R) (A := A) (N := N) (i := j1) (l := l1) (c := 100 + 93) (by omega) hT hA hN hk hj1 (by decide) hcl) rfl hT (fun v1 w1 hq => ?_)
            obtain ⟨rfl, rfl⟩ := hq
            refine ⟨(PW v (j1 + 1) l1 (-1)), R, rfl, rfl, ?_⟩
            refine im_g 1 (y := (148, _, _, _)) rfl trivial ?_
            refine im_r rfl rfl trivial rfl ?_
            rw [hres]
            exact ⟨rfl, hlb1, rfl⟩
          · rw [if_neg (show ¬ tk_C A N j1 = 193 from hcl)] at q3
            have hres : res = .inl j1 := by cases q3; rfl
            refine im_cM rfl rfl (r_mustN (v := v) (R := R) (A := A) (N := N) (i := j1) (l := l1) (c := 100 + 93) (by omega) hT hA hN hk hj1 (by decide) hcl) rfl hT (fun v1 w1 hq => ?_)
            obtain ⟨rfl, rfl⟩ := hq
            refine ⟨(PW v j1 l1 (tk_Q A N j1)), R, rfl, rfl, ?_⟩
            refine im_g 1 (y := (148, _, _, _)) rfl trivial ?_
            refine im_r rfl rfl trivial rfl ?_
            rw [hres]
            exact ⟨rfl, hj1, j1, l1, rfl⟩
set_option maxHeartbeats 8000000 in
theorem r_6 (hT : T.length < 1000) {n : Nat} (h3 : RqM ro T n 3 163 6) (h9 : RqM ro T n 9 160 9) : Rq6 ro T (n + 1) := by
  intro d od v R A N o i l res x3 hP ho hd hi hl hdn
  obtain ⟨hA, hN, hk, hv8, hv9, hv10⟩ := id hP
  have htn := (tk_nt_b (A := A) hN).1
  have hcb : 0 ≤ tk_C A N i ∧ tk_C A N i ≤ 355 := tk_code_b hA _ _
  have hkk := hk i hi.1 hi.2
  have hcc : R 9 (PW v i l (-1) 19) = tk_C A N i := hkk.1
  have e19 : PW v i l (-1) 19 = i := rfl
  refine im_g 1 (y := (17, _, _, _)) rfl trivial ?_
  refine im_cM rfl rfl (r_fA (v := v) (R := R) (i := i) (l := l) (by omega) hT) rfl hT (fun v1 w1 hq => ?_)
  obtain ⟨rfl, rfl⟩ := hq
  refine ⟨(PW v i l (-1)), R, rfl, rfl, ?_⟩
  refine im_bT rfl rfl ⟨(by decide), trivial⟩ (by decide) ?_
  refine im_g 8 (y := (37, _, _, _)) rfl ⟨(by omega), trivial⟩ ?_
  refine im_call [] rfl rfl (m_sign (a := 40) (by omega) hT) rfl rfl rfl (by decide) rfl (by decide) hT (fun v1 w1 hq => ?_)
  obtain ⟨rfl, rfl⟩ := hq
  refine ⟨_, _, MW (PW v i l (-1)) R, rfl, rfl, rfl, ?_⟩
  refine im_b rfl rfl ⟨(by omega), (by omega), trivial⟩ (fun br1 => ?_) (fun br1 => ?_)
  · have c40 : ¬ tk_C A N i = 140 := by omega
    rw [dn_6, if_neg c40] at hdn
    rcases d_bind_s hdn with ⟨f, q1, hres⟩ | ⟨j1, l1, m1, q1, q3⟩
    · refine im_g 2 (y := (92, _, _, _)) rfl trivial ?_
      refine im_cM rfl rfl (h3 d od v R A N (o) (i) (l) (.inl f) hP (by omega) (by omega) hi hl q1) rfl hT (fun v1 w1 hq => ?_)
      obtain ⟨rfl, hf1, t1, lz1, rfl⟩ := hq
      refine ⟨(PW v t1 lz1 (tk_Q A N f)), R, rfl, rfl, ?_⟩
      refine im_g 2 (y := (98, _, _, _)) rfl trivial ?_
      refine im_call [] rfl rfl (m_sign (a := 60) (by omega) hT) rfl rfl rfl (by decide) rfl (by decide) hT (fun v1 w1 hq => ?_)
      obtain ⟨rfl, rfl⟩ := hq
      refine ⟨_, _, MW (PW v t1 lz1 (tk_Q A N f)) R, rfl, rfl, rfl, ?_⟩
      refine im_cM rfl rfl (r_takeD (v := v) (R := R) (t := t1) (l := lz1) (b := (tk_Q A N f)) (by omega) hT (rq_Q hN f)) rfl hT (fun v1 w1 hq => ?_)
      obtain ⟨rfl, rfl⟩ := hq
      refine ⟨(PW v t1 lz1 (tk_Q A N f)), R, rfl, rfl, ?_⟩
      refine im_bF rfl rfl ⟨(by decide), trivial⟩ (fun z => z rfl) ?_
      refine im_g 2 (y := (110, _, _, _)) rfl trivial ?_
      refine im_call [] rfl rfl (m_sign (a := 62) (by omega) hT) rfl rfl rfl (by decide) rfl (by decide) hT (fun v1 w1 hq => ?_)
      obtain ⟨rfl, rfl⟩ := hq
      refine ⟨_, _, MW (PW v t1 lz1 (tk_Q A N f)) R, rfl, rfl, rfl, ?_⟩
      refine im_cM rfl rfl (r_takeD (v := v) (R := R) (t := t1) (l := lz1) (b := (tk_Q A N f)) (by omega) hT (rq_Q hN f)) rfl hT (fun v1 w1 hq => ?_)
      obtain ⟨rfl, rfl⟩ := hq
      refine ⟨(PW v t1 lz1 (tk_Q A N f)), R, rfl, rfl, ?_⟩
      refine im_bF rfl rfl ⟨(by decide), trivial⟩ (fun z => z rfl) ?_
      refine im_g 2 (y := (122, _, _, _)) rfl trivial ?_
      refine im_call [] rfl rfl (m_sign (a := 61) (by omega) hT) rfl rfl rfl (by decide) rfl (by decide) hT (fun v1 w1 hq => ?_)
      obtain ⟨rfl, rfl⟩ := hq
      refine ⟨_, _, MW (PW v t1 lz1 (tk_Q A N f)) R, rfl, rfl, rfl, ?_⟩
      refine im_cM rfl rfl (r_mustD (v := v) (R := R) (t := t1) (l := lz1) (b := (tk_Q A N f)) (by omega) hT (rq_Q hN f) (c := 100 + 61)) rfl hT (fun v1 w1 hq => ?_)
      obtain ⟨rfl, rfl⟩ := hq
      refine ⟨(PW v t1 lz1 (tk_Q A N f)), R, rfl, rfl, ?_⟩
      refine im_g 2 (y := (130, _, _, _)) rfl trivial ?_
      refine im_cM rfl rfl (r_sumD (v := v) (R := R) (t := t1) (l := lz1) (b := (tk_Q A N f)) (by omega) hT (rq_Q hN f) (o := o)) rfl hT (fun v1 w1 hq => ?_)
      obtain ⟨rfl, rfl⟩ := hq
      refine ⟨(PW v t1 lz1 (tk_Q A N f)), R, rfl, rfl, ?_⟩
      refine im_r rfl rfl trivial rfl ?_
      rw [hres]
      exact ⟨rfl, hf1, t1, lz1, rfl⟩
    · have hj1 := rq_nt hN (by decide) hi q1
      have hcj : 0 ≤ tk_C A N j1 ∧ tk_C A N j1 ≤ 355 := tk_code_b hA _ _
      refine im_g 2 (y := (92, _, _, _)) rfl trivial ?_
      refine im_cM rfl rfl (h3 d od v R A N (o) (i) (l) (.inr (j1, l1, m1)) hP (by omega) (by omega) hi hl q1) rfl hT (fun v1 w1 hq => ?_)
      obtain ⟨rfl, hlb1, rfl⟩ := hq
      refine ⟨(PW v j1 l1 (-1)), R, rfl, rfl, ?_⟩
      refine im_g 2 (y := (98, _, _, _)) rfl trivial ?_
      refine im_call [] rfl rfl (m_sign (a := 60) (by omega) hT) rfl rfl rfl (by decide) rfl (by decide) hT (fun v1 w1 hq => ?_)
      obtain ⟨rfl, rfl⟩ := hq
      refine ⟨_, _, MW (PW v j1 l1 (-1)) R, rfl, rfl, rfl, ?_⟩
      refine im_cM rfl rfl (r_takeA (v := v) (R := R) (A := A) (N := N) (i := j1) (l := l1) (c := 100 + 60) (by omega) hT hA hN hk hj1 (by decide)) rfl hT (fun v1 w1 hq => ?_)
      obtain ⟨rfl, rfl⟩ := hq
      refine ⟨(PW v (if tk_C A N j1 = 100 + 60 then j1 + 1 else j1) l1 (-1)), R, rfl, rfl, ?_⟩
      refine im_b rfl rfl ⟨(by split <;> decide), trivial⟩ (fun br2 => ?_) (fun br2 => ?_)
      · have c104 : tk_C A N j1 = 100 + 60 := by
          by_cases hh : tk_C A N j1 = 100 + 60
          · exact hh
          · rw [if_neg hh] at br2; exact absurd rfl br2
        clear br2
        rw [if_pos c104]
        rw [if_pos (by omega)] at q3
        have hlt2 := rq_lt (A := A) hN (i := j1) (by omega)
        rcases d_bind_s q3 with ⟨f, q4, hres⟩ | ⟨j2, l2, m2, q4, q5⟩
        · refine im_g 2 (y := (130, _, _, _)) rfl trivial ?_
          refine im_cM rfl rfl (h3 d od v R A N (o) (j1 + 1) (l1) (.inl f) hP (by omega) (by omega) (by omega) hlb1 q4) rfl hT (fun v1 w1 hq => ?_)
          obtain ⟨rfl, hf2, t2, lz2, rfl⟩ := hq
          refine ⟨(PW v t2 lz2 (tk_Q A N f)), R, rfl, rfl, ?_⟩
          refine im_r rfl rfl trivial rfl ?_
          rw [hres]
          exact ⟨rfl, hf2, t2, lz2, rfl⟩
        · have hres : ∃ m, res = .inr (j2, l2, m) := by cases q5; exact ⟨_, rfl⟩
          obtain ⟨m9, hres⟩ := hres
          refine im_g 2 (y := (130, _, _, _)) rfl trivial ?_
          refine im_cM rfl rfl (h3 d od v R A N (o) (j1 + 1) (l1) (.inr (j2, l2, m2)) hP (by omega) (by omega) (by omega) hlb1 q4) rfl hT (fun v1 w1 hq => ?_)
          obtain ⟨rfl, hlb2, rfl⟩ := hq
          refine ⟨(PW v j2 l2 (-1)), R, rfl, rfl, ?_⟩
          refine im_r rfl rfl trivial rfl ?_
          rw [hres]
          exact ⟨rfl, hlb2, rfl⟩
      · have c104 : ¬ (tk_C A N j1 = 100 + 60) := by
          intro hh
          rw [if_pos hh] at br2
          exact br2 (by decide)
        clear br2
        rw [if_neg c104]
        refine im_g 2 (y := (110, _, _, _)) rfl trivial ?_
        refine im_call [] rfl rfl (m_sign (a := 62) (by omega) hT) rfl rfl rfl (by decide) rfl (by decide) hT (fun v1 w1 hq => ?_)
        obtain ⟨rfl, rfl⟩ := hq
        refine ⟨_, _, MW (PW v j1 l1 (-1)) R, rfl, rfl, rfl, ?_⟩
        refine im_cM rfl rfl (r_takeA (v := v) (R := R) (A := A) (N := N) (i := j1) (l := l1) (c := 100 + 62) (by omega) hT hA hN hk hj1 (by decide)) rfl hT (fun v1 w1 hq => ?_)
        obtain ⟨rfl, rfl⟩ := hq
        refine ⟨(PW v (if tk_C A N j1 = 100 + 62 then j1 + 1 else j1) l1 (-1)), R, rfl, rfl, ?_⟩
        refine im_b rfl rfl ⟨(by split <;> decide), trivial⟩ (fun br3 => ?_) (fun br3 => ?_)
        · have c116 : tk_C A N j1 = 100 + 62 := by
            by_cases hh : tk_C A N j1 = 100 + 62
            · exact hh
            · rw [if_neg hh] at br3; exact absurd rfl br3
          clear br3
          rw [if_pos c116]
          rw [if_pos (by omega)] at q3
          have hlt2 := rq_lt (A := A) hN (i := j1) (by omega)
          rcases d_bind_s q3 with ⟨f, q4, hres⟩ | ⟨j2, l2, m2, q4, q5⟩
          · refine im_g 2 (y := (130, _, _, _)) rfl trivial ?_
            refine im_cM rfl rfl (h3 d od v R A N (o) (j1 + 1) (l1) (.inl f) hP (by omega) (by omega) (by omega) hlb1 q4) rfl hT (fun v1 w1 hq => ?_)
            obtain ⟨rfl, hf2, t2, lz2, rfl⟩ := hq
            refine ⟨(PW v t2 lz2 (tk_Q A N f)), R, rfl, rfl, ?_⟩
            refine im_r rfl rfl trivial rfl ?_
            rw [hres]
            exact ⟨rfl, hf2, t2, lz2, rfl⟩
          · have hres : ∃ m, res = .inr (j2, l2, m) := by cases q5; exact ⟨_, rfl⟩
            obtain ⟨m9, hres⟩ := hres
            refine im_g 2 (y := (130, _, _, _)) rfl trivial ?_
            refine im_cM rfl rfl (h3 d od v R A N (o) (j1 + 1) (l1) (.inr (j2, l2, m2)) hP (by omega) (by omega) (by omega) hlb1 q4) rfl hT (fun v1 w1 hq => ?_)
            obtain ⟨rfl, hlb2, rfl⟩ := hq
            refine ⟨(PW v j2 l2 (-1)), R, rfl, rfl, ?_⟩
            refine im_r rfl rfl trivial rfl ?_
            rw [hres]
            exact ⟨rfl, hlb2, rfl⟩
        · have c116 : ¬ (tk_C A N j1 = 100 + 62) := by
            intro hh
            rw [if_pos hh] at br3
            exact br3 (by decide)
          clear br3
          rw [if_neg c116]
          refine im_g 2 (y := (122, _, _, _)) rfl trivial ?_
          refine im_call [] rfl rfl (m_sign (a := 61) (by omega) hT) rfl rfl rfl (by decide) rfl (by decide) hT (fun v1 w1 hq => ?_)
          obtain ⟨rfl, rfl⟩ := hq
          refine ⟨_, _, MW (PW v j1 l1 (-1)) R, rfl, rfl, rfl, ?_⟩
          by_cases hcl : tk_C A N j1 = 100 + 61
          · refine im_cM rfl rfl (r_mustY (v := v) (R := R) (A := A) (N := N) (i := j1) (l := l1) (c := 100 + 61) (by omega) hT hA hN hk hj1 (by decide) hcl) rfl hT (fun v1 w1 hq => ?_)
            obtain ⟨rfl, rfl⟩ := hq
            refine ⟨(PW v (j1 + 1) l1 (-1)), R, rfl, rfl, ?_⟩
            rw [if_pos (by omega)] at q3
            have hlt2 := rq_lt (A := A) hN (i := j1) (by omega)
            rcases d_bind_s q3 with ⟨f, q4, hres⟩ | ⟨j2, l2, m2, q4, q5⟩
            · refine im_g 2 (y := (130, _, _, _)) rfl trivial ?_
              refine im_cM rfl rfl (h3 d od v R A N (o) (j1 + 1) (l1) (.inl f) hP (by omega) (by omega) (by omega) hlb1 q4) rfl hT (fun v1 w1 hq => ?_)
              obtain ⟨rfl, hf2, t2, lz2, rfl⟩ := hq
              refine ⟨(PW v t2 lz2 (tk_Q A N f)), R, rfl, rfl, ?_⟩
              refine im_r rfl rfl trivial rfl ?_
              rw [hres]
              exact ⟨rfl, hf2, t2, lz2, rfl⟩
            · have hres : ∃ m, res = .inr (j2, l2, m) := by cases q5; exact ⟨_, rfl⟩
              obtain ⟨m9, hres⟩ := hres
              refine im_g 2 (y := (130, _, _, _)) rfl trivial ?_
              refine im_cM rfl rfl (h3 d od v R A N (o) (j1 + 1) (l1) (.inr (j2, l2, m2)) hP (by omega) (by omega) (by omega) hlb1 q4) rfl hT (fun v1 w1 hq => ?_)
              obtain ⟨rfl, hlb2, rfl⟩ := hq
              refine ⟨(PW v j2 l2 (-1)), R, rfl, rfl, ?_⟩
              refine im_r rfl rfl trivial rfl ?_
              rw [hres]
              exact ⟨rfl, hlb2, rfl⟩
          · rw [if_neg (by omega)] at q3
            have hres : res = .inl j1 := by cases q3; rfl
            refine im_cM rfl rfl (r_mustN (v := v) (R := R) (A := A) (N := N) (i := j1) (l := l1) (c := 100 + 61) (by omega) hT hA hN hk hj1 (by decide) hcl) rfl hT (fun v1 w1 hq => ?_)
            obtain ⟨rfl, rfl⟩ := hq
            refine ⟨(PW v j1 l1 (tk_Q A N j1)), R, rfl, rfl, ?_⟩
            refine im_g 2 (y := (130, _, _, _)) rfl trivial ?_
            refine im_cM rfl rfl (r_sumD (v := v) (R := R) (t := j1) (l := l1) (b := tk_Q A N j1) (by omega) hT (rq_Q hN j1) (o := o)) rfl hT (fun v1 w1 hq => ?_)
            obtain ⟨rfl, rfl⟩ := hq
            refine ⟨(PW v j1 l1 (tk_Q A N j1)), R, rfl, rfl, ?_⟩
            refine im_r rfl rfl trivial rfl ?_
            rw [hres]
            exact ⟨rfl, hj1, j1, l1, rfl⟩
  · have c40 : tk_C A N i = 140 := by omega
    rw [dn_6, if_pos c40] at hdn
    have hlt := rq_lt (A := A) hN (i := i) (by omega)
    by_cases ho8 : o = 8
    · rw [if_pos ho8] at hdn
      have hres : res = .inl i := by cases hdn; rfl
      refine im_g 2 (y := (46, _, _, _)) rfl trivial ?_
      refine im_bF rfl rfl ⟨(by omega), (by omega), trivial⟩ (fun z => z ho8) ?_
      refine im_g 1 (y := (50, _, _, _)) rfl trivial ?_
      refine im_cM rfl rfl (r_faultsA (v := v) (R := R) (A := A) (N := N) (i := i) (l := l) (by omega) hT hA hN hk hi) rfl hT (fun v1 w1 hq => ?_)
      obtain ⟨rfl, rfl⟩ := hq
      refine ⟨(PW v i l (tk_Q A N i)), R, rfl, rfl, ?_⟩
      refine im_g 1 (y := (54, _, _, _)) rfl trivial ?_
      refine im_cM rfl rfl (r_fD (v := v) (R := R) (t := i) (l := l) (b := (tk_Q A N i)) (by omega) hT (rq_Q hN i)) rfl hT (fun v1 w1 hq => ?_)
      obtain ⟨rfl, rfl⟩ := hq
      refine ⟨(PW v i l (tk_Q A N i)), R, rfl, rfl, ?_⟩
      refine im_bF rfl rfl ⟨(by decide), trivial⟩ (fun z => z rfl) ?_
      refine im_r rfl rfl trivial rfl ?_
      rw [hres]
      exact ⟨rfl, hi, i, l, rfl⟩
    · rw [if_neg ho8] at hdn
      refine im_g 2 (y := (46, _, _, _)) rfl trivial ?_
      refine im_bT rfl rfl ⟨(by omega), (by omega), trivial⟩ ho8 ?_
      refine im_g 1 (y := (54, _, _, _)) rfl trivial ?_
      refine im_cM rfl rfl (r_fA (v := v) (R := R) (i := i) (l := l) (by omega) hT) rfl hT (fun v1 w1 hq => ?_)
      obtain ⟨rfl, rfl⟩ := hq
      refine ⟨(PW v i l (-1)), R, rfl, rfl, ?_⟩
      refine im_bT rfl rfl ⟨(by decide), trivial⟩ (by decide) ?_
      rcases d_bind_s hdn with ⟨f, q1, hres⟩ | ⟨j1, l1, m1, q1, q3⟩
      · refine im_g 10 (y := (75, _, _, _)) rfl trivial ?_
        refine im_cM rfl rfl (h9 d od v R A N (o + 1) (i + 1) (l) (.inl f) hP (by omega) (by omega) (by omega) hl q1) rfl hT (fun v1 w1 hq => ?_)
        obtain ⟨rfl, hf1, t1, lz1, rfl⟩ := hq
        refine ⟨(PW v t1 lz1 (tk_Q A N f)), R, rfl, rfl, ?_⟩
        refine im_g 2 (y := (81, _, _, _)) rfl trivial ?_
        refine im_call [] rfl rfl (m_sign (a := 41) (by omega) hT) rfl rfl rfl (by decide) rfl (by decide) hT (fun v1 w1 hq => ?_)
        obtain ⟨rfl, rfl⟩ := hq
        refine ⟨_, _, MW (PW v t1 lz1 (tk_Q A N f)) R, rfl, rfl, rfl, ?_⟩
        refine im_cM rfl rfl (r_mustD (v := v) (R := R) (t := t1) (l := lz1) (b := (tk_Q A N f)) (by omega) hT (rq_Q hN f) (c := 100 + 41)) rfl hT (fun v1 w1 hq => ?_)
        obtain ⟨rfl, rfl⟩ := hq
        refine ⟨(PW v t1 lz1 (tk_Q A N f)), R, rfl, rfl, ?_⟩
        refine im_g 1 (y := (133, _, _, _)) rfl trivial ?_
        refine im_r rfl rfl trivial rfl ?_
        rw [hres]
        exact ⟨rfl, hf1, t1, lz1, rfl⟩
      · have hj1 := rq_nt hN (by decide) (show 0 ≤ i + 1 ∧ i + 1 ≤ tk_nt A N by omega) q1
        refine im_g 10 (y := (75, _, _, _)) rfl trivial ?_
        refine im_cM rfl rfl (h9 d od v R A N (o + 1) (i + 1) (l) (.inr (j1, l1, m1)) hP (by omega) (by omega) (by omega) hl q1) rfl hT (fun v1 w1 hq => ?_)
        obtain ⟨rfl, hlb1, rfl⟩ := hq
        refine ⟨(PW v j1 l1 (-1)), R, rfl, rfl, ?_⟩
        refine im_g 2 (y := (81, _, _, _)) rfl trivial ?_
        refine im_call [] rfl rfl (m_sign (a := 41) (by omega) hT) rfl rfl rfl (by decide) rfl (by decide) hT (fun v1 w1 hq => ?_)
        obtain ⟨rfl, rfl⟩ := hq
        refine ⟨_, _, MW (PW v j1 l1 (-1)) R, rfl, rfl, rfl, ?_⟩
        by_cases hcl : tk_C A N j1 = 100 + 41
        · rw [if_pos (show tk_C A N j1 = 141 from hcl)] at q3
          have hres : res = .inr (j1 + 1, l1, m1) := by cases q3; rfl
          refine im_cM rfl rfl (r_mustY (v := v) (R := R) (A := A) (N := N) (i := j1) (l := l1) (c := 100 + 41) (by omega) hT hA hN hk hj1 (by decide) hcl) rfl hT (fun v1 w1 hq => ?_)
          obtain ⟨rfl, rfl⟩ := hq
          refine ⟨(PW v (j1 + 1) l1 (-1)), R, rfl, rfl, ?_⟩
          refine im_g 1 (y := (133, _, _, _)) rfl trivial ?_
          refine im_r rfl rfl trivial rfl ?_
          rw [hres]
          exact ⟨rfl, hlb1, rfl⟩
        · rw [if_neg (show ¬ tk_C A N j1 = 141 from hcl)] at q3
          have hres : res = .inl j1 := by cases q3; rfl
          refine im_cM rfl rfl (r_mustN (v := v) (R := R) (A := A) (N := N) (i := j1) (l := l1) (c := 100 + 41) (by omega) hT hA hN hk hj1 (by decide) hcl) rfl hT (fun v1 w1 hq => ?_)
          obtain ⟨rfl, rfl⟩ := hq
          refine ⟨(PW v j1 l1 (tk_Q A N j1)), R, rfl, rfl, ?_⟩
          refine im_g 1 (y := (133, _, _, _)) rfl trivial ?_
          refine im_r rfl rfl trivial rfl ?_
          rw [hres]
          exact ⟨rfl, hj1, j1, l1, rfl⟩
set_option maxHeartbeats 8000000 in
theorem r_5 (hT : T.length < 1000) {n : Nat} (h6 : Rq6 ro T n) : RqM ro T (n + 1) 5 162 7 := by
  intro d od v R A N o i l res hP ho hd hi hl hdn
  obtain ⟨hA, hN, hk, hv8, hv9, hv10⟩ := id hP
  have htn := (tk_nt_b (A := A) hN).1
  have hcb : 0 ≤ tk_C A N i ∧ tk_C A N i ≤ 355 := tk_code_b hA _ _
  have hkk := hk i hi.1 hi.2
  obtain ⟨d, rfl⟩ : ∃ e, d = e + 1 := ⟨d - 1, by omega⟩
  rw [dn_5] at hdn
  generalize hns : d_nots (tk_C A N) 401 i false = ns at hdn
  obtain ⟨i1, nb⟩ := ns
  dsimp only at hdn
  have hrr : ∃ r6, dn od (tk_C A N) (tk_X A N) n 6 o i1 l d_0 = some r6 ∧ ∀ w, RPp A N v R r6 w → RPp A N v R res w := by
    rcases d_bind_s hdn with ⟨f, q1, rfl⟩ | ⟨j1, l1, m1, q1, q3⟩
    · exact ⟨_, q1, fun w hw => hw⟩
    · exact ⟨_, q1, fun w hw => by cases q3; exact hw⟩
  obtain ⟨r6, hr6, hconv⟩ := hrr
  have key : ∀ (k : Nat) (i2 : Int) (nb2 : Bool), (0 ≤ i2 ∧ i2 ≤ tk_nt A N) → i2 + k > 400 → d_nots (tk_C A N) k i2 nb2 = (i1, nb) → im_wp ro (ab_Ev ro ab_codes d) 9 none ab_k_X9_readPlain 24 T (fun r w => r = none ∧ RPp A N v R res w) (2, [some (mr 0), some (.inl o), some (.inl 1), none], [], MW (PW v i2 l (-1)) R) := by
    intro k
    induction k with
    | zero => intro i2 nb2 g1 g2; omega
    | succ k ih =>
      intro i2 nb2 hi2 hk2 he
      unfold d_nots at he
      refine im_g 1 (y := (3, _, _, _)) rfl trivial ?_
      refine im_bF rfl rfl ⟨(by decide), trivial⟩ (by decide) ?_
      refine im_g 2 (y := (9, _, _, _)) rfl trivial ?_
      refine im_cM rfl rfl (r_takeA (v := v) (R := R) (A := A) (N := N) (i := i2) (l := l) (c := 8) (by omega) hT hA hN hk hi2 (by decide)) rfl hT (fun v1 w1 hq => ?_)
      obtain ⟨rfl, rfl⟩ := hq
      refine ⟨(PW v (if tk_C A N i2 = 8 then i2 + 1 else i2) l (-1)), R, rfl, rfl, ?_⟩
      refine im_g 2 (y := (2, _, _, _)) rfl trivial ?_
      by_cases h8 : tk_C A N i2 = 8
      · rw [if_pos h8] at he
        rw [if_pos h8, if_pos h8]
        have hlt := rq_lt (A := A) hN (i := i2) (by omega)
        exact ih (i2 + 1) (!nb2) (by omega) (by omega) he
      · rw [if_neg h8] at he
        rw [if_neg h8, if_neg h8]
        obtain ⟨rfl, rfl⟩ : i2 = i1 ∧ nb2 = nb := by cases he; exact ⟨rfl, rfl⟩
        refine im_g 1 (y := (3, _, _, _)) rfl trivial ?_
        refine im_bT rfl rfl ⟨(by decide), trivial⟩ rfl ?_
        refine im_q (Q' := fun r w => r = none ∧ RPp A N v R r6 w) (fun r w hq => ⟨hq.1, hconv w hq.2⟩) ?_
        exact h6 d od v R A N o i2 l r6 none hP ho (by omega) hi2 hl hr6
  refine im_ct_of (own := 9) (ret := none) (code := ab_k_X9_readPlain) (nL := 4) (L0 := [some (mr 0), some (.inl o), none, none]) (n := 24) rfl rfl rfl rfl rfl rfl rfl rfl rfl ?_
  refine im_g 2 (y := (2, _, _, _)) rfl trivial ?_
  exact key 401 i false hi (by omega) hns
theorem r_all (hT : T.length < 1000) : ∀ n : Nat, (RqM ro T n 0 165 4) ∧ (RqM ro T n 1 164 5) ∧ (RqM ro T n 3 163 6) ∧ (RqM ro T n 5 162 7) ∧ (RqM ro T n 7 161 8) ∧ (RqM ro T n 9 160 9) ∧ (Rq6 ro T n) ∧ (RqR ro T n 2 ab_k_X9_readTerm 4) ∧ (RqR ro T n 4 ab_k_X9_readSum 5) ∧ (RqR ro T n 8 ab_k_X9_readBoth 7) ∧ (RqR ro T n 10 ab_k_X9_readTest 8)
  | 0 => ⟨(fun _ _ _ _ _ _ _ _ _ _ _ _ _ _ _ h => nomatch h), (fun _ _ _ _ _ _ _ _ _ _ _ _ _ _ _ h => nomatch h), (fun _ _ _ _ _ _ _ _ _ _ _ _ _ _ _ h => nomatch h), (fun _ _ _ _ _ _ _ _ _ _ _ _ _ _ _ h => nomatch h), (fun _ _ _ _ _ _ _ _ _ _ _ _ _ _ _ h => nomatch h), (fun _ _ _ _ _ _ _ _ _ _ _ _ _ _ _ h => nomatch h), (fun _ _ _ _ _ _ _ _ _ _ _ _ _ _ _ _ h => nomatch h), (fun _ _ _ _ _ _ _ _ _ _ _ _ _ _ _ _ h => nomatch h), (fun _ _ _ _ _ _ _ _ _ _ _ _ _ _ _ _ h => nomatch h), (fun _ _ _ _ _ _ _ _ _ _ _ _ _ _ _ _ h => nomatch h), (fun _ _ _ _ _ _ _ _ _ _ _ _ _ _ _ _ h => nomatch h)⟩
  | n + 1 => by
    obtain ⟨h0, h1, h3, h5, h7, h9, h6, r2, r4, r8, r10⟩ := r_all hT n
    exact ⟨r_0 hT h3, r_1 hT h0 r2, r_3 hT h1 r4, r_5 hT h6, r_7 hT h5 r8, r_9 hT h7 r10, r_6 hT h3 h9, r_R2 hT h0 r2, r_R4 hT h1 r4, r_R8 hT h5 r8, r_R10 hT h7 r10⟩
end Rr
