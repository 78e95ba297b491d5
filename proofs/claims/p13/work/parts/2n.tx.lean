/-! a text that is being written: cleared, a clause opened, a field put -/
def tx_open (kl : Nat) (z : Int) (k : Int → Int) : Int → Int := if 5 * z + 5 ≤ kl then im_up (im_up (im_up (im_up (im_up k (z * 5 + 0) (-1)) (z * 5 + 1) 1) (z * 5 + 2) (-1)) (z * 5 + 3) (-1)) (z * 5 + 4) (-1) else k
def tx_more (kl : Nat) (z : Int) : Int := if 5 * z + 5 ≤ kl then z + 1 else z
def tx_put (kl : Nat) (z f x : Int) (k : Int → Int) : Int → Int := if 0 ≤ (z - 1) * 5 + f ∧ (z - 1) * 5 + f < kl then im_up k ((z - 1) * 5 + f) x else k
section Tx
variable {ro : ab_R} {T : List im_T} {d : Nat} {cl kl : Nat} {c k : Int → Int} {u : Int × Int × Int}
set_option maxHeartbeats 8000000 in
theorem c_txclear (hd : 1 ≤ d) (hT : T.length < 1000)  : im_ct ro T d 74 [mr 0] (XC 0 u cl c kl k) (fun r w => r = none ∧ w = XC 0 (0, 0, 0) cl c kl k) := by
  obtain ⟨d, rfl⟩ : ∃ e, d = e + 1 := ⟨d - 1, by omega⟩
  refine im_ct_of (own := 7) (ret := none) (code := ab_k_X7_clear) (nL := 1) (L0 := [some (mr 0)]) (n := 3) rfl rfl rfl rfl rfl rfl rfl rfl rfl ?_
  refine im_g 9 (y := (15, _, _, _)) rfl trivial ?_
  refine im_r rfl rfl trivial rfl ?_
  exact ⟨rfl, rfl⟩
set_option maxHeartbeats 8000000 in
theorem c_open (hd : 1 ≤ d) (hT : T.length < 1000) (hk : kl ≤ 100) (hz : 0 ≤ u.2.1 ∧ u.2.1 ≤ 20) : im_ct ro T d 75 [mr 0] (XC 0 u cl c kl k) (fun r w => r = none ∧ w = XC 0 (u.1, tx_more kl u.2.1, u.2.2) cl c kl (tx_open kl u.2.1 k)) := by
  obtain ⟨d, rfl⟩ : ∃ e, d = e + 1 := ⟨d - 1, by omega⟩
  refine im_ct_of (own := 7) (ret := none) (code := ab_k_X7_openClause) (nL := 2) (L0 := [some (mr 0), none]) (n := 3) rfl rfl rfl rfl rfl rfl rfl rfl rfl ?_
  refine im_g 6 (y := (8, _, _, _)) rfl trivial ?_
  refine im_b rfl rfl ⟨(by omega), trivial⟩ (fun j1 => ?_) (fun j1 => ?_)
  · refine im_r rfl rfl trivial rfl ?_
    rw [show tx_open kl u.2.1 k = k from if_neg (by omega), show tx_more kl u.2.1 = u.2.1 from if_neg (by omega)]
    exact ⟨rfl, rfl⟩
  · refine im_g 6 (y := (19, _, _, _)) rfl trivial ?_
    refine im_b rfl rfl ⟨(by omega), (by omega), trivial⟩ (fun j2 => ?_) (fun j2 => ?_)
    · refine im_r rfl rfl trivial rfl ?_
      rw [show tx_open kl u.2.1 k = k from if_neg (by omega), show tx_more kl u.2.1 = u.2.1 from if_neg (by omega)]
      exact ⟨rfl, rfl⟩
    · refine im_g 41 (y := (77, _, _, _)) rfl ⟨(by omega), (by omega), (by omega), (by omega), (by omega), trivial⟩ ?_
      refine im_r rfl rfl trivial rfl ?_
      unfold tx_open tx_more
      rw [if_pos (by omega), if_pos (by omega)]
      exact ⟨rfl, rfl⟩
set_option maxHeartbeats 8000000 in
theorem c_put (hd : 1 ≤ d) (hT : T.length < 1000) (hk : kl ≤ 100) (hz : 0 ≤ u.2.1 ∧ u.2.1 ≤ 20) {f x : Int} (hf : 0 ≤ f ∧ f ≤ 4) : im_ct ro T d 76 [mr 0, .inl f, .inl x] (XC 0 u cl c kl k) (fun r w => r = none ∧ w = XC 0 u cl c kl (tx_put kl u.2.1 f x k)) := by
  obtain ⟨d, rfl⟩ : ∃ e, d = e + 1 := ⟨d - 1, by omega⟩
  refine im_ct_of (own := 7) (ret := none) (code := ab_k_X7_put) (nL := 4) (L0 := [some (mr 0), some (.inl f), some (.inl x), none]) (n := 3) rfl rfl rfl rfl rfl rfl rfl rfl rfl ?_
  refine im_g 10 (y := (12, _, _, _)) rfl trivial ?_
  refine im_b rfl rfl ⟨(by omega), trivial⟩ (fun j1 => ?_) (fun j1 => ?_)
  · refine im_r rfl rfl trivial rfl ?_
    unfold tx_put
    rw [if_neg (by omega)]
    exact ⟨rfl, rfl⟩
  · refine im_g 4 (y := (21, _, _, _)) rfl trivial ?_
    refine im_b rfl rfl ⟨(by omega), (by omega), trivial⟩ (fun j2 => ?_) (fun j2 => ?_)
    · refine im_r rfl rfl trivial rfl ?_
      unfold tx_put
      rw [if_neg (by omega)]
      exact ⟨rfl, rfl⟩
    · refine im_g 5 (y := (31, _, _, _)) rfl ⟨(by omega), trivial⟩ ?_
      refine im_r rfl rfl trivial rfl ?_
      unfold tx_put
      rw [if_pos (by omega)]
      exact ⟨rfl, rfl⟩
end Tx
