/-! the reference: the way to the sea -/
section Wy
variable {ro : ab_R} {T : List im_T} {d : Nat} {v : Nat → Int} {R : Nat → Int → Int} {lv : Nat → Int} {L : Nat → Int → Int} {lw : Option im_T}
set_option maxHeartbeats 8000000 in
theorem m_wayOf (hd : 82 ≤ d) (hT : T.length < 1000) (ht : TLS v R lv L lw) (h30 : v 30 = 0) {p : Int} (hp : 0 ≤ p ∧ p < lv 0) : im_ct ro T d 137 [mr 0, .inl p] (MW v R) (fun r w => r = some (.inl (st_sum lw lv L 10 p)) ∧ QS v R w) := by
  obtain ⟨d, rfl⟩ : ∃ e, d = e + 1 := ⟨d - 1, by omega⟩
  have hpar := lk_par ht.2.1
  have hstp : ∀ (g ge b o : Int) (a : Int → Int) (x : Int), (0 ≤ x ∧ x < 10) → im_ct ro T d 187 [mr 0, .inl x] (MW (EV4 v g ge b o) (pl_U R 12 a)) (fun r w => r = some (.inl (as_steps lw x 0 L)) ∧ QS (EV4 v g ge b o) (pl_U R 12 a) w) := by
    intro g ge b o a x hx
    have t := m_steps (ro := ro) (T := T) (d := d) (v := (EV4 v g ge b o)) (R := (pl_U R 12 a)) (lv := lv) (L := L) (lw := lw) (by omega) hT (TLS_q ht g ge b o a) hx
    rw [show (EV4 v g ge b o) 30 = 0 from h30] at t
    exact t
  refine im_ct_of (own := 9) (ret := (some .int)) (code := ab_k_X9_wayOf) (nL := 4) (L0 := [some (mr 0), some (.inl p), none, none]) (n := 24) rfl rfl rfl rfl rfl rfl rfl rfl rfl ?_
  refine im_g 4 (y := (4, _, _, _)) rfl trivial ?_
  have key : ∀ (k : Nat) (x sum : Int) (g ge b o : Int) (a : Int → Int), -1 ≤ x → x < lv 0 → x < (k : Int) → (0 ≤ sum ∧ sum + 9 * (k : Int) ≤ 1000) → im_wp ro (ab_Ev ro ab_codes d) 9 (some .int) ab_k_X9_wayOf 24 T (fun r w => r = some (.inl (sum + st_sum lw lv L k x)) ∧ QS v R w) (4, [some (mr 0), some (.inl p), some (.inl sum), some (.inl x)], [], MW (EV4 v g ge b o) (pl_U R 12 a)) := by
    intro k
    induction k with
    | zero =>
      intro x sum g ge b o a h1 h2 h3 h4
      refine im_g 2 (y := (6, _, _, _)) rfl trivial ?_
      refine im_bT rfl rfl ⟨(by omega), (by omega), trivial⟩ (by omega) ?_
      refine im_g 1 (y := (31, _, _, _)) rfl trivial ?_
      refine im_r rfl rfl trivial rfl ?_
      refine ⟨congrArg (fun z => some (Sum.inl z)) (show sum = sum + 0 by omega), g, ge, b, o, a, rfl⟩
    | succ k ih =>
      intro x sum g ge b o a h1 h2 h3 h4
      refine im_g 2 (y := (6, _, _, _)) rfl trivial ?_
      refine im_b rfl rfl ⟨(by omega), (by omega), trivial⟩ (fun br1 => ?_) (fun br1 => ?_)
      · refine im_g 1 (y := (31, _, _, _)) rfl trivial ?_
        refine im_r rfl rfl trivial rfl ?_
        have est : st_sum lw lv L (k + 1) x = 0 := if_neg (by omega)
        rw [est]
        refine ⟨congrArg (fun z => some (Sum.inl z)) (show sum = sum + 0 by omega), g, ge, b, o, a, rfl⟩
      · refine im_g 3 (y := (12, _, _, _)) rfl trivial ?_
        refine im_cM rfl rfl (show im_ct ro T d 187 [mr 0, .inl x] (MW (EV4 v g ge b o) (pl_U R 12 a)) (fun r w => r = some (.inl (as_steps lw x 0 L)) ∧ QS (EV4 v g ge b o) (pl_U R 12 a) w) from hstp g ge b o a x (show 0 ≤ x ∧ x < 10 by omega)) rfl hT (fun v1 w1 hq => ?_)
        obtain ⟨rfl, g1, ge1, b1, o1, a1, rfl⟩ := hq
        refine ⟨(EV4 v g1 ge1 b1 o1), (pl_U R 12 a1), rfl, rfl, ?_⟩
        have hst := as_steps_b lw x 0 L
        refine im_g 10 (y := (4, _, _, _)) rfl ⟨(by omega), trivial⟩ ?_
        have hlow := lk_low ht.2.1 (p := x) (by omega) h2
        have hbel := lk_bel ht.2.1 x
        have ebx : R 2 (71 + x) = L 0 x := (ht.1.2.2.1 x (by omega) (by omega)).1
        have est : st_sum lw lv L (k + 1) x = as_steps lw x 0 L + st_sum lw lv L k (L 0 x) := if_pos (by omega)
        have t := ih (L 0 x) (sum + as_steps lw x 0 L) g1 ge1 b1 o1 a1 (by omega) (by omega) (by omega) (by omega)
        rw [Int.add_assoc, ← est, ← ebx] at t
        exact t
  refine im_eqs (y := (4, [some (mr 0), some (.inl p), some (.inl 0), some (.inl p)], [], MW (EV4 v (v 22) (v 23) (v 24) (v 25)) (pl_U R 12 (R 12)))) rfl ?_
  have t := key 10 p 0 (v 22) (v 23) (v 24) (v 25) (R 12) (by omega) hp.2 (by omega) (by omega)
  rw [Int.zero_add] at t
  exact t
end Wy
