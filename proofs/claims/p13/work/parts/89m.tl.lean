/-! a text as the class wrote it means its clauses, whatever it is kept in -/
theorem mc_ev_no (c : Int → Int) (cl wl : Nat) (wd : Int → Int) : mc_ev c cl wl wd (-1) = d_enc (d_1 wd) := rfl
theorem LSc_mem {od : Bool} {c x : Int → Int} {N : Int} : ∀ (Cs : List dC) (i : Int), LSc od c x N i Cs → ∀ cl ∈ Cs, ∃ (n : Nat) (i l j l' : Int), d_cl od c x n i l = some (.inr (j, l', cl))
  | [], _, _, cl, h => nomatch h
  | q :: r, i, h, cl, hm => by
    obtain ⟨h1, n, l, l', j, h2, h3⟩ := h
    rcases List.mem_cons.mp hm with e | e
    · subst e
      exact ⟨n, i, l, j, l', h2⟩
    · exact LSc_mem r (j + 1) h3 cl e
theorem d_law_3 {c x : Int → Int} {n : Nat} {i l j l' : Int} {cl : dC} (h : d_law c x n i l = some (.inr (j, l', cl))) (h3 : cl.1 = 3) : cl.2.2.1 = d_1 := by
  unfold d_law at h
  split at h
  · rename_i hc
    obtain ⟨j1, l1, m1, h1, h2⟩ := d_bq_r h
    unfold d_if at h2
    split at h2
    · obtain ⟨j2, l2, m2, h4, h5⟩ := d_bq_r h2
      cases h5
      have : c i - 1 = 3 := h3
      omega
    · cases h2
      have : c i - 1 = 3 := h3
      omega
  · split at h
    · unfold d_if at h
      split at h
      · obtain ⟨j2, l2, m2, h4, h5⟩ := d_bq_r h
        cases h5
        rfl
      · cases h
        rfl
    · cases h
theorem TXS_ev {od : Bool} {cc : Int → Int} {ub ov s : Int} {m : dM} (h : TXS od cc ub ov s m) {c : Int → Int} {cl : Nat} (hub : ub ≤ (cl : Int)) (hc : ∀ i, 0 ≤ i → i < ub → c i = cc i) {wl : Nat} (hwl : (wl : Int) = d_wl od) (wd : Int → Int) : mc_ev c cl wl wd s = d_enc (m wd) := by
  rcases h with ⟨rfl, rfl⟩ | ⟨⟨h1, t, h2, h3, h4⟩, h5⟩
  · exact mc_ev_no c cl wl wd
  · have h6 := h3.1
    refine SG_ev (SG_loc h3 (c' := c) (fun i q1 q2 => hc i (by omega) (by omega))) h1 (by decide) hwl (Or.inr ⟨by omega, ?_⟩) wd
    rw [hc t (by omega) h2]
    exact h4
theorem TXL_TRL {od : Bool} {ct xt : Int → Int} {N i0 : Int} {Cs : List dC} (hS : LSc od ct xt N i0 Cs) {cc kk : Int → Int} {ub ov : Int} (hL : TXL od cc ub ov kk Cs) {q : im_T} (hn : q.1.2.1 = (Cs.length : Int)) (hub : ub ≤ (q.2.1.1 : Int)) (hkl : 5 * (Cs.length : Int) ≤ (q.2.2.1 : Int)) (hc : ∀ i, 0 ≤ i → i < ub → q.2.1.2 i = cc i) (hk : ∀ i, 0 ≤ i → i < 5 * (Cs.length : Int) → q.2.2.2 i = kk i) : TRL od q Cs := by
  refine ⟨hn, fun i cl hi => ?_⟩
  have hlt : i < Cs.length := (List.getElem?_eq_some_iff.mp hi).1
  obtain ⟨⟨a1, a2⟩, a3, a4, a5⟩ := hL i cl hi
  have part : ∀ f : Int, 0 ≤ f → f < 5 → tx_part q.2.2.1 q.2.2.2 i f = kk (5 * (i : Int) + f) := fun f f1 f2 => by
    unfold tx_part
    rw [if_pos (by omega), hk _ (by omega) (by omega), show (i : Int) * 5 + f = 5 * (i : Int) + f by omega]
  refine ⟨?_, ?_, fun wl hwl wd => ⟨?_, ?_, ?_⟩, fun ho h3 => ?_⟩
  · rw [part 0 (by decide) (by decide), Int.add_zero]; exact a1
  · rw [part 1 (by decide) (by decide)]; exact a2
  · rw [part 2 (by decide) (by decide)]; exact TXS_ev a3 hub hc hwl wd
  · rw [part 3 (by decide) (by decide)]; exact TXS_ev a4 hub hc hwl wd
  · rw [part 4 (by decide) (by decide)]; exact TXS_ev a5 hub hc hwl wd
  · subst ho
    obtain ⟨n, i1, l, j, l', hd⟩ := LSc_mem Cs i0 hS cl (List.mem_of_getElem? hi)
    exact d_law_3 hd h3
theorem TXS_dp {od : Bool} {cc : Int → Int} {ub ov s : Int} {m : dM} (h : TXS od cc ub ov s m) : DPm od m ov := by
  rcases h with ⟨-, rfl⟩ | ⟨-, h5⟩
  · exact DPm_num od 1 ov
  · exact h5
theorem TXL_TRO {ct xt : Int → Int} {N i0 : Int} (hN : ∀ k, N ≤ k → ct k = 0) {Cs : List dC} (hS : LSc true ct xt N i0 Cs) {cc kk : Int → Int} {ub ov : Int} (hL : TXL true cc ub ov kk Cs) {q : im_T} (hn : q.1.2.1 = (Cs.length : Int)) (ho : q.1.2.2 = ov) (hub : ub ≤ (q.2.1.1 : Int)) (hkl : 5 * (Cs.length : Int) ≤ (q.2.2.1 : Int)) (hc : ∀ i, 0 ≤ i → i < ub → q.2.1.2 i = cc i) (hk : ∀ i, 0 ≤ i → i < 5 * (Cs.length : Int) → q.2.2.2 i = kk i) : TRO q Cs := by
  refine ⟨TXL_TRL hS hL hn hub hkl hc hk, fun cl hm => ?_⟩
  obtain ⟨n, i1, l, j, l', hd⟩ := LSc_mem Cs i0 hS cl hm
  obtain ⟨-, -, g1, g2⟩ := d_order_ok hN hd
  obtain ⟨i, hi⟩ := List.getElem?_of_mem hm
  obtain ⟨-, a3, a4, a5⟩ := hL i cl hi
  rw [ho]
  exact ⟨g2, g1, TXS_dp a3, TXS_dp a4, TXS_dp a5⟩
