/-! the reader reads: what it leaves -/
/-- what holds of a text that is written -/
def TS (u : Int × Int × Int) (c : Int → Int) : Prop := (0 ≤ u.1 ∧ u.1 ≤ 436) ∧ (0 ≤ u.2.1 ∧ u.2.1 ≤ 12) ∧ (0 ≤ u.2.2 ∧ u.2.2 ≤ 1023) ∧ ∀ i, 0 ≤ c i ∧ c i ≤ 100000
/-- of a meaning no parish is asked but those whose bit is set -/
def DPm (od : Bool) (m : dM) (u : Int) : Prop := od = true → ∀ e e' : Int → Int, (∀ k, 0 ≤ k → k < 15 → e k = e' k) → (∀ p, 0 ≤ p → p < 10 → BT u p → e (15 + p) = e' (15 + p)) → m e = m e'
def OVs (u u' : Int) : Prop := ∀ x, 0 ≤ x → x < 10 → BT u x → BT u' x
theorem DPm_up {od : Bool} {m : dM} {u u' : Int} (h : DPm od m u) (hu : OVs u u') : DPm od m u' := fun ho e e' h1 h2 => h ho e e' h1 (fun p q1 q2 q3 => h2 p q1 q2 (hu p q1 q2 q3))
theorem DPm_num (od : Bool) (x u : Int) : DPm od (d_num x) u := fun _ _ _ _ _ => rfl
theorem DPm_op {od : Bool} {w u : Int} {a b : dM} (ha : DPm od a u) (hb : DPm od b u) : DPm od (d_op w a b) u := fun ho e e' h1 h2 => by unfold d_op; rw [ha ho e e' h1 h2, hb ho e e' h1 h2]
theorem DPm_not {od : Bool} {u : Int} {a : dM} (ha : DPm od a u) : DPm od (d_not a) u := fun ho e e' h1 h2 => by unfold d_not; rw [ha ho e e' h1 h2]
theorem DPm_or {od : Bool} {u : Int} {a b : dM} (ha : DPm od a u) (hb : DPm od b u) : DPm od (d_or a b) u := fun ho e e' h1 h2 => by unfold d_or; rw [ha ho e e' h1 h2, hb ho e e' h1 h2]
theorem DPm_and {od : Bool} {u : Int} {a b : dM} (ha : DPm od a u) (hb : DPm od b u) : DPm od (d_and a b) u := fun ho e e' h1 h2 => by unfold d_and; rw [ha ho e e' h1 h2, hb ho e e' h1 h2]
theorem OVs_r (u : Int) : OVs u u := fun _ _ _ h => h
theorem OVs_t {a b c : Int} (h1 : OVs a b) (h2 : OVs b c) : OVs a c := fun x q1 q2 q3 => h2 x q1 q2 (h1 x q1 q2 q3)
/-- what a reading leaves; N: how long the tape is; i0, u0, c0: where it began; res: what the tokens mean -/
def RdP (od : Bool) (A : Int → Int) (N i0 : Int) (u0 : Int × Int × Int) (c0 : Int → Int) (need : Int) (res : dR) (q : Nat → Int) (u : Int × Int × Int) (c : Int → Int) : Prop := (q 0 = N ∧ q 6 = e_bi od ∧ (0 ≤ q 4 ∧ q 4 ≤ 50)) ∧ TS u c ∧ u.2.1 = u0.2.1 ∧ (match res with
  | .inl f => RDd q (tk_Q A N f)
  | .inr (j, l', m) => (RSt A q j ∧ q 4 = l') ∧ (u0.1 ≤ u.1 ∧ u.1 + i0 ≤ u0.1 + j) ∧ (∀ x, 0 ≤ x → x < u0.1 → c x = c0 x) ∧ SG od c u0.1 u.1 need m ∧ DPm od m u.2.2 ∧ OVs u0.2.2 u.2.2)
/-- code emitted -/
def rd_emu (u : Int × Int × Int) : Int × Int × Int := (if u.1 < 436 then u.1 + 1 else u.1, u.2)
def rd_emc (u : Int × Int × Int) (c : Int → Int) (w x : Int) : Int → Int := if u.1 < 436 then im_up c u.1 (16 * x + w) else c
theorem TS_em {u : Int × Int × Int} {c : Int → Int} (h : TS u c) {w x : Int} (hx : 0 ≤ x ∧ x ≤ 5000) (hw : 0 ≤ w ∧ w ≤ 15) : TS (rd_emu u) (rd_emc u c w x) := by
  obtain ⟨h1, h2, h3, h4⟩ := h
  unfold rd_emu rd_emc
  refine ⟨?_, h2, h3, ?_⟩
  · dsimp only; split <;> omega
  · split
    · exact im_up_b h4 (by omega)
    · exact h4
/-- a skip is aimed -/
def rd_aim (u : Int × Int × Int) (c : Int → Int) (s : Int) : Int → Int := if 0 ≤ s ∧ s < 436 then im_up c s (16 * u.1 + c s % 16) else c
theorem TS_aim {u : Int × Int × Int} {c : Int → Int} (h : TS u c) (s : Int) : TS u (rd_aim u c s) := by
  obtain ⟨h1, h2, h3, h4⟩ := h
  refine ⟨h1, h2, h3, ?_⟩
  unfold rd_aim
  split
  · have := h4 s
    exact im_up_b h4 (by omega)
  · exact h4
theorem e_bi_b (od : Bool) : e_bi od = 0 ∨ e_bi od = 1 := by cases od; exact Or.inl rfl; exact Or.inr rfl
section Rp
variable {od : Bool} {A : Int → Int} {N i0 need : Int} {u0 u : Int × Int × Int} {c0 c : Int → Int} {q : Nat → Int}
theorem RdP_next {j l : Int} {m : dM} (h : RdP od A N i0 u0 c0 need (.inr (j, l, m)) q u c) : RdP od A N i0 u0 c0 need (.inr (j + 1, l, m)) (rd_next A q) u c := by
  obtain ⟨h1, h2, h3, ⟨h4, h5⟩, ⟨h6, h6'⟩, h7⟩ := h
  exact ⟨h1, h2, h3, ⟨RSt_next h4, h5⟩, ⟨h6, by omega⟩, h7⟩
theorem RdP_base {i1 : Int} {res : dR} (h : RdP od A N i0 u0 c0 need res q u c) (hi : i1 ≤ i0) : RdP od A N i1 u0 c0 need res q u c := by
  obtain ⟨h1, h2, h3, h4⟩ := h
  refine ⟨h1, h2, h3, ?_⟩
  match res, h4 with
  | .inl f, h4 => exact h4
  | .inr (j, l, m), ⟨h5, ⟨h6, h6'⟩, h7⟩ => exact ⟨h5, ⟨h6, by omega⟩, h7⟩
theorem RdP_more {need' : Int} {res : dR} (h : RdP od A N i0 u0 c0 need res q u c) (hn : need ≤ need') : RdP od A N i0 u0 c0 need' res q u c := by
  obtain ⟨h1, h2, h3, h4⟩ := h
  refine ⟨h1, h2, h3, ?_⟩
  match res, h4 with
  | .inl f, h4 => exact h4
  | .inr (j, l, m), ⟨h5, h6, h7, h8, h9⟩ => exact ⟨h5, h6, h7, SG_more h8 hn, h9⟩
theorem RdP_fail {j l : Int} {m : dM} (h : RdP od A N i0 u0 c0 need (.inr (j, l, m)) q u c) : RdP od A N i0 u0 c0 need (.inl j) (rd_fail q) u c := by
  obtain ⟨h1, h2, h3, ⟨h4, h5⟩, -⟩ := h
  have := RDd_fail h4
  rw [h1.1] at this
  exact ⟨h1, h2, h3, this⟩
theorem RdP_TS {f : Int} {u' : Int × Int × Int} {c' : Int → Int} (h : RdP od A N i0 u0 c0 need (.inl f) q u c) (h2 : TS u' c') (h3 : u'.2.1 = u.2.1) : RdP od A N i0 u0 c0 need (.inl f) q u' c' := ⟨h.1, h2, h3.trans h.2.2.1, h.2.2.2⟩
theorem RdP_f {f i1 need1 : Int} {u1 : Int × Int × Int} {c1 : Int → Int} (h : RdP od A N i0 u0 c0 need (.inl f) q u c) (h3 : u0.2.1 = u1.2.1) : RdP od A N i1 u1 c1 need1 (.inl f) q u c := ⟨h.1, h.2.1, h.2.2.1.trans h3, h.2.2.2⟩
theorem rd_emu_lt (h : u.1 < 436) : rd_emu u = (u.1 + 1, u.2) := by unfold rd_emu; rw [if_pos h]
theorem rd_emc_lt (h : u.1 < 436) (w x : Int) : rd_emc u c w x = im_up c u.1 (16 * x + w) := if_pos h
theorem RdP_op {i l a_ j l1 need1 w : Int} {a m : dM} {q2 : Nat → Int} {u2 : Int × Int × Int} {c2 : Int → Int} (h : RdP od A N i0 u0 c0 need (.inr (i, l, a)) q u c) (h2 : RdP od A N (i + 1) u c need1 (.inr (j, l1, m)) q2 u2 c2) (hr : u0.1 + (a_ - i0) ≤ 436) (hj : j ≤ a_) (hn : need1 + 1 ≤ need) (hw : 3 ≤ w ∧ w ≤ 10) (hu0 : 0 ≤ u0.1) : RdP od A N i0 u0 c0 need (.inr (j, l1, d_op w a m)) q2 (rd_emu u2) (rd_emc u2 c2 w 0) := by
  obtain ⟨a1, a2, a3, ⟨a4, a5⟩, ⟨a6, a6'⟩, a7, a8, a9, a10⟩ := h
  obtain ⟨b1, b2, b3, ⟨b4, b5⟩, ⟨b6, b6'⟩, b7, b8, b9, b10⟩ := h2
  have hlt : u2.1 < 436 := by omega
  have ht := TS_em b2 (w := w) (x := 0) (by decide) (by omega)
  have hc := im_up_self c2 u2.1 (16 * 0 + w)
  have hne : ∀ x, x < u2.1 → im_up c2 u2.1 (16 * 0 + w) x = c2 x := fun x hx => im_up_ne c2 _ (by omega)
  rw [rd_emu_lt hlt, rd_emc_lt hlt] at ht ⊢
  have s0 := a2.1.1
  have s1 := a8.1
  have s2 := b8.1
  have hsa := SG_loc (c' := im_up c2 u2.1 (16 * 0 + w)) a8 (fun x q1 q2 => (hne x (by omega)).trans (b7 x (by omega) q2))
  have hsb := SG_loc (c' := im_up c2 u2.1 (16 * 0 + w)) b8 (fun x q1 q2 => hne x q2)
  have hop := SG_op hsa hsb (w := w) (by rw [hc]; omega) hw
  refine ⟨b1, ht, b3.trans a3, ⟨b4, b5⟩, ⟨by dsimp only; omega, by dsimp only; omega⟩, fun x q1 q2 => (hne x (by omega)).trans ((b7 x q1 (by omega)).trans (a7 x q1 q2)), SG_more hop (by omega), DPm_op (DPm_up a9 b10) b9, OVs_t a10 b10⟩
theorem RdP_not {j l a_ : Int} {m : dM} (h : RdP od A N i0 u0 c0 need (.inr (j, l, m)) q u c) (hr : u0.1 + (a_ - i0) ≤ 436) (hj : j ≤ a_) (hs : u.1 + i0 + 1 ≤ u0.1 + j) : RdP od A N i0 u0 c0 need (.inr (j, l, d_not m)) q (rd_emu u) (rd_emc u c 11 0) := by
  obtain ⟨a1, a2, a3, ⟨a4, a5⟩, ⟨a6, a6'⟩, a7, a8, a9, a10⟩ := h
  have hlt : u.1 < 436 := by omega
  have ht := TS_em a2 (w := 11) (x := 0) (by decide) (by decide)
  have hc := im_up_self c u.1 (16 * 0 + 11)
  have hne : ∀ x, x < u.1 → im_up c u.1 (16 * 0 + 11) x = c x := fun x hx => im_up_ne c _ (by omega)
  rw [rd_emu_lt hlt, rd_emc_lt hlt] at ht ⊢
  have hsa := SG_loc (c' := im_up c u.1 (16 * 0 + 11)) a8 (fun x q1 q2 => hne x q2)
  have hop := SG_not hsa (by rw [hc]; decide)
  exact ⟨a1, ht, a3, ⟨a4, a5⟩, ⟨by dsimp only; omega, by dsimp only; omega⟩, fun x q1 q2 => (hne x (by omega)).trans (a7 x q1 q2), hop, DPm_not a9, a10⟩
theorem RdP_log {i l a_ j l1 w : Int} {a m r : dM} {q2 : Nat → Int} {u2 : Int × Int × Int} {c2 : Int → Int} (h : RdP od A N i0 u0 c0 need (.inr (i, l, a)) q u c) (h2 : RdP od A N (i + 1) (rd_emu u) (rd_emc u c w 0) need (.inr (j, l1, m)) q2 u2 c2) (hr : u0.1 + (a_ - i0) ≤ 436) (hj : j ≤ a_) (hij : i < j) (hw : (w = 12 ∧ r = d_or a m) ∨ (w = 13 ∧ r = d_and a m)) (hu0 : 0 ≤ u0.1) : RdP od A N i0 u0 c0 need (.inr (j, l1, r)) q2 u2 (rd_aim u2 c2 u.1) := by
  obtain ⟨a1, a2, a3, ⟨a4, a5⟩, ⟨a6, a6'⟩, a7, a8, a9, a10⟩ := h
  have hlt : u.1 < 436 := by omega
  rw [rd_emu_lt hlt, rd_emc_lt hlt] at h2
  obtain ⟨b1, b2, b3, ⟨b4, b5⟩, ⟨b6, b6'⟩, b7, b8, b9, b10⟩ := h2
  dsimp only at b3 b6 b6' b7 b8 b10
  have ht := TS_aim b2 u.1
  have s0 := a2.1.1
  have e0 : rd_aim u2 c2 u.1 = im_up c2 u.1 (16 * u2.1 + c2 u.1 % 16) := if_pos (by omega)
  have ec : c2 u.1 = 16 * 0 + w := by rw [b7 u.1 s0 (by omega)]; exact im_up_self _ _ _
  rw [e0] at ht ⊢
  rw [ec] at ht ⊢
  have hc := im_up_self c2 u.1 (16 * u2.1 + (16 * 0 + w) % 16)
  have hlo : ∀ x, 0 ≤ x → x < u.1 → im_up c2 u.1 (16 * u2.1 + (16 * 0 + w) % 16) x = c x := fun x q0 hx => by
    rw [im_up_ne c2 _ (by omega), b7 x q0 (by omega)]
    exact im_up_ne c _ (by omega)
  have s1 := a8.1
  have s2 := b8.1
  have hsa := SG_loc (c' := im_up c2 u.1 (16 * u2.1 + (16 * 0 + w) % 16)) a8 (fun x q1 q2 => hlo x (by omega) q2)
  have hsb := SG_loc (c' := im_up c2 u.1 (16 * u2.1 + (16 * 0 + w) % 16)) b8 (fun x q1 q2 => im_up_ne c2 _ (by omega))
  have hlog : SG od (im_up c2 u.1 (16 * u2.1 + (16 * 0 + w) % 16)) u0.1 u2.1 need r := by
    rcases hw with ⟨rfl, rfl⟩ | ⟨rfl, rfl⟩
    · exact SG_more (SG_or hsa hsb (by rw [hc]; omega) (by rw [hc]; omega)) (by omega)
    · exact SG_more (SG_and hsa hsb (by rw [hc]; omega) (by rw [hc]; omega)) (by omega)
  have hdp : DPm od r u2.2.2 := by
    rcases hw with ⟨-, rfl⟩ | ⟨-, rfl⟩
    · exact DPm_or (DPm_up a9 b10) b9
    · exact DPm_and (DPm_up a9 b10) b9
  exact ⟨b1, ht, b3.trans a3, ⟨b4, b5⟩, ⟨by omega, by omega⟩, fun x q1 q2 => (hlo x q1 (by omega)).trans (a7 x q1 q2), hlog, hdp, OVs_t a10 b10⟩
/-- a leaf -/
theorem RdP_leaf {i l x w : Int} {m : dM} {q2 : Nat → Int} {v2 : Int} {j : Int} (hq : q2 0 = N ∧ q2 6 = e_bi od) (hl : q2 4 = l + 1 ∧ 0 ≤ l ∧ l < 50) (hs : RSt A q2 j) (hij : i < j) (ht : TS (u.1, u.2.1, v2) c) (hu : u.1 < 436) (hx : 0 ≤ x ∧ x ≤ 5000) (hw : (w = 1 ∧ m = d_num x) ∨ (w = 2 ∧ m = d_wd x ∧ 0 ≤ x ∧ x < d_wl od)) (hd : DPm od m v2) (ho : OVs u.2.2 v2) (hn : 1 ≤ need) : RdP od A N i u c need (.inr (j, l + 1, m)) q2 (rd_emu (u.1, u.2.1, v2)) (rd_emc (u.1, u.2.1, v2) c w x) := by
  have hw2 : 0 ≤ w ∧ w ≤ 15 := by rcases hw with h | h <;> omega
  have ht2 := TS_em ht hx hw2
  have hu' : ((u.1, u.2.1, v2) : Int × Int × Int).1 < 436 := hu
  rw [rd_emu_lt hu', rd_emc_lt hu'] at ht2 ⊢
  have hc := im_up_self c u.1 (16 * x + w)
  have hsg : SG od (im_up c u.1 (16 * x + w)) u.1 (u.1 + 1) 1 m := by
    rcases hw with ⟨rfl, rfl⟩ | ⟨rfl, rfl, h3⟩
    · exact SG_num (by rw [hc]; omega) (by rw [hc]; omega)
    · exact SG_wd (by rw [hc]; omega) (by rw [hc]; omega) h3
  exact ⟨⟨hq.1, hq.2, by omega⟩, ht2, rfl, ⟨hs, hl.1⟩, ⟨by dsimp only; omega, by dsimp only; omega⟩, fun x q1 q2 => im_up_ne c _ (by dsimp only; omega), SG_more hsg hn, hd, ho⟩
end Rp
