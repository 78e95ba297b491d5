/-! the class's law(): a text is trimmed in the whole world -/
section Tc
variable {G : Nat → Nat} {w : ab_W}
theorem tx_cell {tx : Nat} (hw : ty_w sp_ G w) (hG : G tx = 9) : ∃ (pc pk : Nat) (u s ov : Int32) (f g : Nat → Int32), w[tx]? = some (.inr (7, [.ref pc, .ref pk, .int u, .int s, .int ov])) ∧ G pc = 25 ∧ G pk = 26 ∧ w[pc]? = some (.inl (0, 436, .inl f)) ∧ w[pk]? = some (.inl (0, 60, .inl g)) ∧ (0 ≤ u.toInt ∧ u.toInt ≤ 436) ∧ (0 ≤ s.toInt ∧ s.toInt ≤ 12) := by
  obtain ⟨fs, g0, hlen, q⟩ := hx_obj hw hG (s := 9) rfl (by decide)
  obtain ⟨pc, e0, hGc⟩ := hx_fr (k := 0) (s := 25) q rfl
  obtain ⟨pk, e1, hGk⟩ := hx_fr (k := 1) (s := 26) q rfl
  obtain ⟨u, e2, u0, u1⟩ := hx_fi (k := 2) (lo := 0) (hi := 436) q rfl
  obtain ⟨s, e3, s0, s1⟩ := hx_fi (k := 3) (lo := 0) (hi := 12) q rfl
  obtain ⟨ov, e4, -, -⟩ := hx_fi (k := 4) (lo := -2147483648) (hi := 2147483647) q rfl
  obtain ⟨f, gf, -⟩ := hx_row hw hGc (s := 25) (kd := 0) (n := 436) rfl (by decide)
  obtain ⟨g, gg, -⟩ := hx_row hw hGk (s := 26) (kd := 0) (n := 60) rfl (by decide)
  have e : fs = [.ref pc, .ref pk, .int u, .int s, .int ov] := by
    apply List.ext_getElem?
    intro k
    match k with
    | 0 => rw [e0]; rfl
    | 1 => rw [e1]; rfl
    | 2 => rw [e2]; rfl
    | 3 => rw [e3]; rfl
    | 4 => rw [e4]; rfl
    | k + 5 =>
      have hlen : fs.length = 5 := hlen
      rw [List.getElem?_eq_none (by omega)]
      rfl
  rw [e] at g0
  exact ⟨pc, pk, u, s, ov, f, g, g0, hGc, hGk, gf, gg, ⟨u0, u1⟩, s0, s1⟩
/-- the three new cells -/
def ex_N (n : Nat) (u s ov : Int32) (n1 n2 : Nat) (f1 f2 : Nat → Int32) : ab_W := [.inr (7, [.ref (n + 1), .ref (n + 2), .int u, .int s, .int ov]), .inl (0, n1, .inl f1), .inl (0, n2, .inl f2)]
theorem tr_cl {ro : ab_R} {d tx : Nat} (hw : ty_w sp_ G w) (hG : G tx = 9) : ab_cl (ab_Ev ro ab_codes (d + 2)) 78 [.ref tx] w (fun v w2 mc ms => ∃ (u s ov : Int32) (n1 n2 : Nat) (f1 f2 : Nat → Int32), v = some (.ref w.length) ∧ w2 = w ++ ex_N w.length u s ov n1 n2 f1 f2 ∧ mc = 3 ∧ ms ≤ 501 ∧ n1 ≤ 436 ∧ n2 ≤ 60) := by
  obtain ⟨pc, pk, u, s, ov, f, g, g0, hGc, hGk, gf, gg, hu, hs⟩ := tx_cell hw hG
  have bu := tr_ub hu.1 hu.2
  have bs := tr_sb hs.1 hs.2
  obtain ⟨o, hE, f1, f2, rfl⟩ := tr_trim (ro := ro) (d := d) u s ov f g ⟨bu.1, bu.2.1⟩ bs
  have a1 : tx ≠ pc := fun e => by rw [e, hGc] at hG; cases hG
  have a2 : tx ≠ pk := fun e => by rw [e, hGk] at hG; cases hG
  have a3 : pc ≠ pk := fun e => by rw [e, hGk] at hGc; cases hGc
  have hm : [tx, pc, pk].map (fun i => w[i]?) = ([.inr (7, [.ref 1, .ref 2, .int u, .int s, .int ov]), .inl (0, 436, .inl f), .inl (0, 60, .inl g)] : ab_W).map (fun e => some (ab_re (ab_pi [tx, pc, pk] w.length) id e)) := by
    show [w[tx]?, w[pc]?, w[pk]?] = _
    rw [g0, gf, gg]
    rfl
  refine ⟨[tx, pc, pk], [.ref 0], [.inr (7, [.ref 1, .ref 2, .int u, .int s, .int ov]), .inl (0, 436, .inl f), .inl (0, 60, .inl g)], _, _, _, _, (by decide : 3 < 400000), by simp [a1, a2, a3], rfl, hm, ?_, hE, ?_⟩
  · exact (by decide : 3 < 100000)
  refine ⟨u, s, ov, (tr_u u).toNatClampNeg, (tr_s s).toNatClampNeg, f1, f2, rfl, ?_, rfl, ?_, bu.2.1, bs.2⟩
  · exact ab_put_new (p := ab_pi [tx, pc, pk] w.length) (news := [.inr (7, [.ref 4, .ref 5, .int u, .int s, .int ov]), .inl (0, (tr_u u).toNatClampNeg, .inl f1), .inl (0, (tr_s s).toNatClampNeg, .inl f2)]) hm
  · have h1 := bu.2.1
    have h2 := bs.2
    omega
theorem ex_at {n k s : Nat} (h : ex_G G n k = s) (h1 : s ≠ 10) (h2 : s ≠ 27) (h3 : s ≠ 28) : G k = s := by
  unfold ex_G at h
  by_cases z : k = n
  · rw [if_pos z] at h; exact absurd h.symm h1
  · rw [if_neg z] at h
    by_cases z1 : k = n + 1
    · rw [if_pos z1] at h; exact absurd h.symm h2
    · rw [if_neg z1] at h
      by_cases z2 : k = n + 2
      · rw [if_pos z2] at h; exact absurd h.symm h3
      · rw [if_neg z2] at h; exact h
theorem ex_cell (hw : ty_w sp_ G w) {k : Nat} {news : ab_W} (h : G k ≠ 0) : (w ++ news)[k]? = w[k]? := List.getElem?_append_left (hw.2.1 k h)
theorem ex_FT (hw : ty_w sp_ G w) {news : ab_W} (h : FT G w) : FT (ex_G G w.length) (w ++ news) := by
  intro k ci fs x y hk hc
  have hk := ex_at hk (by decide) (by decide) (by decide)
  rw [ex_cell hw (by rw [hk]; decide)] at hc
  exact h k ci fs x y hk hc
theorem ex_has {o ci f : Nat} {v : Value} {news : ab_W} (hw : ty_w sp_ G w) (hG : G o ≠ 0) (h : hx_has w o ci f v) : hx_has (w ++ news) o ci f v := by
  obtain ⟨fs, g, e⟩ := h
  exact ⟨fs, by rw [ex_cell hw hG]; exact g, e⟩
end Tc
/-- what law() leaves behind -/
def lw_Q (G : Nat → Nat) (F : ab_W → Prop) (F' : Nat → ab_W → Prop) (fz : List (Nat × Nat)) (o : Nat) (w : ab_W) (r : ab_O) : Prop := ∃ (z b : Int32) (w1 : ab_W) (mc ms : Nat), r = (some (.int z), w1, mc, ms) ∧ hx_has w1 o 8 0 (.int b) ∧ b.toInt = 0 ∧
  ((mc = 0 ∧ ms = 0 ∧ ty_w sp_ G w1 ∧ F5 G F w1 ∧ ty_same G fz w w1) ∨
   (∃ (wm : ab_W) (u s ov : Int32) (n1 n2 : Nat) (f1 f2 : Nat → Int32), mc = 3 ∧ ms ≤ 501 ∧ ty_w sp_ G wm ∧ ty_same G fz w wm ∧ ty_w sp_ (ex_G G wm.length) w1 ∧ F5 (ex_G G wm.length) (F' wm.length) w1 ∧ ty_same (ex_G G wm.length) fz (wm ++ ex_N wm.length u s ov n1 n2 f1 f2) w1))
theorem h_law_wp {ro : ab_R} {G : Nat → Nat} {fz : List (Nat × Nat)} {F : ab_W → Prop} {F' : Nat → ab_W → Prop} (hF : ∀ w w', ty_same G pr5 w w' → F w → F w') (hF' : ∀ n w w', ty_same (ex_G G n) pr5 w w' → F' n w → F' n w') (hN : ∀ (w news : ab_W), ty_w sp_ G w → F w → F' w.length (w ++ news)) (hfz : ∀ q ∈ fz, q ∈ fb_hq_law_pre) (hfz2 : ∀ q ∈ fz, q ∈ fb_hq_law_tail) (d : Nat) {o : Nat} {w : ab_W} (hw : ty_w sp_ G w) (hl : w.length + 3 < 10000) (hf : (F5 G F) w) (hG0 : G o = 1) : ab_wp ro (ab_Ev ro ab_codes (d + 45)) 8 false (some .int) ab_k_X8_law (lw_Q G F F' fz o w) (0, [some (.ref o), none], [], w, 0, 0) := by
  refine hq_law_pre hF hfz d hw hf hG0 (fun z b w1 q1 q2 q3 q4 q5 => ⟨z, b, w1, 0, 0, rfl, q4, q5, Or.inl ⟨rfl, rfl, q1, q2, q3⟩⟩) (fun w1 ln lm b tx lws la q1 q2 q3 hGt hGl hGa hlm hla hlb hbb hb0 => ?_)
  have hl1 : w1.length = w.length := q3.1
  obtain ⟨cT, gT, hcT⟩ := ty_w_at q1 (k := tx) (by rw [hGt]; decide)
  rw [hGt] at hcT
  obtain ⟨ci, fs, rfl, ec, -⟩ := ty_obj hcT rfl
  have ec : ci = 7 := ec
  subst ec
  refine ax_cl (j := 78) (as := [.ref tx]) (r := [.int lm, .ref lws]) rfl (hx_iv (j := 78) (n := 0) (o := tx) (r := [.int lm, .ref lws]) rfl rfl gT rfl) (tr_cl (d := d + 43) q1 hGt) (fun v w2 mc ms hP => ?_)
  obtain ⟨u, s, ov, n1, n2, f1, f2, rfl, rfl, rfl, hms, hn1, hn2⟩ := hP
  have hne : ∀ k, G k ≠ 0 → ex_G G w1.length k = G k := ex_old q1
  have e0 : ex_G G w1.length w1.length = 10 := by unfold ex_G; rw [if_pos rfl]
  refine ax_shift (Q0 := fun r => ∃ (z b2 : Int32) (w3 : ab_W), r = (some (.int z), w3, 0, 0) ∧ ty_w sp_ (ex_G G w1.length) w3 ∧ F5 (ex_G G w1.length) (F' w1.length) w3 ∧ ty_same (ex_G G w1.length) fz (w1 ++ ex_N w1.length u s ov n1 n2 f1 f2) w3 ∧ hx_has w3 o 8 0 (.int b2) ∧ b2.toInt = 0) ?_ (fun v w3 mc ms hq => ?_)
  · refine hq_law_tail (G := ex_G G w1.length) (F := F' w1.length) (hF' w1.length) hfz2 d (q := w1.length) (b := b) (la := la) (ty_w_ex q1 hn1 hn2 (by omega)) ⟨ex_FT q1 q2.1, hN _ _ q1 q2.2⟩ (by rw [hne o (by rw [hG0]; decide)]; exact hG0) e0 (by rw [hne lws (by rw [hGl]; decide)]; exact hGl) (by rw [hne la (by rw [hGa]; decide)]; exact hGa) hlm (ex_has q1 (by rw [hG0]; decide) hla) (ex_has q1 (by rw [hGa]; decide) hlb) (ex_has q1 (by rw [hG0]; decide) hbb) hb0 (fun z b2 w3 p1 p2 p3 p4 p5 => ⟨z, b2, w3, rfl, p1, p2, p3, p4, p5⟩)
  · obtain ⟨z, b2, w4, e, p1, p2, p3, p4, p5⟩ := hq
    cases e
    exact ⟨z, b2, w3, _, _, rfl, p4, p5, Or.inr ⟨w1, u, s, ov, n1, n2, f1, f2, rfl, by omega, q1, q3, p1, p2, p3⟩⟩
