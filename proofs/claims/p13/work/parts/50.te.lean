/-! the reference tells what a law tells -/
/-- kept is as the land is -/
def KR (K : Int → Int) (lv : Nat → Int) (L : Nat → Int → Int) : Prop := (K 110 = lv 0 ∧ K 68 = lv 1 ∧ K 69 = lv 2 ∧ K 111 = lv 3 ∧ K 112 = lv 4 ∧ K 113 = lv 5) ∧ (K 70 = L 7 0 ∧ K 107 = L 7 1 ∧ K 108 = L 7 2 ∧ K 109 = L 7 3) ∧ (∀ p, 0 ≤ p → p < 10 → K (71 + p) = L 0 p ∧ K (81 + p) = L 1 p ∧ K (0 + p) = L 2 p ∧ K (10 + p) = L 3 p) ∧ (∀ k, 0 ≤ k → k < lv 1 → K (20 + 3 * k) = L 4 k ∧ K (20 + 3 * k + 1) = L 5 k ∧ K (20 + 3 * k + 2) = L 6 k) ∧ ∀ k, 0 ≤ k → k < lv 3 → K (91 + 2 * k) = L 8 k ∧ K (91 + 2 * k + 1) = L 9 k
/-- its texts' bounds -/
def KT (K : Int → Int) : Prop := (∀ i, 0 ≤ i → i < 2800 → 0 ≤ K (121 + i) ∧ K (121 + i) ≤ 1000) ∧ (∀ i, 0 ≤ i → i < 2800 → 0 ≤ K (2921 + i) ∧ K (2921 + i) ≤ 100000000) ∧ (∀ t, 0 ≤ t → t < 7 → 0 ≤ K (114 + t) ∧ K (114 + t) ≤ 400)
def KC (K : Int → Int) (f : Int) : Int → Int := fun i => if i < 400 * f + K (114 + f) then K (121 + i) else 0
/-- the law in force, of the class and of the reference -/
def KLW (K : Int → Int) (f : Int) (lw : Option im_T) : Prop := (f = -1 ∧ lw = none) ∨ ((0 ≤ f ∧ f < 6) ∧ ∃ q Cs, lw = some q ∧ TRL false q Cs ∧ LSd (KC K f) (fun i => K (2921 + i)) (400 * f + K (114 + f)) (400 * f) Cs)
def EV4 (v : Nat → Int) (g ge b o : Int) : Nat → Int := pl_U (pl_U (pl_U (pl_U v 22 g) 23 ge) 24 b) 25 o
/-- as before but for the scratch of telling -/
def QS (v : Nat → Int) (R : Nat → Int → Int) (w : im_W) : Prop := ∃ g ge b o a, w = MW (EV4 v g ge b o) (pl_U R 12 a)
theorem QS_0 (v : Nat → Int) (R : Nat → Int → Int) : QS v R (MW v R) := ⟨v 22, v 23, v 24, v 25, R 12, rfl⟩
theorem QS_t {v : Nat → Int} {R : Nat → Int → Int} {g ge b o : Int} {a : Int → Int} {w : im_W} (h : QS (EV4 v g ge b o) (pl_U R 12 a) w) : QS v R w := by
  obtain ⟨g2, ge2, b2, o2, a2, rfl⟩ := h
  exact ⟨g2, ge2, b2, o2, a2, rfl⟩
/-- what is asked, at its places -/
def ask8 (p ov : Int) (K A : Int → Int) : Int → Int := im_up (im_up (im_up (im_up (im_up (im_up (im_up (im_up A 0 p) 1 (K (71 + p))) 2 (K (81 + p))) 3 (K (10 + p))) 4 (K 109)) 5 (K (0 + p))) 6 ov) 7 (K 70)
theorem ask8_e {K A : Int → Int} {lv : Nat → Int} {L : Nat → Int → Int} (h : KR K lv L) {p ov : Int} (hp : 0 ≤ p ∧ p < 10) : ∀ c, 9 ≤ c → c ≤ 16 → ask8 p ov K A (c - 9) = as_wd p ov L (d_wi false c) := by
  obtain ⟨-, ⟨a1, a2, a3, a4⟩, a5, -⟩ := h
  obtain ⟨b1, b2, b3, b4⟩ := a5 p hp.1 hp.2
  intro c h1 h2
  have hc : c = 9 ∨ c = 10 ∨ c = 11 ∨ c = 12 ∨ c = 13 ∨ c = 14 ∨ c = 15 ∨ c = 16 := by omega
  rcases hc with rfl | rfl | rfl | rfl | rfl | rfl | rfl | rfl
  · rfl
  · exact b1
  · exact b2
  · exact b4
  · exact a4
  · exact b3
  · rfl
  · exact a1
theorem KT_ir {K : Int → Int} {lv : Nat → Int} {L : Nat → Int → Int} (h : KR K lv L) (hk : LOK lv L) : (0 ≤ K 110 ∧ K 110 ≤ 10) ∧ (0 ≤ K 68 ∧ K 68 ≤ 16) ∧ (0 ≤ K 69 ∧ K 69 ≤ 99999) ∧ (-1 ≤ K 113 ∧ K 113 ≤ 5) ∧ (2 ≤ K 107 ∧ K 107 ≤ 99) ∧ (0 ≤ K 108 ∧ K 108 ≤ 10) ∧ (0 ≤ K 109 ∧ K 109 ≤ 9) ∧ 0 ≤ K 70 ∧ (0 ≤ K 111 ∧ K 111 ≤ 8) ∧ (0 ≤ K 112 ∧ K 112 ≤ 6) := by
  obtain ⟨⟨a1, a2, a3, a4, a5, a6⟩, ⟨b1, b2, b3, b4⟩, -⟩ := h
  have h1 := lk_par hk
  have h2 := lk_grp hk
  have h3 := lk_sea hk
  have h4 := lk_for hk
  have h5 := lk_law hk
  have h6 := lk_trm hk
  have h7 := lk_hrd hk
  omega
theorem KR_p {K : Int → Int} {lv : Nat → Int} {L : Nat → Int → Int} (h : KR K lv L) (hk : LOK lv L) : ∀ p, 0 ≤ p → p < 10 → (-1 ≤ K (71 + p) ∧ K (71 + p) ≤ 9) ∧ (0 ≤ K (81 + p) ∧ K (81 + p) ≤ 9) ∧ (0 ≤ K (0 + p) ∧ K (0 + p) ≤ 999) ∧ (0 ≤ K (10 + p) ∧ K (10 + p) ≤ 99999) := by
  intro p h1 h2
  obtain ⟨e1, e2, e3, e4⟩ := h.2.2.1 p h1 h2
  rw [e1, e2, e3, e4]
  exact ⟨lk_bel hk p, lk_dep hk p, lk_cnt hk p, lk_wlk hk p⟩
theorem KR_gs {K : Int → Int} {lv : Nat → Int} {L : Nat → Int → Int} (h : KR K lv L) (hk : LOK lv L) : ∀ g, 0 ≤ g → g < K 68 → 0 ≤ K (20 + 3 * g + 1) ∧ K (20 + 3 * g + 1) ≤ 98 := by
  intro g h1 h2
  rw [h.1.2.1] at h2
  rw [(h.2.2.2.1 g h1 h2).2.1]
  exact lk_siz hk g
theorem as_bar_1 {lw : Option im_T} {p ten : Int} {L : Nat → Int → Int} (h : as_lat lw (as_wd p (as_over lw p ten L) L) 3 0 = 0 ∨ as_lat lw (as_wd p (as_over lw p ten L) L) 3 0 = 1) : bd (as_lat lw (as_wd p (as_over lw p ten L) L) 3 0) 0 1 = as_bar lw p ten L := by
  unfold as_bar
  rcases h with h | h
  · rw [h, if_pos rfl]; rfl
  · rw [h, if_neg (by decide)]; rfl
def t_val (head lo hi told is y sb hold b2 : Int) : Int := if is = head ∧ hold = 1 ∧ b2 = 0 ∧ sb = 0 then bd y lo hi else told
theorem t_val_eq {e : Int → Int} {head lo hi told is y sb hold b2 k t : Int} {m1 mx m2 : dM} (hk : k = is - 1) (hsum : (sb = 0 ∧ m1 e = some y) ∨ (sb = 1 ∧ m1 e = none)) (htest : (b2 = 0 ∧ m2 e = some hold) ∨ (b2 = 1 ∧ m2 e = none)) (hh : hold = 0 ∨ hold = 1) : tl_1 e head lo hi told (k, t, m1, mx, m2) = t_val head lo hi told is y sb hold b2 := by
  unfold t_val
  by_cases h1 : is = head
  · rcases htest with ⟨rfl, h2⟩ | ⟨rfl, h2⟩
    · rcases hh with rfl | rfl
      · rw [tl_1_none (cl_tell_0 h2), if_neg (fun z => absurd z.2.1 (by decide))]
      · rcases hsum with ⟨rfl, h3⟩ | ⟨rfl, h3⟩
        · rw [tl_1_yes (s := y) (show k = head - 1 by omega) ((cl_tell_z h2 (by decide)).trans h3), if_pos ⟨h1, rfl, rfl, rfl⟩]
        · rw [tl_1_none ((cl_tell_z h2 (by decide)).trans h3), if_neg (fun z => absurd z.2.2.2 (by decide))]
    · rw [tl_1_none (cl_tell_b h2), if_neg (fun z => absurd z.2.2.1 (by decide))]
  · rw [tl_1_no (show ¬ k = head - 1 by omega), if_neg (fun z => h1 z.1)]
theorem KLW_3 {K : Int → Int} {f : Int} {lw : Option im_T} (h : KLW K f lw) (wd : Int → Int) : as_lat lw wd 3 0 = 0 ∨ as_lat lw wd 3 0 = 1 := by
  rcases h with ⟨-, rfl⟩ | ⟨-, q, Cs, rfl, h2, -⟩
  · exact Or.inl rfl
  · exact as_lat_3 h2 wd
/-- all that telling wants -/
def TLS (v : Nat → Int) (R : Nat → Int → Int) (lv : Nat → Int) (L : Nat → Int → Int) (lw : Option im_T) : Prop := KR (R 2) lv L ∧ LOK lv L ∧ L 7 0 ≤ 100000 ∧ KT (R 2) ∧ KLW (R 2) (lv 5) lw ∧ (v 30 = 0 ∨ (2 ≤ v 30 ∧ v 30 ≤ 99))
theorem TLS_q {v : Nat → Int} {R : Nat → Int → Int} {lv : Nat → Int} {L : Nat → Int → Int} {lw : Option im_T} (h : TLS v R lv L lw) (g ge b o : Int) (a : Int → Int) : TLS (EV4 v g ge b o) (pl_U R 12 a) lv L lw := h
theorem bd_lat {K : Int → Int} {f : Int} {lw : Option im_T} (h : KLW K f lw) (hf : f = -1) {x lo hi : Int} (hx : lo ≤ x ∧ x ≤ hi) (wd : Int → Int) (kind : Int) : bd (as_lat lw wd kind x) lo hi = x := by
  rcases h with ⟨-, rfl⟩ | ⟨h1, -⟩
  · exact bd_id hx
  · omega
section Te
variable {ro : ab_R} {T : List im_T} {d : Nat} {v : Nat → Int} {R : Nat → Int → Int} {lv : Nat → Int} {L : Nat → Int → Int} {lw : Option im_T}
set_option maxHeartbeats 8000000 in
theorem t_tail {head p ov lo hi wo told is y sb hold b2 jj : Int} {Q : Option im_V → im_W → Prop} (hir : im_ir head ∧ im_ir is) (hlh : 0 ≤ lo ∧ lo ≤ hi ∧ hi ≤ 99) (hy : -1000000000 ≤ y ∧ y ≤ 1000000000) (hsb : sb = 0 ∨ sb = 1) (hho : hold = 0 ∨ hold = 1) (hb2 : b2 = 0 ∨ b2 = 1) (k : im_wp ro (ab_Ev ro ab_codes d) 9 (some .int) ab_k_X9_tells 24 T Q (164, [some (mr 0), some (.inl head), some (.inl p), some (.inl ov), some (.inl lo), some (.inl hi), some (.inl wo), some (.inr (.inl (t_val head lo hi told is y sb hold b2))), none, some (.inl is), some (.inr (.inl y)), none, some (.inl sb), some (.inl hold)], [], MW (EW v (jj + 1) b2) R)) : im_wp ro (ab_Ev ro ab_codes d) 9 (some .int) ab_k_X9_tells 24 T Q (251, [some (mr 0), some (.inl head), some (.inl p), some (.inl ov), some (.inl lo), some (.inl hi), some (.inl wo), some (.inr (.inl (told))), none, some (.inl is), some (.inr (.inl y)), none, some (.inl sb), some (.inl hold)], [], MW (EW v jj b2) R) := by
  refine im_g 2 (y := (254, _, _, _)) rfl trivial ?_
  refine im_b rfl rfl ⟨(by omega), (by omega), trivial⟩ (fun br1 => ?_) (fun br1 => ?_)
  · refine im_g 7 (y := (164, _, _, _)) rfl trivial ?_
    rw [show t_val head lo hi told is y sb hold b2 = told from if_neg (by omega)] at k
    exact k
  · refine im_g 1 (y := (259, _, _, _)) rfl trivial ?_
    refine im_b rfl rfl ⟨(by omega), trivial⟩ (fun br2 => ?_) (fun br2 => ?_)
    · refine im_g 7 (y := (164, _, _, _)) rfl trivial ?_
      rw [show t_val head lo hi told is y sb hold b2 = told from if_neg (by omega)] at k
      exact k
    · refine im_g 2 (y := (266, _, _, _)) rfl trivial ?_
      refine im_b rfl rfl ⟨(by show im_ir b2; constructor <;> omega), trivial⟩ (fun br3 => ?_) (fun br3 => ?_)
      · have hb2z : ¬ b2 = 0 := br3
        refine im_g 7 (y := (164, _, _, _)) rfl trivial ?_
        rw [show t_val head lo hi told is y sb hold b2 = told from if_neg (by omega)] at k
        exact k
      · have hb2z : b2 = 0 := Classical.not_not.mp br3
        refine im_g 1 (y := (271, _, _, _)) rfl trivial ?_
        refine im_b rfl rfl ⟨(by omega), trivial⟩ (fun br4 => ?_) (fun br4 => ?_)
        · refine im_g 7 (y := (164, _, _, _)) rfl trivial ?_
          rw [show t_val head lo hi told is y sb hold b2 = told from if_neg (by omega)] at k
          exact k
        · refine im_g 4 (y := (280, _, _, _)) rfl ⟨(by first | (constructor <;> omega) | omega), (by first | (constructor <;> omega) | omega), (by first | (constructor <;> omega) | omega), trivial⟩ ?_
          refine im_b rfl rfl ⟨(by exact im_cmp_ir _ _), trivial⟩ (fun br5 => ?_) (fun br5 => ?_)
          · rw [im_cmp_nn] at br5
            refine im_g 4 (y := (295, _, _, _)) rfl ⟨(by first | (constructor <;> omega) | omega), (by first | (constructor <;> omega) | omega), (by first | (constructor <;> omega) | omega), trivial⟩ ?_
            refine im_b rfl rfl ⟨(by exact im_cmp_ir _ _), trivial⟩ (fun br6 => ?_) (fun br6 => ?_)
            · rw [im_cmp_np] at br6
              refine im_g 9 (y := (164, _, _, _)) rfl trivial ?_
              have hbd2 : bd y lo hi = y := (if_neg (by omega)).trans (if_neg (by omega))
              rw [show t_val head lo hi told is y sb hold b2 = y from (if_pos (by omega)).trans hbd2] at k
              exact k
            · rw [im_cmp_np] at br6
              refine im_g 11 (y := (164, _, _, _)) rfl ⟨(by first | (constructor <;> omega) | omega), trivial⟩ ?_
              have hbd2 : bd y lo hi = hi := (if_neg (by omega)).trans (if_pos (by omega))
              rw [show t_val head lo hi told is y sb hold b2 = hi from (if_pos (by omega)).trans hbd2] at k
              exact k
          · rw [im_cmp_nn] at br5
            refine im_g 11 (y := (164, _, _, _)) rfl ⟨(by first | (constructor <;> omega) | omega), trivial⟩ ?_
            have hbd2 : bd y lo hi = lo := if_pos (by omega)
            rw [show t_val head lo hi told is y sb hold b2 = lo from (if_pos (by omega)).trans hbd2] at k
            exact k
set_option maxHeartbeats 8000000 in
theorem t_loop (hT : T.length < 1000) {e : Int → Int} (hE : EPR false v R e) {head p ov lo hi wo : Int} (hhd : 1 ≤ head ∧ head ≤ 4) (hlh : 0 ≤ lo ∧ lo ≤ hi ∧ hi ≤ 99) (hd : 76 ≤ d) : ∀ (Cs : List dC) (i told b : Int) (x9 x10 x11 x12 x13 : Option im_V), LSd (EC v R) (EX R) (v 23) i Cs → (0 ≤ i ∧ i ≤ 2801) → (lo ≤ told ∧ told ≤ hi) → im_wp ro (ab_Ev ro ab_codes d) 9 (some .int) ab_k_X9_tells 24 T (fun r w => r = some (.inl (tl e head lo hi told Cs)) ∧ ∃ g b, w = MW (EW v g b) R) (164, [some (mr 0), some (.inl head), some (.inl p), some (.inl ov), some (.inl lo), some (.inl hi), some (.inl wo), some (.inr (.inl (told))), none, x9, x10, x11, x12, x13], [], MW (EW v i b) R) := by
  have h23 := hE.1
  have hcb := @EC_b false v R e hE
  intro Cs
  induction Cs with
  | nil =>
    intro i told b x9 x10 x11 x12 x13 hL hix ht2
    replace hL : v 23 ≤ i := hL
    refine im_g 4 (y := (172, _, _, _)) rfl trivial ?_
    refine im_bT rfl rfl ⟨(by first | omega | (show im_ir (v 23); constructor <;> omega) | (show im_ir i; constructor <;> omega)), (by first | omega | (show im_ir (v 23); constructor <;> omega) | (show im_ir i; constructor <;> omega)), trivial⟩ (show v 23 ≤ i from hL) ?_
    refine im_g 2 (y := (324, _, _, _)) rfl trivial ?_
    refine im_r rfl rfl trivial rfl ?_
    exact ⟨rfl, _, _, rfl⟩
  | cons q Cs ih =>
    intro i told b x9 x10 x11 x12 x13 hL hix ht2
    obtain ⟨hlt, n, l, l2, j, hq, hL2⟩ := hL
    have hcx := hcb hix.1
    have hbd := @bd_b
    rcases d_law_r hq with ⟨hc, j1, l1, m1, q1, q2⟩ | ⟨hc, q2⟩
    · have hj1 := dn_in (v := v) (R := R) (by decide) (show 0 ≤ i + 1 ∧ i + 1 ≤ v 23 by omega) q1
      replace hj1 : 0 ≤ j1 ∧ j1 ≤ v 23 := hj1
      refine im_g 4 (y := (172, _, _, _)) rfl trivial ?_
      refine im_bF rfl rfl ⟨(by first | omega | (show im_ir (v 23); constructor <;> omega) | (show im_ir i; constructor <;> omega)), (by first | omega | (show im_ir (v 23); constructor <;> omega) | (show im_ir i; constructor <;> omega)), trivial⟩ (show ¬ v 23 ≤ i by omega) ?_
      refine im_g 3 (y := (180, _, _, _)) rfl trivial ?_
      refine im_cM rfl rfl (e_codeAt (v := v) (R := R) (i := i) (b := b) (k := i) (by omega) hT (by omega) (by omega) h23) rfl hT (fun v1 w1 hq => ?_)
      obtain ⟨rfl, rfl⟩ := hq
      refine ⟨(EW v (i) (b)), R, rfl, rfl, ?_⟩
      refine im_g 12 (y := (203, _, _, _)) rfl ⟨(by omega), trivial⟩ ?_
      refine im_bT rfl rfl ⟨(by omega), (by omega), trivial⟩ (show ¬ EC v R i = 4 by omega) ?_
      refine im_g 2 (y := (212, _, _, _)) rfl trivial ?_
      refine im_cM rfl rfl ((e_all (ro := ro) (T := T) hT n).2.2.1 d false v R e 0 (i + 1) (l) 1 (0) j1 l1 m1 hE (by decide) (by omega) (by omega) (by decide) (by omega) q1) rfl hT (fun v1 w1 hq => ?_)
      obtain ⟨y1, b1, rfl, rfl, g1⟩ := hq
      refine ⟨(EW v j1 b1), R, rfl, rfl, ?_⟩
      have gy := g1.2.2.1
      have gb1 := g1.1
      refine im_g 9 (y := (230, _, _, _)) rfl ⟨(by omega), trivial⟩ ?_
      refine im_cM rfl rfl (e_passes (v := v) (R := R) (i := j1) (b := 0) (c := 5) (by omega) hT (by omega) (by decide) (hcb (by omega)) h23) rfl hT (fun v1 w1 hq => ?_)
      obtain ⟨rfl, rfl⟩ := hq
      refine ⟨(EW v (if EC v R (j1) = 5 then j1 + 1 else j1) 0), R, rfl, rfl, ?_⟩
      refine im_b rfl rfl ⟨(by omega), trivial⟩ (fun br1 => ?_) (fun br1 => ?_)
      · have c233 : ¬ (EC v R j1 = 5) := by
          intro hh
          rw [if_pos hh] at br1
          exact absurd br1 (by decide)
        clear br1
        rw [if_neg c233]
        have hq3 : j = j1 ∧ q = (EC v R i - 1, 1, m1, d_1, d_1) := by
          rcases d_if_r q2 with ⟨t, -⟩ | ⟨-, t1, -, t2⟩
          · exact absurd t c233
          · exact ⟨t1, t2⟩
        obtain ⟨rfl, rfl⟩ := hq3
        refine im_g 3 (y := (251, _, _, _)) rfl trivial ?_
        refine t_tail (is := EC v R i) (y := y1) (sb := b1) (hold := 1) (b2 := 0) (jj := j) ⟨by constructor <;> omega, by constructor <;> omega⟩ hlh (by omega) (by omega) (by omega) (by omega) ?_
        have hx1 := t_val_eq (e := e) (head := head) (lo := lo) (hi := hi) (told := told) (is := EC v R i) (y := y1) (sb := b1) (hold := 1) (b2 := 0) (k := EC v R i - 1) (t := 1) (m1 := m1) (mx := d_1) (m2 := d_1) (by omega) (g1.2.2.2.2.2 rfl rfl) (by exact Or.inl ⟨rfl, rfl⟩) (by omega)
        have htv : lo ≤ t_val head lo hi told (EC v R i) y1 b1 1 0 ∧ t_val head lo hi told (EC v R i) y1 b1 1 0 ≤ hi := by unfold t_val; split; exact bd_b hlh.2.1; exact ht2
        show im_wp _ _ _ _ _ _ _ (fun r w => r = some (.inl (tl e head lo hi (tl_1 e head lo hi told (EC v R i - 1, 1, m1, d_1, d_1)) Cs)) ∧ ∃ g b, w = MW (EW v g b) R) _
        rw [hx1]
        exact ih (j + 1) _ _ _ _ _ _ _ hL2 (by omega) htv
      · have c233 : EC v R j1 = 5 := by
          by_cases hh : EC v R j1 = 5
          · exact hh
          · rw [if_neg hh] at br1; exact absurd rfl br1
        clear br1
        rw [if_pos c233]
        have hq3 : ∃ m2, dn false (EC v R) (EX R) n 9 0 (j1 + 1) l1 d_0 = some (.inr (j, l2, m2)) ∧ q = (EC v R i - 1, 1, m1, d_1, m2) := by
          rcases d_if_r q2 with ⟨-, t⟩ | ⟨t, -⟩
          · exact t
          · exact absurd c233 t
        obtain ⟨m2, q3, rfl⟩ := hq3
        have hin5 := EC_in (v := v) (R := R) (i := j1) (by omega)
        have hj2 := dn_in (v := v) (R := R) (by decide) (by omega) q3
        refine im_g 2 (y := (238, _, _, _)) rfl trivial ?_
        refine im_cM rfl rfl ((e_all (ro := ro) (T := T) hT n).2.2.2.2.2.2.1 d false v R e 0 (j1 + 1) (l1) 1 (0) j l2 m2 hE (by decide) (by omega) (by omega) (by decide) (by omega) q3) rfl hT (fun v1 w1 hq => ?_)
        obtain ⟨z2, b2, rfl, rfl, g2⟩ := hq
        refine ⟨(EW v j b2), R, rfl, rfl, ?_⟩
        refine im_b rfl rfl ⟨(by have t := g2.2.2.1; omega), trivial⟩ (fun br2 => ?_) (fun br2 => ?_)
        · have hz : z2 = 0 := br2
          refine im_g 2 (y := (251, _, _, _)) rfl trivial ?_
          have gz2 := g2.2.2.1
          have gb2 := g2.1
          refine t_tail (is := EC v R i) (y := y1) (sb := b1) (hold := 0) (b2 := b2) (jj := j) ⟨by constructor <;> omega, by constructor <;> omega⟩ hlh (by omega) (by omega) (by omega) (by omega) ?_
          have hx1 := t_val_eq (e := e) (head := head) (lo := lo) (hi := hi) (told := told) (is := EC v R i) (y := y1) (sb := b1) (hold := 0) (b2 := b2) (k := EC v R i - 1) (t := 1) (m1 := m1) (mx := d_1) (m2 := m2) (by omega) (g1.2.2.2.2.2 rfl rfl) (by have t := g2.2.2.2.2 rfl rfl; rw [hz] at t; exact t) (by omega)
          have htv : lo ≤ t_val head lo hi told (EC v R i) y1 b1 0 b2 ∧ t_val head lo hi told (EC v R i) y1 b1 0 b2 ≤ hi := by unfold t_val; split; exact bd_b hlh.2.1; exact ht2
          show im_wp _ _ _ _ _ _ _ (fun r w => r = some (.inl (tl e head lo hi (tl_1 e head lo hi told (EC v R i - 1, 1, m1, d_1, m2)) Cs)) ∧ ∃ g b, w = MW (EW v g b) R) _
          rw [hx1]
          exact ih (j + 1) _ _ _ _ _ _ _ hL2 (by omega) htv
        · have hz : ¬ z2 = 0 := br2
          refine im_g 3 (y := (251, _, _, _)) rfl trivial ?_
          have gz2 := g2.2.2.1
          have gb2 := g2.1
          refine t_tail (is := EC v R i) (y := y1) (sb := b1) (hold := 1) (b2 := b2) (jj := j) ⟨by constructor <;> omega, by constructor <;> omega⟩ hlh (by omega) (by omega) (by omega) (by omega) ?_
          have hx1 := t_val_eq (e := e) (head := head) (lo := lo) (hi := hi) (told := told) (is := EC v R i) (y := y1) (sb := b1) (hold := 1) (b2 := b2) (k := EC v R i - 1) (t := 1) (m1 := m1) (mx := d_1) (m2 := m2) (by omega) (g1.2.2.2.2.2 rfl rfl) (by have t := g2.2.2.2.2 rfl rfl; rw [show z2 = 1 by omega] at t; exact t) (by omega)
          have htv : lo ≤ t_val head lo hi told (EC v R i) y1 b1 1 b2 ∧ t_val head lo hi told (EC v R i) y1 b1 1 b2 ≤ hi := by unfold t_val; split; exact bd_b hlh.2.1; exact ht2
          show im_wp _ _ _ _ _ _ _ (fun r w => r = some (.inl (tl e head lo hi (tl_1 e head lo hi told (EC v R i - 1, 1, m1, d_1, m2)) Cs)) ∧ ∃ g b, w = MW (EW v g b) R) _
          rw [hx1]
          exact ih (j + 1) _ _ _ _ _ _ _ hL2 (by omega) htv
    · refine im_g 4 (y := (172, _, _, _)) rfl trivial ?_
      refine im_bF rfl rfl ⟨(by first | omega | (show im_ir (v 23); constructor <;> omega) | (show im_ir i; constructor <;> omega)), (by first | omega | (show im_ir (v 23); constructor <;> omega) | (show im_ir i; constructor <;> omega)), trivial⟩ (show ¬ v 23 ≤ i by omega) ?_
      refine im_g 3 (y := (180, _, _, _)) rfl trivial ?_
      refine im_cM rfl rfl (e_codeAt (v := v) (R := R) (i := i) (b := b) (k := i) (by omega) hT (by omega) (by omega) h23) rfl hT (fun v1 w1 hq => ?_)
      obtain ⟨rfl, rfl⟩ := hq
      refine ⟨(EW v (i) (b)), R, rfl, rfl, ?_⟩
      refine im_g 12 (y := (203, _, _, _)) rfl ⟨(by omega), trivial⟩ ?_
      refine im_bF rfl rfl ⟨(by omega), (by omega), trivial⟩ (show ¬ ¬ EC v R i = 4 by omega) ?_
      refine im_g 11 (y := (230, _, _, _)) rfl ⟨(by omega), trivial⟩ ?_
      refine im_cM rfl rfl (e_passes (v := v) (R := R) (i := i + 1) (b := 0) (c := 5) (by omega) hT (by omega) (by decide) (hcb (by omega)) h23) rfl hT (fun v1 w1 hq => ?_)
      obtain ⟨rfl, rfl⟩ := hq
      refine ⟨(EW v (if EC v R (i + 1) = 5 then i + 1 + 1 else i + 1) 0), R, rfl, rfl, ?_⟩
      refine im_b rfl rfl ⟨(by omega), trivial⟩ (fun br1 => ?_) (fun br1 => ?_)
      · have c233 : ¬ (EC v R (i + 1) = 5) := by
          intro hh
          rw [if_pos hh] at br1
          exact absurd br1 (by decide)
        clear br1
        rw [if_neg c233]
        have hq3 : j = i + 1 ∧ q = (3, 1, d_1, d_1, d_1) := by
          rcases d_if_r q2 with ⟨t, -⟩ | ⟨-, t1, -, t2⟩
          · exact absurd t c233
          · exact ⟨t1, t2⟩
        obtain ⟨rfl, rfl⟩ := hq3
        refine im_g 3 (y := (251, _, _, _)) rfl trivial ?_
        refine t_tail (is := EC v R i) (y := 1) (sb := 0) (hold := 1) (b2 := 0) (jj := i + 1) ⟨by constructor <;> omega, by constructor <;> omega⟩ hlh (by omega) (by omega) (by omega) (by omega) ?_
        have hx1 := t_val_eq (e := e) (head := head) (lo := lo) (hi := hi) (told := told) (is := EC v R i) (y := 1) (sb := 0) (hold := 1) (b2 := 0) (k := 3) (t := 1) (m1 := d_1) (mx := d_1) (m2 := d_1) (by omega) (Or.inl ⟨rfl, rfl⟩) (by exact Or.inl ⟨rfl, rfl⟩) (by omega)
        have htv : lo ≤ t_val head lo hi told (EC v R i) 1 0 1 0 ∧ t_val head lo hi told (EC v R i) 1 0 1 0 ≤ hi := by unfold t_val; split; exact bd_b hlh.2.1; exact ht2
        show im_wp _ _ _ _ _ _ _ (fun r w => r = some (.inl (tl e head lo hi (tl_1 e head lo hi told (3, 1, d_1, d_1, d_1)) Cs)) ∧ ∃ g b, w = MW (EW v g b) R) _
        rw [hx1]
        exact ih (i + 1 + 1) _ _ _ _ _ _ _ hL2 (by omega) htv
      · have c233 : EC v R (i + 1) = 5 := by
          by_cases hh : EC v R (i + 1) = 5
          · exact hh
          · rw [if_neg hh] at br1; exact absurd rfl br1
        clear br1
        rw [if_pos c233]
        have hq3 : ∃ m2, dn false (EC v R) (EX R) n 9 0 (i + 1 + 1) l d_0 = some (.inr (j, l2, m2)) ∧ q = (3, 1, d_1, d_1, m2) := by
          rcases d_if_r q2 with ⟨-, t⟩ | ⟨t, -⟩
          · exact t
          · exact absurd c233 t
        obtain ⟨m2, q3, rfl⟩ := hq3
        have hin5 := EC_in (v := v) (R := R) (i := i + 1) (by omega)
        have hj2 := dn_in (v := v) (R := R) (by decide) (by omega) q3
        refine im_g 2 (y := (238, _, _, _)) rfl trivial ?_
        refine im_cM rfl rfl ((e_all (ro := ro) (T := T) hT n).2.2.2.2.2.2.1 d false v R e 0 (i + 1 + 1) (l) 1 (0) j l2 m2 hE (by decide) (by omega) (by omega) (by decide) (by omega) q3) rfl hT (fun v1 w1 hq => ?_)
        obtain ⟨z2, b2, rfl, rfl, g2⟩ := hq
        refine ⟨(EW v j b2), R, rfl, rfl, ?_⟩
        refine im_b rfl rfl ⟨(by have t := g2.2.2.1; omega), trivial⟩ (fun br2 => ?_) (fun br2 => ?_)
        · have hz : z2 = 0 := br2
          refine im_g 2 (y := (251, _, _, _)) rfl trivial ?_
          have gz2 := g2.2.2.1
          have gb2 := g2.1
          refine t_tail (is := EC v R i) (y := 1) (sb := 0) (hold := 0) (b2 := b2) (jj := j) ⟨by constructor <;> omega, by constructor <;> omega⟩ hlh (by omega) (by omega) (by omega) (by omega) ?_
          have hx1 := t_val_eq (e := e) (head := head) (lo := lo) (hi := hi) (told := told) (is := EC v R i) (y := 1) (sb := 0) (hold := 0) (b2 := b2) (k := 3) (t := 1) (m1 := d_1) (mx := d_1) (m2 := m2) (by omega) (Or.inl ⟨rfl, rfl⟩) (by have t := g2.2.2.2.2 rfl rfl; rw [hz] at t; exact t) (by omega)
          have htv : lo ≤ t_val head lo hi told (EC v R i) 1 0 0 b2 ∧ t_val head lo hi told (EC v R i) 1 0 0 b2 ≤ hi := by unfold t_val; split; exact bd_b hlh.2.1; exact ht2
          show im_wp _ _ _ _ _ _ _ (fun r w => r = some (.inl (tl e head lo hi (tl_1 e head lo hi told (3, 1, d_1, d_1, m2)) Cs)) ∧ ∃ g b, w = MW (EW v g b) R) _
          rw [hx1]
          exact ih (j + 1) _ _ _ _ _ _ _ hL2 (by omega) htv
        · have hz : ¬ z2 = 0 := br2
          refine im_g 3 (y := (251, _, _, _)) rfl trivial ?_
          have gz2 := g2.2.2.1
          have gb2 := g2.1
          refine t_tail (is := EC v R i) (y := 1) (sb := 0) (hold := 1) (b2 := b2) (jj := j) ⟨by constructor <;> omega, by constructor <;> omega⟩ hlh (by omega) (by omega) (by omega) (by omega) ?_
          have hx1 := t_val_eq (e := e) (head := head) (lo := lo) (hi := hi) (told := told) (is := EC v R i) (y := 1) (sb := 0) (hold := 1) (b2 := b2) (k := 3) (t := 1) (m1 := d_1) (mx := d_1) (m2 := m2) (by omega) (Or.inl ⟨rfl, rfl⟩) (by have t := g2.2.2.2.2 rfl rfl; rw [show z2 = 1 by omega] at t; exact t) (by omega)
          have htv : lo ≤ t_val head lo hi told (EC v R i) 1 0 1 b2 ∧ t_val head lo hi told (EC v R i) 1 0 1 b2 ≤ hi := by unfold t_val; split; exact bd_b hlh.2.1; exact ht2
          show im_wp _ _ _ _ _ _ _ (fun r w => r = some (.inl (tl e head lo hi (tl_1 e head lo hi told (3, 1, d_1, d_1, m2)) Cs)) ∧ ∃ g b, w = MW (EW v g b) R) _
          rw [hx1]
          exact ih (j + 1) _ _ _ _ _ _ _ hL2 (by omega) htv
set_option maxHeartbeats 8000000 in
theorem m_tells (hd : 77 ≤ d) (hT : T.length < 1000) (ht : TLS v R lv L lw) {p : Int} (hp : 0 ≤ p ∧ p < 10) {kind ov lo hi wo : Int} (hov : -1 ≤ ov ∧ ov ≤ 98) (hhd : 0 ≤ kind ∧ kind ≤ 3) (hlh : 0 ≤ lo ∧ lo ≤ hi ∧ hi ≤ 99) (hwo : lo ≤ wo ∧ wo ≤ hi) : im_ct ro T d 183 [mr 0, .inl (kind + 1), .inl p, .inl ov, .inl lo, .inl hi, .inl wo] (MW v R) (fun r w => r = some (.inl (bd (as_lat lw (as_wd p ov L) kind wo) lo hi)) ∧ QS v R w) := by
  obtain ⟨d, rfl⟩ : ∃ e, d = e + 1 := ⟨d - 1, by omega⟩
  obtain ⟨hr, hk, hday, kt, hl, hten⟩ := ht
  have hki := KT_ir hr hk
  refine im_ct_of (own := 9) (ret := (some .int)) (code := ab_k_X9_tells) (nL := 14) (L0 := [some (mr 0), some (.inl (kind + 1)), some (.inl p), some (.inl ov), some (.inl lo), some (.inl hi), some (.inl wo), none, none, none, none, none, none, none]) (n := 24) rfl rfl rfl rfl rfl rfl rfl rfl rfl ?_
  refine im_g 5 (y := (8, _, _, _)) rfl ⟨(by omega), trivial⟩ ?_
  refine im_b rfl rfl ⟨(by omega), (by omega), trivial⟩ (fun br1 => ?_) (fun br1 => ?_)
  · refine im_g 94 (y := (164, _, _, _)) rfl ⟨(by omega), (by omega), (by omega), (by omega), (by omega), (by omega), (by omega), (by omega), (by omega), (by omega), (by omega), (by omega), (by omega), (by omega), (by omega), (by omega), (by omega), (by omega), (by omega), trivial⟩ ?_
    have hf2 : 0 ≤ R 2 113 ∧ R 2 113 < 6 := by omega
    have hl2 := hl
    rw [← hr.1.2.2.2.2.2] at hl2
    rcases hl2 with ⟨t, -⟩ | ⟨-, q, Cs, rfl, htr, hls⟩
    · omega
    have hsz := kt.2.2 (R 2 113) hf2.1 (by omega)
    have hE : EPR false (pl_U (pl_U v 23 (400 * R 2 113 + R 2 (114 + R 2 113))) 25 0) (pl_U R 12 (ask8 p ov (R 2) (R 12))) (as_wd p ov L) := ⟨(show 0 ≤ (400 * R 2 113 + R 2 (114 + R 2 113)) ∧ (400 * R 2 113 + R 2 (114 + R 2 113)) ≤ 2800 by omega), ⟨rfl, ask8_e hr hp⟩, as_wd_ok hk hday hp hov, hki.1, hki.2.1, KR_gs hr hk, kt.1, kt.2.1⟩
    refine im_eqs (y := (164, [some (mr 0), some (.inl (kind + 1)), some (.inl p), some (.inl ov), some (.inl lo), some (.inl hi), some (.inl wo), some (.inr (.inl wo)), none, none, none, none, none, none], [], MW (EW (pl_U (pl_U v 23 (400 * R 2 113 + R 2 (114 + R 2 113))) 25 0) (400 * R 2 113) (v 24)) (pl_U R 12 (ask8 p ov (R 2) (R 12))))) rfl ?_
    refine im_q (fun r w hq => ?_) (t_loop (v := (pl_U (pl_U v 23 (400 * R 2 113 + R 2 (114 + R 2 113))) 25 0)) (R := (pl_U R 12 (ask8 p ov (R 2) (R 12)))) hT hE (head := kind + 1) (by omega) hlh (by omega) Cs (400 * R 2 113) wo (v 24) _ _ _ _ _ hls (by omega) hwo)
    obtain ⟨rfl, g, b, rfl⟩ := hq
    refine ⟨?_, g, _, b, 0, _, rfl⟩
    rw [← as_lat_tl htr (as_wd p ov L) hwo]
  · refine im_g 1 (y := (13, _, _, _)) rfl trivial ?_
    refine im_r rfl rfl trivial rfl ?_
    rw [bd_lat hl (by rw [← hr.1.2.2.2.2.2]; omega) hwo]
    exact ⟨rfl, QS_0 v R⟩
set_option maxHeartbeats 8000000 in
theorem m_tens (hd : 78 ≤ d) (hT : T.length < 1000) (ht : TLS v R lv L lw) {p : Int} (hp : 0 ≤ p ∧ p < 10) : im_ct ro T d 184 [mr 0, .inl p] (MW v R) (fun r w => r = some (.inl (as_tens lw p (v 30) L)) ∧ QS v R w) := by
  obtain ⟨d, rfl⟩ : ∃ e, d = e + 1 := ⟨d - 1, by omega⟩
  have hki := KT_ir ht.1 ht.2.1
  have h30 := ht.2.2.2.2.2
  refine im_ct_of (own := 9) (ret := (some .int)) (code := ab_k_X9_tensOf) (nL := 2) (L0 := [some (mr 0), some (.inl p)]) (n := 24) rfl rfl rfl rfl rfl rfl rfl rfl rfl ?_
  refine im_g 2 (y := (4, _, _, _)) rfl trivial ?_
  refine im_b rfl rfl ⟨(by omega), trivial⟩ (fun br1 => ?_) (fun br1 => ?_)
  · refine im_g 10 (y := (28, _, _, _)) rfl ⟨(by omega), trivial⟩ ?_
    refine im_cM rfl rfl (m_tells (v := v) (R := R) (lv := lv) (L := L) (lw := lw) (by omega) hT ht (p := p) hp (kind := 0) (ov := -1) (lo := 2) (hi := 99) (wo := R 2 107) (by omega) (by omega) (by omega) (by omega)) rfl hT (fun v1 w1 hq => ?_)
    obtain ⟨rfl, g1, ge1, b1, o1, a1, rfl⟩ := hq
    refine ⟨(EV4 v g1 ge1 b1 o1), (pl_U R 12 a1), rfl, rfl, ?_⟩
    refine im_r rfl rfl trivial rfl ?_
    have e : as_tens lw p (v 30) L = bd (as_lat lw (as_wd p (-1) L) 0 (R 2 107)) 2 99 := by
      unfold as_tens
      rw [if_neg (by omega), ht.1.2.1.2.1]
    rw [e]
    exact ⟨rfl, g1, ge1, b1, o1, a1, rfl⟩
  · refine im_g 3 (y := (31, _, _, _)) rfl trivial ?_
    refine im_r rfl rfl trivial rfl ?_
    have e : as_tens lw p (v 30) L = v 30 := by
      unfold as_tens
      rw [if_pos (by omega)]
      exact bd_id (by omega)
    rw [e]
    exact ⟨rfl, QS_0 v R⟩
set_option maxHeartbeats 8000000 in
theorem m_over (hd : 79 ≤ d) (hT : T.length < 1000) (ht : TLS v R lv L lw) {p : Int} (hp : 0 ≤ p ∧ p < 10) : im_ct ro T d 185 [mr 0, .inl p] (MW v R) (fun r w => r = some (.inl (as_over lw p (v 30) L)) ∧ QS v R w) := by
  obtain ⟨d, rfl⟩ : ∃ e, d = e + 1 := ⟨d - 1, by omega⟩
  have hkp := ht.1.2.2.1 p hp.1 hp.2
  have hkb := (KR_p ht.1 ht.2.1 p hp.1 hp.2).2.2.1
  have htb := as_tens_b lw p (v 30) L
  refine im_ct_of (own := 9) (ret := (some .int)) (code := ab_k_X9_overOf) (nL := 2) (L0 := [some (mr 0), some (.inl p)]) (n := 24) rfl rfl rfl rfl rfl rfl rfl rfl rfl ?_
  refine im_g 8 (y := (10, _, _, _)) rfl ⟨(by omega), trivial⟩ ?_
  refine im_cM rfl rfl (m_tens (lv := lv) (L := L) (lw := lw) (by omega) hT ht hp) rfl hT (fun v1 w1 hq => ?_)
  obtain ⟨rfl, g1, ge1, b1, o1, a1, rfl⟩ := hq
  refine ⟨(EV4 v g1 ge1 b1 o1), (pl_U R 12 a1), rfl, rfl, ?_⟩
  refine im_g 1 (y := (14, _, _, _)) rfl ⟨(by first | (constructor <;> omega) | omega), (by first | (constructor <;> omega) | omega), (by first | (constructor <;> omega) | omega), trivial⟩ ?_
  refine im_r rfl rfl trivial rfl ?_
  have e : (R 2 (0 + p)).tmod (as_tens lw p (v 30) L) = as_over lw p (v 30) L := by
    unfold as_over
    rw [hkp.2.2.1]
    exact Int.tmod_eq_emod_of_nonneg (lk_cnt ht.2.1 p).1
  refine ⟨congrArg (fun z => some (Sum.inl z)) e, g1, ge1, b1, o1, a1, rfl⟩
set_option maxHeartbeats 8000000 in
theorem m_walkers (hd : 80 ≤ d) (hT : T.length < 1000) (ht : TLS v R lv L lw) {p : Int} (hp : 0 ≤ p ∧ p < 10) : im_ct ro T d 186 [mr 0, .inl p] (MW v R) (fun r w => r = some (.inl (as_over lw p (v 30) L - as_stay lw p (v 30) L)) ∧ QS v R w) := by
  obtain ⟨d, rfl⟩ : ∃ e, d = e + 1 := ⟨d - 1, by omega⟩
  have hob := as_over_b lw p (v 30) L
  have hsb := bd_b (x := as_lat lw (as_wd p (as_over lw p (v 30) L) L) 1 0) (a := 0) (b := 98) (by decide)
  refine im_ct_of (own := 9) (ret := (some .int)) (code := ab_k_X9_walkersOf) (nL := 3) (L0 := [some (mr 0), some (.inl p), none]) (n := 24) rfl rfl rfl rfl rfl rfl rfl rfl rfl ?_
  refine im_g 2 (y := (2, _, _, _)) rfl trivial ?_
  refine im_cM rfl rfl (m_over (lv := lv) (L := L) (lw := lw) (by omega) hT ht hp) rfl hT (fun v1 w1 hq => ?_)
  obtain ⟨rfl, g1, ge1, b1, o1, a1, rfl⟩ := hq
  refine ⟨(EV4 v g1 ge1 b1 o1), (pl_U R 12 a1), rfl, rfl, ?_⟩
  refine im_g 10 (y := (16, _, _, _)) rfl trivial ?_
  refine im_cM rfl rfl (m_tells (v := (EV4 v g1 ge1 b1 o1)) (R := (pl_U R 12 a1)) (lv := lv) (L := L) (lw := lw) (by omega) hT (TLS_q ht _ _ _ _ _) (p := p) hp (kind := 1) (ov := as_over lw p (v 30) L) (lo := 0) (hi := 98) (wo := 0) (by omega) (by omega) (by omega) (by omega)) rfl hT (fun v1 w1 hq => ?_)
  obtain ⟨rfl, g2, ge2, b2, o2, a2, rfl⟩ := hq
  refine ⟨(EV4 v g2 ge2 b2 o2), (pl_U R 12 a2), rfl, rfl, ?_⟩
  refine im_call [] rfl rfl (m_lesser (a := as_over lw p (v 30) L) (b := bd (as_lat lw (as_wd p (as_over lw p (v 30) L) L) 1 0) 0 98) (by omega) hT (by constructor <;> omega) (by constructor <;> omega)) rfl rfl rfl (by decide) rfl (by decide) hT (fun v1 w1 hq => ?_)
  obtain ⟨rfl, rfl⟩ := hq
  refine ⟨_, _, MW (EV4 v g2 ge2 b2 o2) (pl_U R 12 a2), rfl, rfl, rfl, ?_⟩
  refine im_g 1 (y := (23, _, _, _)) rfl trivial ?_
  refine im_r rfl rfl trivial rfl ?_
  exact ⟨rfl, g2, ge2, b2, o2, a2, rfl⟩
set_option maxHeartbeats 8000000 in
theorem m_steps (hd : 80 ≤ d) (hT : T.length < 1000) (ht : TLS v R lv L lw) {p : Int} (hp : 0 ≤ p ∧ p < 10) : im_ct ro T d 187 [mr 0, .inl p] (MW v R) (fun r w => r = some (.inl (as_steps lw p (v 30) L)) ∧ QS v R w) := by
  obtain ⟨d, rfl⟩ : ∃ e, d = e + 1 := ⟨d - 1, by omega⟩
  have hob := as_over_b lw p (v 30) L
  refine im_ct_of (own := 9) (ret := (some .int)) (code := ab_k_X9_stepsOf) (nL := 2) (L0 := [some (mr 0), some (.inl p)]) (n := 24) rfl rfl rfl rfl rfl rfl rfl rfl rfl ?_
  refine im_g 5 (y := (5, _, _, _)) rfl trivial ?_
  refine im_cM rfl rfl (m_over (lv := lv) (L := L) (lw := lw) (by omega) hT ht hp) rfl hT (fun v1 w1 hq => ?_)
  obtain ⟨rfl, g1, ge1, b1, o1, a1, rfl⟩ := hq
  refine ⟨(EV4 v g1 ge1 b1 o1), (pl_U R 12 a1), rfl, rfl, ?_⟩
  refine im_g 3 (y := (12, _, _, _)) rfl trivial ?_
  refine im_cM rfl rfl (m_tells (v := (EV4 v g1 ge1 b1 o1)) (R := (pl_U R 12 a1)) (lv := lv) (L := L) (lw := lw) (by omega) hT (TLS_q ht _ _ _ _ _) (p := p) hp (kind := 2) (ov := as_over lw p (v 30) L) (lo := 1) (hi := 9) (wo := 1) (by omega) (by omega) (by omega) (by omega)) rfl hT (fun v1 w1 hq => ?_)
  obtain ⟨rfl, g2, ge2, b2, o2, a2, rfl⟩ := hq
  refine ⟨(EV4 v g2 ge2 b2 o2), (pl_U R 12 a2), rfl, rfl, ?_⟩
  refine im_r rfl rfl trivial rfl ?_
  exact ⟨rfl, g2, ge2, b2, o2, a2, rfl⟩
set_option maxHeartbeats 8000000 in
theorem m_barred (hd : 80 ≤ d) (hT : T.length < 1000) (ht : TLS v R lv L lw) {p : Int} (hp : 0 ≤ p ∧ p < 10) : im_ct ro T d 188 [mr 0, .inl p] (MW v R) (fun r w => r = some (.inl (as_bar lw p (v 30) L)) ∧ QS v R w) := by
  obtain ⟨d, rfl⟩ : ∃ e, d = e + 1 := ⟨d - 1, by omega⟩
  have hob := as_over_b lw p (v 30) L
  have eb := as_bar_1 (lw := lw) (p := p) (ten := v 30) (L := L) (KLW_3 ht.2.2.2.2.1 _)
  have hbv := as_bar_b lw p (v 30) L
  refine im_ct_of (own := 9) (ret := (some .boolean)) (code := ab_k_X9_isBarred) (nL := 2) (L0 := [some (mr 0), some (.inl p)]) (n := 24) rfl rfl rfl rfl rfl rfl rfl rfl rfl ?_
  refine im_g 5 (y := (5, _, _, _)) rfl trivial ?_
  refine im_cM rfl rfl (m_over (lv := lv) (L := L) (lw := lw) (by omega) hT ht hp) rfl hT (fun v1 w1 hq => ?_)
  obtain ⟨rfl, g1, ge1, b1, o1, a1, rfl⟩ := hq
  refine ⟨(EV4 v g1 ge1 b1 o1), (pl_U R 12 a1), rfl, rfl, ?_⟩
  refine im_g 3 (y := (11, _, _, _)) rfl trivial ?_
  refine im_cM rfl rfl (m_tells (v := (EV4 v g1 ge1 b1 o1)) (R := (pl_U R 12 a1)) (lv := lv) (L := L) (lw := lw) (by omega) hT (TLS_q ht _ _ _ _ _) (p := p) hp (kind := 3) (ov := as_over lw p (v 30) L) (lo := 0) (hi := 1) (wo := 0) (by omega) (by omega) (by omega) (by omega)) rfl hT (fun v1 w1 hq => ?_)
  obtain ⟨rfl, g2, ge2, b2, o2, a2, rfl⟩ := hq
  refine ⟨(EV4 v g2 ge2 b2 o2), (pl_U R 12 a2), rfl, rfl, ?_⟩
  refine im_g 1 (y := (15, _, _, _)) rfl trivial ?_
  refine im_b rfl rfl ⟨(by first | decide | (rw [eb]; constructor <;> omega)), (by first | decide | (rw [eb]; constructor <;> omega)), trivial⟩ (fun br1 => ?_) (fun br1 => ?_)
  · rw [eb] at br1
    refine im_g 1 (y := (23, _, _, _)) rfl trivial ?_
    refine im_r rfl rfl ⟨(by decide), trivial⟩ rfl ?_
    have hbv := as_bar_b lw p (v 30) L
    refine ⟨congrArg (fun z => some (Sum.inl z)) (by omega), g2, ge2, b2, o2, a2, rfl⟩
  · rw [eb] at br1
    refine im_g 2 (y := (23, _, _, _)) rfl trivial ?_
    refine im_r rfl rfl ⟨(by decide), trivial⟩ rfl ?_
    have hbv := as_bar_b lw p (v 30) L
    refine ⟨congrArg (fun z => some (Sum.inl z)) (by omega), g2, ge2, b2, o2, a2, rfl⟩
end Te
