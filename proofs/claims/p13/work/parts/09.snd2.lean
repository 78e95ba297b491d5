theorem ab_fit_ok {ty : FieldType} {v : Value} {ps : List Prop} (ad : Nat → Nat) (h : ab_fit ty v = some ps) (hp : ab_all ps) : narrow ty (ab_rv ad v) = ab_rv ad v ∧ fits ty (ab_rv ad v) = true := by
  unfold ab_fit at h
  split at h
  · cases h; exact ⟨rfl, rfl⟩
  · cases h; exact ⟨rfl, rfl⟩
  · cases h
    rcases hp.1 with e | e
    · subst e; exact ⟨(by decide : narrow .boolean (.int 0) = .int 0), (by decide : fits .boolean (.int 0) = true)⟩
    · subst e; exact ⟨(by decide : narrow .boolean (.int 1) = .int 1), (by decide : fits .boolean (.int 1) = true)⟩
  · cases h; exact ⟨rfl, rfl⟩
  · cases h; exact ⟨rfl, rfl⟩
  · cases h; exact ⟨rfl, rfl⟩
  · cases h; exact ⟨rfl, rfl⟩
  · cases h
theorem ab_rx_fst (ad : Nat → Nat) (x : vp_A) : (ab_rx ad x).1 = x.1 := by
  unfold ab_rx
  split <;> rfl
theorem ab_rf (ad : Nat → Nat) (r : Option Nat) : va_rf (r.map ad) = ab_rv ad (va_rf r) := by cases r <;> rfl
theorem ab_up (ad : Nat → Nat) (f : Nat → Option Nat) (k : Nat) (v : Option Nat) : (fun i => (va_up f k v i).map ad) = va_up (fun i => (f i).map ad) k (v.map ad) := by
  funext i
  unfold va_up
  split <;> rfl
theorem ab_lo {s : State} {D : va_G} {cA : Nat → ClassId} {ad : Nat → Nat} {n0 mcF a : Nat} {A : Nat → Prop} {w : ab_W} {H : Heap} {locs : List Loc} (hnew : ∀ i, i < mcF → ad (n0 + i) = s.heap.size + i) (hw : w.length = n0 + a) (ha : a ≤ mcF) (hP : va_P D vwCl (ab_rl ad cA w) H) (hS : va_S A s.heap H locs) : s.heap.size + a ≤ H.size := by
  cases a with
  | zero => exact hS.1
  | succ a =>
    have hk : n0 + a < w.length := by omega
    have h1 := (hP (n0 + a) _ (ab_rl_at (List.getElem?_eq_getElem hk))).lt
    have h2 := hnew a (by omega)
    dsimp only at h1
    omega
theorem ab_sumMap (ad : Nat → Nat) (st : List Value) : ((st.map (ab_rv ad)).map fun v => v.category).sum = ab_sum st := by
  unfold ab_sum
  rw [List.map_map]
  congr 1
  apply List.map_congr_left
  intro v _
  exact ab_rv_cat ad v
section AbSnd2
variable {ro : ab_R} {p : Program} {l : Launch} {e : Env} {R : Room} {s : State} {m : MethodId} {args : Array Value} {below : List Frame} {meth : Method} {c : Code} {own : Nat} {ini : Bool} {cc : ByteArray} {nL : Nat} {D : va_G} {cA : Nat → ClassId} {ad : Nat → Nat} {n0 mcF msF : Nat} {A : Nat → Prop} {Q : State → Prop}
theorem ab_g_ldc (ix : Nat) (K : ab_Ctx ro p R s m args meth c own ini cc nL D cA ad n0 mcF msF A) : ab_G ro p l e R s m args below meth c own ini cc nL D cA ad n0 mcF msF A Q (.ldc ix) := by
  intro tgt pc L st w a b ps pc' L' st' w' a' b' len hdg hlen htg h hps hL hw ha hb kk ls H locs hl hP hS
  obtain ⟨hx, hbc, hml, hown, hts, hini, hK, hinj, hAd, hnew, hA, hR, hbig⟩ := K
  have hlen := hlen.resolve_left (by simp [ab_len])
  simp only [ab_len] at hlen
  subst hlen
  simp only [ab_nx] at h
  split at h
  · rename_i v hq
    cases h
    exact lv_ldc hx hbc hown (hts _ (ab_ci_get hq)) hdg (kk _ _ _ hl hP hS)
  · rename_i v hq
    cases h
    obtain ⟨tx, ht⟩ := ab_cs_get hq
    have hz := hK.2.2.2.1.1 _ ht
    dsimp only at hz
    exact va_ldcS hx hbc hown hz hdg (kk _ _ _ hl hP hS)
  · cases h
theorem ab_g_ldc_w (ix : Nat) (K : ab_Ctx ro p R s m args meth c own ini cc nL D cA ad n0 mcF msF A) : ab_G ro p l e R s m args below meth c own ini cc nL D cA ad n0 mcF msF A Q (.ldc_w ix) := by
  intro tgt pc L st w a b ps pc' L' st' w' a' b' len hdg hlen htg h hps hL hw ha hb kk ls H locs hl hP hS
  obtain ⟨hx, hbc, hml, hown, hts, hini, hK, hinj, hAd, hnew, hA, hR, hbig⟩ := K
  have hlen := hlen.resolve_left (by simp [ab_len])
  simp only [ab_len] at hlen
  subst hlen
  simp only [ab_nx] at h
  split at h
  · rename_i v hq
    cases h
    exact lv_ldcw hx hbc hown (hts _ (ab_ci_get hq)) hdg (kk _ _ _ hl hP hS)
  · cases h
theorem ab_g_ldc2_w (ix : Nat) (K : ab_Ctx ro p R s m args meth c own ini cc nL D cA ad n0 mcF msF A) : ab_G ro p l e R s m args below meth c own ini cc nL D cA ad n0 mcF msF A Q (.ldc2_w ix) := by
  intro tgt pc L st w a b ps pc' L' st' w' a' b' len hdg hlen htg h hps hL hw ha hb kk ls H locs hl hP hS
  obtain ⟨hx, hbc, hml, hown, hts, hini, hK, hinj, hAd, hnew, hA, hR, hbig⟩ := K
  have hlen := hlen.resolve_left (by simp [ab_len])
  simp only [ab_len] at hlen
  subst hlen
  simp only [ab_nx] at h
  split at h
  · rename_i v hq
    cases h
    exact lv_ldc2 hx hbc hown (hts _ (ab_cl_get hq)) hdg (kk _ _ _ hl hP hS)
  · cases h
theorem ab_g_getfield (ix : Nat) (K : ab_Ctx ro p R s m args meth c own ini cc nL D cA ad n0 mcF msF A) : ab_G ro p l e R s m args below meth c own ini cc nL D cA ad n0 mcF msF A Q (.getfield ix) := by
  intro tgt pc L st w a b ps pc' L' st' w' a' b' len hdg hlen htg h hps hL hw ha hb kk ls H locs hl hP hS
  obtain ⟨hx, hbc, hml, hown, hts, hini, hK, hinj, hAd, hnew, hA, hR, hbig⟩ := K
  have hlen := hlen.resolve_left (by simp [ab_len])
  simp only [ab_len] at hlen
  subst hlen
  simp only [ab_nx] at h
  split at h
  · rename_i q r
    split at h
    · rename_i ci k cj fs hf he
      cases hb1 : Nat.beq ci cj with
      | false => rw [hb1] at h; cases h
      | true =>
        rw [hb1, cond_true] at h
        have e1 := Nat.eq_of_beq_eq_true hb1
        subst e1
        split at h
        · rename_i v hv
          cases h
          obtain ⟨C, T, N, hc, hk, hlk⟩ := ab_f_get hf
          exact va_get hx hbc hts (ab_cls hc).1 hown hK.1 hP q (ab_rl_at he) hc k hk (hts _ hlk) (fun _ h9 => by rw [(ab_cls hc).2.2.2.2.2.2.2.2 k hk] at h9; exact h9) (v := ab_rv ad v) (by rw [List.getElem?_map, hv]; rfl) hdg (kk _ _ _ hl hP hS)
        · cases h
    · cases h
  · cases h
theorem ab_g_putfield (ix : Nat) (K : ab_Ctx ro p R s m args meth c own ini cc nL D cA ad n0 mcF msF A) : ab_G ro p l e R s m args below meth c own ini cc nL D cA ad n0 mcF msF A Q (.putfield ix) := by
  intro tgt pc L st w a b ps pc' L' st' w' a' b' len hdg hlen htg h hps hL hw ha hb kk ls H locs hl hP hS
  obtain ⟨hx, hbc, hml, hown, hts, hini, hK, hinj, hAd, hnew, hA, hR, hbig⟩ := K
  have hlen := hlen.resolve_left (by simp [ab_len])
  simp only [ab_len] at hlen
  subst hlen
  simp only [ab_nx] at h
  split at h
  · rename_i v q r
    split at h
    · rename_i ci k cj fs hf he
      cases hb1 : (Nat.beq ci cj && (!ab_fin ci k || (ini && Nat.beq ci own)) && Nat.blt k fs.length) with
      | false => rw [hb1] at h; cases h
      | true =>
        rw [hb1, cond_true] at h
        simp only [Bool.and_eq_true, Bool.or_eq_true, Bool.not_eq_true'] at hb1
        obtain ⟨⟨b1, b2⟩, b3⟩ := hb1
        have e1 := Nat.eq_of_beq_eq_true b1
        subst e1
        have hlt : k < fs.length := Nat.le_of_ble_eq_true b3
        split at h
        · rename_i qs hft
          cases h
          obtain ⟨C, T, N, hc, hk, hlk⟩ := ab_f_get hf
          obtain ⟨c1, c2, c3, c4, c5, c6, c7, c8, c9⟩ := ab_cls hc
          obtain ⟨f1, f2⟩ := ab_fit_ok ad hft hps
          have hD := ab_D (cA := cA) (w := w) hinj hAd (by omega)
          have hfin : ab_fin ci k = (T k).2.2.2 := by unfold ab_fin; rw [hc]
          have kk2 : ∀ (H1 : Heap) (locs1 : List Loc), va_P D vwCl ((ab_rl ad cA w).set q (ad q, .inr (ci, (fs.map (ab_rv ad)).set k (ab_rv ad v)))) H1 → va_D A ((ab_rl ad cA w).set q (ad q, .inr (ci, (fs.map (ab_rv ad)).set k (ab_rv ad v)))) → va_S A s.heap H1 locs1 → W p l e R s m args below meth c H1 locs1 a b Q (F0 m (pc + 3) ls (st'.map (ab_rv ad))) := by
            intro H1 locs1 g1 g2 g3
            refine kk ls H1 locs1 hl ?_ g3
            rw [ab_rl_set]
            rw [← List.map_set] at g1
            exact g1
          rcases b2 with b2 | b2
          · exact va_put hx hbc hts c1 (ab_ty ci) c2 c3 hown hK.1 hP hD hS q (ab_rl_at he) hc k hk (hts _ hlk) (fun _ h9 => by rw [c9 k hk] at h9; exact h9) (by rw [← hfin]; exact b2) (c2 k hk) f1 f2 (by rw [List.length_map]; exact hlt) hdg kk2
          · by_cases hf2 : (T k).2.2.2 = true
            · have e2 := Nat.eq_of_beq_eq_true b2.2
              subst e2
              exact va_putF hx hbc hts c1 (ab_ty ci) c2 c3 hown hK.1 hP hD hS q (ab_rl_at he) hc k hk (hts _ hlk) (fun _ h9 => by rw [c9 k hk] at h9; exact h9) hf2 (hini b2.1) (by rw [c9 k hk]; exact c8) (c2 k hk) f1 f2 (by rw [List.length_map]; exact hlt) hdg kk2
            · exact va_put hx hbc hts c1 (ab_ty ci) c2 c3 hown hK.1 hP hD hS q (ab_rl_at he) hc k hk (hts _ hlk) (fun _ h9 => by rw [c9 k hk] at h9; exact h9) (by simpa using hf2) (c2 k hk) f1 f2 (by rw [List.length_map]; exact hlt) hdg kk2
        · cases h
    · cases h
  · cases h
theorem ab_g_iaload (K : ab_Ctx ro p R s m args meth c own ini cc nL D cA ad n0 mcF msF A) : ab_G ro p l e R s m args below meth c own ini cc nL D cA ad n0 mcF msF A Q (.iaload) := by
  intro tgt pc L st w a b ps pc' L' st' w' a' b' len hdg hlen htg h hps hL hw ha hb kk ls H locs hl hP hS
  obtain ⟨hx, hbc, hml, hown, hts, hini, hK, hinj, hAd, hnew, hA, hR, hbig⟩ := K
  have hlen := hlen.resolve_left (by simp [ab_len])
  simp only [ab_len] at hlen
  subst hlen
  simp only [ab_nx] at h
  split at h
  · rename_i i q r
    split at h
    · rename_i n f he
      cases h
      exact va_iald hx hbc hK.1 hP q 0 (ab_rl_at he) rfl hps.1 hdg (kk _ _ _ hl hP hS)
    · rename_i he
      split at h
      · rename_i n f hr
        cases h
        split at hr
        · rename_i hge
          obtain ⟨h1, h2⟩ := hK.2.2.2.2.2 _ _ _ hr
          have hq : 1000000 + (q - 1000000) = q := Nat.add_sub_cancel' hge
          rw [hq] at h1 h2
          exact va_sld hx hbc h1 (ab_X_lt h1) h2 hS hps.1 hdg (kk _ _ _ hl hP hS)
        · cases hr
      · cases h
    · cases h
  · cases h
theorem ab_g_baload (K : ab_Ctx ro p R s m args meth c own ini cc nL D cA ad n0 mcF msF A) : ab_G ro p l e R s m args below meth c own ini cc nL D cA ad n0 mcF msF A Q (.baload) := by
  intro tgt pc L st w a b ps pc' L' st' w' a' b' len hdg hlen htg h hps hL hw ha hb kk ls H locs hl hP hS
  obtain ⟨hx, hbc, hml, hown, hts, hini, hK, hinj, hAd, hnew, hA, hR, hbig⟩ := K
  have hlen := hlen.resolve_left (by simp [ab_len])
  simp only [ab_len] at hlen
  subst hlen
  simp only [ab_nx] at h
  split at h
  · rename_i i q r
    split at h
    · rename_i n f he
      cases h
      exact va_bald hx hbc hK.1 hP q 1 (ab_rl_at he) rfl hps.1 hdg (kk _ _ _ hl hP hS)
    · rename_i n f he
      cases h
      exact va_zald hx hbc hK.1 hP q 3 (ab_rl_at he) rfl hps.1 hdg (kk _ _ _ hl hP hS)
    · cases h
  · cases h
theorem ab_g_laload (K : ab_Ctx ro p R s m args meth c own ini cc nL D cA ad n0 mcF msF A) : ab_G ro p l e R s m args below meth c own ini cc nL D cA ad n0 mcF msF A Q (.laload) := by
  intro tgt pc L st w a b ps pc' L' st' w' a' b' len hdg hlen htg h hps hL hw ha hb kk ls H locs hl hP hS
  obtain ⟨hx, hbc, hml, hown, hts, hini, hK, hinj, hAd, hnew, hA, hR, hbig⟩ := K
  have hlen := hlen.resolve_left (by simp [ab_len])
  simp only [ab_len] at hlen
  subst hlen
  simp only [ab_nx] at h
  split at h
  · rename_i i q r
    split at h
    · rename_i n f he
      cases h
      exact va_lald hx hbc hK.1 hP q 2 (ab_rl_at he) rfl hps.1 hdg (kk _ _ _ hl hP hS)
    · cases h
  · cases h
theorem ab_g_aaload (K : ab_Ctx ro p R s m args meth c own ini cc nL D cA ad n0 mcF msF A) : ab_G ro p l e R s m args below meth c own ini cc nL D cA ad n0 mcF msF A Q (.aaload) := by
  intro tgt pc L st w a b ps pc' L' st' w' a' b' len hdg hlen htg h hps hL hw ha hb kk ls H locs hl hP hS
  obtain ⟨hx, hbc, hml, hown, hts, hini, hK, hinj, hAd, hnew, hA, hR, hbig⟩ := K
  have hlen := hlen.resolve_left (by simp [ab_len])
  simp only [ab_len] at hlen
  subst hlen
  simp only [ab_nx] at h
  split at h
  · rename_i i q r
    split at h
    · rename_i n f he
      cases h
      have h3 := kk ls H locs hl hP hS
      refine va_aldq hx hbc hK.1 hP q 4 (n := n) (f := fun i => (f i).map ad) (ab_rl_at he) rfl hps.1 hdg ?_
      rw [ab_rf]
      exact h3
    · rename_i n f he
      cases h
      have h3 := kk ls H locs hl hP hS
      refine va_aldq hx hbc hK.1 hP q 5 (n := n) (f := fun i => (f i).map ad) (ab_rl_at he) rfl hps.1 hdg ?_
      rw [ab_rf]
      exact h3
    · cases h
  · cases h
theorem ab_g_iastore (K : ab_Ctx ro p R s m args meth c own ini cc nL D cA ad n0 mcF msF A) : ab_G ro p l e R s m args below meth c own ini cc nL D cA ad n0 mcF msF A Q (.iastore) := by
  intro tgt pc L st w a b ps pc' L' st' w' a' b' len hdg hlen htg h hps hL hw ha hb kk ls H locs hl hP hS
  obtain ⟨hx, hbc, hml, hown, hts, hini, hK, hinj, hAd, hnew, hA, hR, hbig⟩ := K
  have hlen := hlen.resolve_left (by simp [ab_len])
  simp only [ab_len] at hlen
  subst hlen
  simp only [ab_nx] at h
  split at h
  · rename_i x i q r
    split at h
    · rename_i n f he
      cases h
      have hD := ab_D (cA := cA) (w := w) hinj hAd (by omega)
      refine va_iast hx hbc hK.1 hP hD hS q 0 (ab_rl_at he) rfl hps.1 hdg (fun H1 locs1 g1 g2 g3 => kk ls H1 locs1 hl ?_ g3)
      rw [ab_rl_set]
      exact g1
    · cases h
  · cases h
theorem ab_g_bastore (K : ab_Ctx ro p R s m args meth c own ini cc nL D cA ad n0 mcF msF A) : ab_G ro p l e R s m args below meth c own ini cc nL D cA ad n0 mcF msF A Q (.bastore) := by
  intro tgt pc L st w a b ps pc' L' st' w' a' b' len hdg hlen htg h hps hL hw ha hb kk ls H locs hl hP hS
  obtain ⟨hx, hbc, hml, hown, hts, hini, hK, hinj, hAd, hnew, hA, hR, hbig⟩ := K
  have hlen := hlen.resolve_left (by simp [ab_len])
  simp only [ab_len] at hlen
  subst hlen
  simp only [ab_nx] at h
  split at h
  · rename_i x i q r
    split at h
    · rename_i n f he
      cases h
      have hD := ab_D (cA := cA) (w := w) hinj hAd (by omega)
      refine va_bast hx hbc hK.1 hP hD hS q 1 (ab_rl_at he) rfl hps.1 hdg (fun H1 locs1 g1 g2 g3 => kk ls H1 locs1 hl ?_ g3)
      rw [ab_rl_set]
      exact g1
    · rename_i n f he
      cases h
      have hD := ab_D (cA := cA) (w := w) hinj hAd (by omega)
      refine va_zast hx hbc hK.1 hP hD hS q 3 (ab_rl_at he) rfl hps.1 hdg (fun H1 locs1 g1 g2 g3 => kk ls H1 locs1 hl ?_ g3)
      rw [ab_rl_set]
      exact g1
    · cases h
  · cases h
theorem ab_g_lastore (K : ab_Ctx ro p R s m args meth c own ini cc nL D cA ad n0 mcF msF A) : ab_G ro p l e R s m args below meth c own ini cc nL D cA ad n0 mcF msF A Q (.lastore) := by
  intro tgt pc L st w a b ps pc' L' st' w' a' b' len hdg hlen htg h hps hL hw ha hb kk ls H locs hl hP hS
  obtain ⟨hx, hbc, hml, hown, hts, hini, hK, hinj, hAd, hnew, hA, hR, hbig⟩ := K
  have hlen := hlen.resolve_left (by simp [ab_len])
  simp only [ab_len] at hlen
  subst hlen
  simp only [ab_nx] at h
  split at h
  · rename_i x i q r
    split at h
    · rename_i n f he
      cases h
      have hD := ab_D (cA := cA) (w := w) hinj hAd (by omega)
      refine va_last hx hbc hK.1 hP hD hS q 2 (ab_rl_at he) rfl hps.1 hdg (fun H1 locs1 g1 g2 g3 => kk ls H1 locs1 hl ?_ g3)
      rw [ab_rl_set]
      exact g1
    · cases h
  · cases h
theorem ab_g_aastore (K : ab_Ctx ro p R s m args meth c own ini cc nL D cA ad n0 mcF msF A) : ab_G ro p l e R s m args below meth c own ini cc nL D cA ad n0 mcF msF A Q (.aastore) := by
  intro tgt pc L st w a b ps pc' L' st' w' a' b' len hdg hlen htg h hps hL hw ha hb kk ls H locs hl hP hS
  obtain ⟨hx, hbc, hml, hown, hts, hini, hK, hinj, hAd, hnew, hA, hR, hbig⟩ := K
  have hlen := hlen.resolve_left (by simp [ab_len])
  simp only [ab_len] at hlen
  subst hlen
  simp only [ab_nx] at h
  split at h
  · rename_i v i q r
    split at h
    · rename_i t n f ci vs he hv
      cases hb1 : ((Nat.beq t 4 || Nat.beq t 5) && Nat.beq ci (ab_elem t)) with
      | false => rw [hb1] at h; cases h
      | true =>
        rw [hb1, cond_true] at h
        cases h
        have hD := ab_D (cA := cA) (w := w) hinj hAd (by omega)
        simp only [Bool.and_eq_true, Bool.or_eq_true] at hb1
        obtain ⟨b1, b2⟩ := hb1
        have e2 := Nat.eq_of_beq_eq_true b2
        have kk2 : ∀ (H1 : Heap) (locs1 : List Loc), va_P D vwCl ((ab_rl ad cA w).set q (ad q, .inl (cA t, n, .inr (.inr (.inr (.inr (va_up (fun i => (f i).map ad) i.toNatClampNeg (some (ad v))))))))) H1 → va_D A ((ab_rl ad cA w).set q (ad q, .inl (cA t, n, .inr (.inr (.inr (.inr (va_up (fun i => (f i).map ad) i.toNatClampNeg (some (ad v))))))))) → va_S A s.heap H1 locs1 → W p l e R s m args below meth c H1 locs1 a b Q (F0 m (pc + 1) ls (st'.map (ab_rv ad))) := by
          intro H1 locs1 g1 g2 g3
          refine kk ls H1 locs1 hl ?_ g3
          rw [ab_rl_set]
          show va_P D vwCl ((ab_rl ad cA w).set q (ad q, .inl (cA t, n, .inr (.inr (.inr (.inr (fun j => (va_up f i.toNatClampNeg (some v) j).map ad))))))) H1
          rw [ab_up]
          exact g1
        rcases b1 with b1 | b1
        · have e1 := Nat.eq_of_beq_eq_true b1
          subst e1
          subst e2
          exact va_astq hx hbc hK.1 hP hD hS q 4 v 1 (r := (RX1, TX1, 18)) (ab_rl_at he) rfl (ab_rl_at hv) rfl hps.1 hdg kk2
        · have e1 := Nat.eq_of_beq_eq_true b1
          subst e1
          subst e2
          exact va_astq hx hbc hK.1 hP hD hS q 5 v 7 (r := (RX7, TX7, 5)) (ab_rl_at he) rfl (ab_rl_at hv) rfl hps.1 hdg kk2
    · cases h
  · rename_i i q r
    split at h
    · rename_i t n f he
      cases hb1 : (Nat.beq t 4 || Nat.beq t 5) with
      | false => rw [hb1] at h; cases h
      | true =>
        rw [hb1, cond_true] at h
        cases h
        have hD := ab_D (cA := cA) (w := w) hinj hAd (by omega)
        simp only [Bool.or_eq_true] at hb1
        have kk2 : ∀ (H1 : Heap) (locs1 : List Loc), va_P D vwCl ((ab_rl ad cA w).set q (ad q, .inl (cA t, n, .inr (.inr (.inr (.inr (va_up (fun i => (f i).map ad) i.toNatClampNeg none))))))) H1 → va_D A ((ab_rl ad cA w).set q (ad q, .inl (cA t, n, .inr (.inr (.inr (.inr (va_up (fun i => (f i).map ad) i.toNatClampNeg none))))))) → va_S A s.heap H1 locs1 → W p l e R s m args below meth c H1 locs1 a b Q (F0 m (pc + 1) ls (st'.map (ab_rv ad))) := by
          intro H1 locs1 g1 g2 g3
          refine kk ls H1 locs1 hl ?_ g3
          rw [ab_rl_set]
          show va_P D vwCl ((ab_rl ad cA w).set q (ad q, .inl (cA t, n, .inr (.inr (.inr (.inr (fun j => (va_up f i.toNatClampNeg none j).map ad))))))) H1
          rw [ab_up]
          exact g1
        rcases hb1 with b1 | b1
        · have e1 := Nat.eq_of_beq_eq_true b1
          subst e1
          exact va_astqN hx hbc hK.1 hP hD hS q 4 (ab_rl_at he) rfl hps.1 hdg kk2
        · have e1 := Nat.eq_of_beq_eq_true b1
          subst e1
          exact va_astqN hx hbc hK.1 hP hD hS q 5 (ab_rl_at he) rfl hps.1 hdg kk2
    · cases h
  · cases h
theorem ab_g_arraylength (K : ab_Ctx ro p R s m args meth c own ini cc nL D cA ad n0 mcF msF A) : ab_G ro p l e R s m args below meth c own ini cc nL D cA ad n0 mcF msF A Q (.arraylength) := by
  intro tgt pc L st w a b ps pc' L' st' w' a' b' len hdg hlen htg h hps hL hw ha hb kk ls H locs hl hP hS
  obtain ⟨hx, hbc, hml, hown, hts, hini, hK, hinj, hAd, hnew, hA, hR, hbig⟩ := K
  have hlen := hlen.resolve_left (by simp [ab_len])
  simp only [ab_len] at hlen
  subst hlen
  simp only [ab_nx] at h
  split at h
  · rename_i q r
    split at h
    · rename_i t n x he
      cases hb1 : Nat.blt t 6 with
      | false => rw [hb1] at h; cases h
      | true =>
        rw [hb1, cond_true] at h
        cases h
        have ht : t < 6 := Nat.le_of_ble_eq_true hb1
        obtain ⟨ty, hty⟩ : ∃ ty, (ab_tys cA)[t]? = some (cA t, ty) := by
          match t, ht with
          | 0, _ => exact ⟨_, rfl⟩
          | 1, _ => exact ⟨_, rfl⟩
          | 2, _ => exact ⟨_, rfl⟩
          | 3, _ => exact ⟨_, rfl⟩
          | 4, _ => exact ⟨_, rfl⟩
          | 5, _ => exact ⟨_, rfl⟩
          | z + 6, z1 => exact absurd z1 (Nat.not_lt.mpr (Nat.le_add_left 6 z))
        exact va_alen hx hbc hK.1 hP q t (x := ab_rx ad (n, x)) (ab_rl_at he) hty (by rw [ab_rx_fst]) hdg (kk _ _ _ hl hP hS)
    · rename_i he
      split at h
      · rename_i n f hr
        cases h
        split at hr
        · rename_i hge
          obtain ⟨h1, h2⟩ := hK.2.2.2.2.2 _ _ _ hr
          have hq : 1000000 + (q - 1000000) = q := Nat.add_sub_cancel' hge
          rw [hq] at h1 h2
          exact va_slen hx hbc h1 (ab_X_lt h1) h2 hS hdg (kk _ _ _ hl hP hS)
        · cases hr
      · cases h
    · cases h
  · cases h
theorem ab_g_getstatic (ix : Nat) (K : ab_Ctx ro p R s m args meth c own ini cc nL D cA ad n0 mcF msF A) : ab_G ro p l e R s m args below meth c own ini cc nL D cA ad n0 mcF msF A Q (.getstatic ix) := by
  intro tgt pc L st w a b ps pc' L' st' w' a' b' len hdg hlen htg h hps hL hw ha hb kk ls H locs hl hP hS
  obtain ⟨hx, hbc, hml, hown, hts, hini, hK, hinj, hAd, hnew, hA, hR, hbig⟩ := K
  have hlen := hlen.resolve_left (by simp [ab_len])
  simp only [ab_len] at hlen
  subst hlen
  simp only [ab_nx] at h
  split at h
  · rename_i j hq
    cases h
    obtain ⟨q, hq1, hq2, hq3⟩ := ab_s_get hq
    subst hq2
    exact va_gets hx hbc (hK.2.2.2.2.1 q hq1) hS hown (hts _ hq3) (fun _ h9 => h9) hdg (kk _ _ _ hl hP hS)
  · cases h
theorem ab_g_new (ix : Nat) (K : ab_Ctx ro p R s m args meth c own ini cc nL D cA ad n0 mcF msF A) : ab_G ro p l e R s m args below meth c own ini cc nL D cA ad n0 mcF msF A Q (.new ix) := by
  intro tgt pc L st w a b ps pc' L' st' w' a' b' len hdg hlen htg h hps hL hw ha hb kk ls H locs hl hP hS
  obtain ⟨hx, hbc, hml, hown, hts, hini, hK, hinj, hAd, hnew, hA, hR, hbig⟩ := K
  have hlen := hlen.resolve_left (by simp [ab_len])
  simp only [ab_len] at hlen
  subst hlen
  simp only [ab_nx] at h
  split at h
  · rename_i ci hq
    cases h
    obtain ⟨C, T, N, hc, hlk⟩ := ab_n_get hq
    obtain ⟨c1, c2, c3, c4, c5, c6, c7, c8, c9⟩ := ab_cls hc
    have hlo := ab_lo hnew hw (by omega) hP hS
    refine ab_size hlo fun hsz => ?_
    have hadw : ad w.length = H.size := by rw [hw, hnew a (by omega), hsz]
    have hKn := hK.1.1 ci _ hc
    refine W.newcK hx hbc hown (hts _ hlk) (hts _ c6) (hts _ c7) rfl hdg (by omega) (by omega) hKn.2.1 rfl fun H1 kC hkC e1 z1 o1 => ?_
    have hk : ∀ (k : Nat) (x : Nat × va_E), (ab_rl ad cA w)[k]? = some x → H1[x.1]? = H[x.1]? := fun k x hx => o1 x.1 ((hP k x hx).lt)
    rw [← c5, ← hadw]
    refine kk ls H1 locs hl ?_ ⟨Nat.le_trans hS.1 (by omega), fun x h1 h2 => (o1 x (Nat.lt_of_lt_of_le h1 hS.1)).trans (hS.2.1 x h1 h2), hS.2.2⟩
    rw [ab_rl_app]
    refine (hP.kept hk).app (fun k x hx => ?_)
    have hz : k < 1 := (List.getElem?_eq_some_iff.mp hx).1
    rw [show k = 0 by omega] at hx
    cases hx
    rw [hadw]
    refine ⟨_, hc, (u_born (ab_ty ci) hts c1 hKn hkC e1 c2).to (fun j hj => ?_)⟩
    rw [c4 j hj]
    unfold vp_V
    rw [List.getD_eq_getElem?_getD, List.getD_eq_getElem?_getD, List.getElem?_map]
    have hn : ∀ v, (ab_new ci)[j]? = some v → ab_rv ad v = v := by
      intro v hv
      have hd := c4 j hj
      unfold vp_V at hd
      rw [List.getD_eq_getElem?_getD, hv, Option.getD_some] at hd
      rw [← hd]
      cases ab_ty ci j <;> rfl
    cases hv : (ab_new ci)[j]? with
    | none => rfl
    | some v => rw [Option.map_some, Option.getD_some, Option.getD_some, hn v hv]
  · cases h
theorem ab_g_newarray (t : ArrayType) (K : ab_Ctx ro p R s m args meth c own ini cc nL D cA ad n0 mcF msF A) : ab_G ro p l e R s m args below meth c own ini cc nL D cA ad n0 mcF msF A Q (.newarray t) := by
  intro tgt pc L st w a b ps pc' L' st' w' a' b' len hdg hlen htg h hps hL hw ha hb kk ls H locs hl hP hS
  obtain ⟨hx, hbc, hml, hown, hts, hini, hK, hinj, hAd, hnew, hA, hR, hbig⟩ := K
  have hlen := hlen.resolve_left (by simp [ab_len])
  simp only [ab_len] at hlen
  subst hlen
  simp only [ab_nx] at h
  split at h
  · rename_i n r
    split at h
    · rename_i k z hz
      cases h
      obtain ⟨g1, g2, -⟩ := hps
      have hlo := ab_lo hnew hw (by omega) hP hS
      refine ab_size hlo fun hsz => ?_
      have hadw : ad w.length = H.size := by rw [hw, hnew a (by omega), hsz]
      have key : ∀ ty : FieldType, newarray.typeOf t = ty → Cond.arrayClass ty ∈ ab_ws → componentBytes ty ≤ 8 → (∀ cA0 : ClassId, s.vm.findClass ("[" ++ ty.toString) = some cA0 → cA0 = cA k) → (∀ cB : ClassId, vp_cell cB (n.toNatClampNeg, z) = arrV cB n.toNatClampNeg (fun _ => defaultValue ty)) → ab_rx ad (n.toNatClampNeg, z) = (n.toNatClampNeg, z) → W p l e R s m args below meth c H locs a b Q (F0 m pc ls ((.int n :: r).map (ab_rv ad))) := by
        intro ty hty hac hby hcl hcell hrx
        subst hty
        refine va_newaK hx hbc (hts _ hac) rfl hdg rfl g1 rfl (by
          have := Nat.mul_le_mul g2 hby
          omega) (by omega) (by omega) rfl fun H1 cA1 e1 z1 o1 hAr hNm => ?_
        have hk : ∀ (k : Nat) (x : Nat × va_E), (ab_rl ad cA w)[k]? = some x → H1[x.1]? = H[x.1]? := fun k x hx => o1 x.1 ((hP k x hx).lt)
        rw [← hadw]
        refine kk ls H1 locs hl ?_ ⟨Nat.le_trans hS.1 (by omega), fun x h1 h2 => (o1 x (Nat.lt_of_lt_of_le h1 hS.1)).trans (hS.2.1 x h1 h2), hS.2.2⟩
        rw [ab_rl_app]
        refine (hP.kept hk).app (fun k' x hx => ?_)
        have hz : k' < 1 := (List.getElem?_eq_some_iff.mp hx).1
        rw [show k' = 0 by omega] at hx
        cases hx
        have e2 := hcl cA1 hNm
        show H1[ad w.length]? = some (vp_cell (cA k) (ab_rx ad (n.toNatClampNeg, z)))
        rw [hrx, hcell, hadw, e1, e2]
      unfold ab_zero at hz
      split at hz
      · cases hz
        exact key .int rfl ab_w_aint (by decide) (fun cB hB => Option.some.inj (hB.symm.trans ((hK.1.2 0 _ rfl).2))) (fun _ => rfl) rfl
      · cases hz
        exact key .byte rfl ab_w_abyte (by decide) (fun cB hB => Option.some.inj (hB.symm.trans ((hK.1.2 1 _ rfl).2))) (fun _ => rfl) rfl
      · cases hz
        exact key .long rfl ab_w_along (by decide) (fun cB hB => Option.some.inj (hB.symm.trans ((hK.1.2 2 _ rfl).2))) (fun _ => rfl) rfl
      · cases hz
        exact key .boolean rfl ab_w_aboolean (by decide) (fun cB hB => Option.some.inj (hB.symm.trans ((hK.1.2 3 _ rfl).2))) (fun _ => rfl) rfl
      · cases hz
    · cases h
  · cases h
theorem ab_g_anewarray (ix : Nat) (K : ab_Ctx ro p R s m args meth c own ini cc nL D cA ad n0 mcF msF A) : ab_G ro p l e R s m args below meth c own ini cc nL D cA ad n0 mcF msF A Q (.anewarray ix) := by
  intro tgt pc L st w a b ps pc' L' st' w' a' b' len hdg hlen htg h hps hL hw ha hb kk ls H locs hl hP hS
  obtain ⟨hx, hbc, hml, hown, hts, hini, hK, hinj, hAd, hnew, hA, hR, hbig⟩ := K
  have hlen := hlen.resolve_left (by simp [ab_len])
  simp only [ab_len] at hlen
  subst hlen
  simp only [ab_nx] at h
  split at h
  · rename_i n r
    split at h
    · rename_i k hq
      cases h
      obtain ⟨g1, g2, -⟩ := hps
      have hlo := ab_lo hnew hw (by omega) hP hS
      refine ab_size hlo fun hsz => ?_
      have hadw : ad w.length = H.size := by rw [hw, hnew a (by omega), hsz]
      have key : ∀ C : String, Cond.classLink (ab_cn own) ix C ∈ ab_ws → va_AO C s → va_RA s (cA k) (.object C) → W p l e R s m args below meth c H locs a b Q (F0 m pc ls ((.int n :: r).map (ab_rv ad))) := by
        intro C hlk hao hra
        refine W.anew hx hbc hown (hts _ hlk) (va_AO.use hao) rfl hdg rfl g1 (by omega) (by omega) (by omega) fun cA1 kA comp f1 f2 f3 f4 => ?_
        generalize hH1 : H.push ({ cls := cA1, slots := Array.replicate n.toNatClampNeg .null, vm := .none } : Cell) = H1
        have z1 : H1.size = H.size + 1 := by rw [← hH1, Array.size_push]
        have e1 : H1[H.size]? = some (arrV cA1 n.toNatClampNeg (fun _ => .null)) := by rw [← hH1, Array.getElem?_push_size, ← arrV_new]
        have o1 : ∀ q : Nat, q < H.size → H1[q]? = H[q]? := fun q hq => by rw [← hH1, Array.getElem?_push, if_neg (Nat.ne_of_lt hq)]
        have hk : ∀ (k : Nat) (x : Nat × va_E), (ab_rl ad cA w)[k]? = some x → H1[x.1]? = H[x.1]? := fun k x hx => o1 x.1 ((hP k x hx).lt)
        obtain ⟨kA2, comp2, r1, r2, r3, r4⟩ := hra
        have e2 : cA1 = cA k := Option.some.inj (f1.symm.trans r4)
        rw [← hadw]
        refine kk ls H1 locs hl ?_ ⟨Nat.le_trans hS.1 (by omega), fun x h1 h2 => (o1 x (Nat.lt_of_lt_of_le h1 hS.1)).trans (hS.2.1 x h1 h2), hS.2.2⟩
        rw [ab_rl_app]
        refine (hP.kept hk).app (fun k' x hx => ?_)
        have hz : k' < 1 := (List.getElem?_eq_some_iff.mp hx).1
        rw [show k' = 0 by omega] at hx
        cases hx
        show H1[ad w.length]? = some (vp_cell (cA k) _)
        rw [hadw, e1, e2]
        rfl
      rcases ab_a_get hq with ⟨e1, h2⟩ | ⟨e1, h2⟩
      · subst e1
        exact key RX1 h2 hK.2.2.1.1 ((hK.1.2 4 _ rfl).2)
      · subst e1
        exact key RX7 h2 hK.2.2.1.2 ((hK.1.2 5 _ rfl).2)
    · cases h
  · cases h
theorem ab_g_invokestatic (ix : Nat) (K : ab_Ctx ro p R s m args meth c own ini cc nL D cA ad n0 mcF msF A) : ab_G ro p l e R s m args below meth c own ini cc nL D cA ad n0 mcF msF A Q (.invokestatic ix) := by
  intro tgt pc L st w a b ps pc' L' st' w' a' b' len hdg hlen htg h hps hL hw ha hb kk ls H locs hl hP hS
  obtain ⟨hx, hbc, hml, hown, hts, hini, hK, hinj, hAd, hnew, hA, hR, hbig⟩ := K
  have hlen := hlen.resolve_left (by simp [ab_len])
  simp only [ab_len] at hlen
  subst hlen
  simp only [ab_nx] at h
  split at h
  · rename_i y x r hq
    cases hb1 : Nat.ble (ab_sum r) 8 with
    | false => rw [hb1] at h; cases h
    | true =>
      rw [hb1, cond_true] at h
      cases h
      have hr : ab_sum r ≤ 8 := Nat.le_of_ble_eq_true hb1
      obtain ⟨-, hlk⟩ := ab_p_get hq
      exact va_mmin hx hbc (hml.trans hl.1.symm) hown (hts _ hlk) (hts _ ab_w_min.1) (hts _ ab_w_math) (hts _ ab_w_min.2) (by omega) (by rw [ab_sumMap]; omega) (by omega) (by omega) hdg (kk _ _ _ hl hP hS)
  · rename_i y x r hq
    cases hb1 : Nat.ble (ab_sum r) 8 with
    | false => rw [hb1] at h; cases h
    | true =>
      rw [hb1, cond_true] at h
      cases h
      have hr : ab_sum r ≤ 8 := Nat.le_of_ble_eq_true hb1
      obtain ⟨-, hlk⟩ := ab_p_get hq
      exact va_mmax hx hbc (hml.trans hl.1.symm) hown (hts _ hlk) (hts _ ab_w_max.1) (hts _ ab_w_math) (hts _ ab_w_max.2) (by omega) (by rw [ab_sumMap]; omega) (by omega) (by omega) hdg (kk _ _ _ hl hP hS)
  · rename_i x r hq
    cases hb1 : Nat.ble (ab_sum r) 8 with
    | false => rw [hb1] at h; cases h
    | true =>
      rw [hb1, cond_true] at h
      cases h
      have hr : ab_sum r ≤ 8 := Nat.le_of_ble_eq_true hb1
      obtain ⟨-, hlk⟩ := ab_p_get hq
      exact va_mabs hx hbc (hml.trans hl.1.symm) hown (hts _ hlk) (hts _ ab_w_abs.1) (hts _ ab_w_math) (hts _ ab_w_abs.2) (by omega) (by rw [ab_sumMap]; omega) (by omega) (by omega) hdg (kk _ _ _ hl hP hS)
  · rename_i n dp o1 sp o0 r hq
    split at h
    · rename_i n0' f n1 g he0 he1
      cases hb1 : Nat.ble (ab_sum r) 8 with
      | false => rw [hb1] at h; cases h
      | true =>
        rw [hb1, cond_true] at h
        cases h
        have hr : ab_sum st' ≤ 8 := Nat.le_of_ble_eq_true hb1
        obtain ⟨-, hlk⟩ := ab_p_get hq
        obtain ⟨p1, p2, p3, p4, p5, -⟩ := hps
        have hD := ab_D (cA := cA) (w := w) hinj hAd (by omega)
        refine va_copyi hx hbc (hml.trans hl.1.symm) hown (hts _ hlk) (hts _ ab_w_copy.1) (hts _ ab_w_copy.2.1) (hts _ ab_w_copy.2.2) hK.1 hP hD hS o0 o1 0 0 (ty := .int) (ab_rl_at he0) (ab_rl_at he1) rfl rfl rfl p1 p2 p3 p4 p5 (fun _ _ => rfl) (by omega) (by rw [ab_sumMap]; have hnf : nativeFrameWords "java/lang/System" "arraycopy" 5 ≤ 80 := (by decide); omega) hdg (fun H1 locs1 g1 g2 g3 => kk ls H1 locs1 hl ?_ g3)
        rw [ab_rl_set]
        exact g1
    · cases h
  · cases h
theorem ab_g_invokevirtual (ix : Nat) (K : ab_Ctx ro p R s m args meth c own ini cc nL D cA ad n0 mcF msF A) : ab_G ro p l e R s m args below meth c own ini cc nL D cA ad n0 mcF msF A Q (.invokevirtual ix) := by
  intro tgt pc L st w a b ps pc' L' st' w' a' b' len hdg hlen htg h hps hL hw ha hb kk ls H locs hl hP hS
  obtain ⟨hx, hbc, hml, hown, hts, hini, hK, hinj, hAd, hnew, hA, hR, hbig⟩ := K
  have hlen := hlen.resolve_left (by simp [ab_len])
  simp only [ab_len] at hlen
  subst hlen
  simp only [ab_nx] at h
  split at h
  · rename_i o r hq
    split at h
    · rename_i t ht
      cases hb1 : Nat.ble (ab_sum r) 8 with
      | false => rw [hb1] at h; cases h
      | true =>
        rw [hb1, cond_true] at h
        cases h
        have hr : ab_sum r ≤ 8 := Nat.le_of_ble_eq_true hb1
        obtain ⟨rfl, hv⟩ := ab_v_get hq
        obtain ⟨rfl, -⟩ := hv.resolve_right (fun z => absurd z.2 (by decide))
        have t1 := ab_tx_get ht
        have hSt := hK.2.2.2.1.2.2 _ t1
        dsimp only at hSt
        exact js_len_ok hx hbc hml hown hts hl.1 hK.2.2.2.1.2.1 hSt hS (by rw [ab_sumMap]; omega) (by omega) (by omega) ⟨by omega, by omega⟩ hdg (kk _ _ _ hl hP hS)
    · cases h
  · rename_i i o r hq
    split at h
    · rename_i t ht
      cases hb1 : Nat.ble (ab_sum r) 8 with
      | false => rw [hb1] at h; cases h
      | true =>
        rw [hb1, cond_true] at h
        cases h
        have hr : ab_sum r ≤ 8 := Nat.le_of_ble_eq_true hb1
        obtain ⟨rfl, hv⟩ := ab_v_get hq
        obtain ⟨rfl, -⟩ := hv.resolve_left (fun z => absurd z.2 (by decide))
        have t1 := ab_tx_get ht
        have hSt := hK.2.2.2.1.2.2 _ t1
        dsimp only at hSt
        exact js_chr_ok hx hbc hml hown hts hl.1 hK.2.2.2.1.2.1 hSt (js_nar _ t1) hS hps.1 (by rw [ab_sumMap]; omega) (by omega) (by omega) ⟨by omega, by omega⟩ hdg (kk _ _ _ hl hP hS)
    · cases h
  · cases h
theorem ab_g_invokespecial (ix : Nat) (K : ab_Ctx ro p R s m args meth c own ini cc nL D cA ad n0 mcF msF A) : ab_G ro p l e R s m args below meth c own ini cc nL D cA ad n0 mcF msF A Q (.invokespecial ix) := by
  intro tgt pc L st w a b ps pc' L' st' w' a' b' len hdg hlen htg h hps hL hw ha hb kk ls H locs hl hP hS
  obtain ⟨hx, hbc, hml, hown, hts, hini, hK, hinj, hAd, hnew, hA, hR, hbig⟩ := K
  have hlen := hlen.resolve_left (by simp [ab_len])
  simp only [ab_len] at hlen
  subst hlen
  simp only [ab_nx] at h
  split at h
  · rename_i u q r hq
    cases hb1 : Nat.ble (ab_sum r) 8 with
    | false => rw [hb1] at h; cases h
    | true =>
      rw [hb1, cond_true] at h
      cases h
      have hr : ab_sum st' ≤ 8 := Nat.le_of_ble_eq_true hb1
      have hlk := ab_o_get hq
      have hrm : 2 * (F0 m pc ls ((.ref q :: st').map (ab_rv ad))).monitorRoom + ((st'.map (ab_rv ad)).map fun v => v.category).sum ≤ 8 := lv_room (by rw [ab_sumMap]; exact hr)
      exact W.objInit hx hbc hown (hts _ hlk) (hts _ ab_w_obj.1) (hts _ ab_w_obj.2) rfl (hl.1.trans hml.symm) rfl hdg (by omega) (by omega) (kk _ _ _ hl hP hS)
  · cases h
end AbSnd2
