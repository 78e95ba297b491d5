section AbSnd
variable {ro : ab_R} {p : Program} {l : Launch} {e : Env} {R : Room} {s : State} {m : MethodId} {args : Array Value} {below : List Frame} {meth : Method} {c : Code} {own : Nat} {ini : Bool} {cc : ByteArray} {nL : Nat} {D : va_G} {cA : Nat → ClassId} {ad : Nat → Nat} {n0 mcF msF : Nat} {A : Nat → Prop} {Q : State → Prop}
theorem ab_g_iconst (n : Int) (K : ab_Ctx ro p R s m args meth c own ini cc nL D cA ad n0 mcF msF A) : ab_G ro p l e R s m args below meth c own ini cc nL D cA ad n0 mcF msF A Q (.iconst n) := by
  intro tgt pc L st w a b ps pc' L' st' w' a' b' len hdg hlen htg h hps hL hw ha hb kk ls H locs hl hP hS
  obtain ⟨hx, hbc, hml, hown, hts, hini, hK, hinj, hAd, hnew, hA, hR, hbig⟩ := K
  have hlen := hlen.resolve_left (by simp [ab_len])
  simp only [ab_len] at hlen
  subst hlen
  simp only [ab_nx] at h
  cases h
  exact lv_iconst hx hbc hdg rfl (kk _ _ _ hl hP hS)
theorem ab_g_bipush (n : Int) (K : ab_Ctx ro p R s m args meth c own ini cc nL D cA ad n0 mcF msF A) : ab_G ro p l e R s m args below meth c own ini cc nL D cA ad n0 mcF msF A Q (.bipush n) := by
  intro tgt pc L st w a b ps pc' L' st' w' a' b' len hdg hlen htg h hps hL hw ha hb kk ls H locs hl hP hS
  obtain ⟨hx, hbc, hml, hown, hts, hini, hK, hinj, hAd, hnew, hA, hR, hbig⟩ := K
  have hlen := hlen.resolve_left (by simp [ab_len])
  simp only [ab_len] at hlen
  subst hlen
  simp only [ab_nx] at h
  cases h
  exact lv_bipush hx hbc hdg rfl (kk _ _ _ hl hP hS)
theorem ab_g_sipush (n : Int) (K : ab_Ctx ro p R s m args meth c own ini cc nL D cA ad n0 mcF msF A) : ab_G ro p l e R s m args below meth c own ini cc nL D cA ad n0 mcF msF A Q (.sipush n) := by
  intro tgt pc L st w a b ps pc' L' st' w' a' b' len hdg hlen htg h hps hL hw ha hb kk ls H locs hl hP hS
  obtain ⟨hx, hbc, hml, hown, hts, hini, hK, hinj, hAd, hnew, hA, hR, hbig⟩ := K
  have hlen := hlen.resolve_left (by simp [ab_len])
  simp only [ab_len] at hlen
  subst hlen
  simp only [ab_nx] at h
  cases h
  exact lv_sipush hx hbc hdg rfl (kk _ _ _ hl hP hS)
theorem ab_g_lconst (n : Fin 2) (K : ab_Ctx ro p R s m args meth c own ini cc nL D cA ad n0 mcF msF A) : ab_G ro p l e R s m args below meth c own ini cc nL D cA ad n0 mcF msF A Q (.lconst n) := by
  intro tgt pc L st w a b ps pc' L' st' w' a' b' len hdg hlen htg h hps hL hw ha hb kk ls H locs hl hP hS
  obtain ⟨hx, hbc, hml, hown, hts, hini, hK, hinj, hAd, hnew, hA, hR, hbig⟩ := K
  have hlen := hlen.resolve_left (by simp [ab_len])
  simp only [ab_len] at hlen
  subst hlen
  simp only [ab_nx] at h
  cases h
  exact lv_lconst hx hbc hdg rfl (kk _ _ _ hl hP hS)
theorem ab_g_aconst_null (K : ab_Ctx ro p R s m args meth c own ini cc nL D cA ad n0 mcF msF A) : ab_G ro p l e R s m args below meth c own ini cc nL D cA ad n0 mcF msF A Q (.aconst_null) := by
  intro tgt pc L st w a b ps pc' L' st' w' a' b' len hdg hlen htg h hps hL hw ha hb kk ls H locs hl hP hS
  obtain ⟨hx, hbc, hml, hown, hts, hini, hK, hinj, hAd, hnew, hA, hR, hbig⟩ := K
  have hlen := hlen.resolve_left (by simp [ab_len])
  simp only [ab_len] at hlen
  subst hlen
  simp only [ab_nx] at h
  cases h
  exact lv_null hx hbc hdg (kk _ _ _ hl hP hS)
theorem ab_g_iload (k : Nat) (K : ab_Ctx ro p R s m args meth c own ini cc nL D cA ad n0 mcF msF A) : ab_G ro p l e R s m args below meth c own ini cc nL D cA ad n0 mcF msF A Q (.iload k) := by
  intro tgt pc L st w a b ps pc' L' st' w' a' b' len hdg hlen htg h hps hL hw ha hb kk ls H locs hl hP hS
  obtain ⟨hx, hbc, hml, hown, hts, hini, hK, hinj, hAd, hnew, hA, hR, hbig⟩ := K
  have hlen := hlen.resolve_left (by simp [ab_len])
  simp only [ab_len] at hlen
  subst hlen
  simp only [ab_nx] at h
  split at h
  · rename_i hq
    cases h
    exact lv_iload hx hbc hdg (ab_fl_ld hl hq) (kk _ _ _ hl hP hS)
  · cases h
theorem ab_g_iload_n (k : Fin 4) (K : ab_Ctx ro p R s m args meth c own ini cc nL D cA ad n0 mcF msF A) : ab_G ro p l e R s m args below meth c own ini cc nL D cA ad n0 mcF msF A Q (.iload_n k) := by
  intro tgt pc L st w a b ps pc' L' st' w' a' b' len hdg hlen htg h hps hL hw ha hb kk ls H locs hl hP hS
  obtain ⟨hx, hbc, hml, hown, hts, hini, hK, hinj, hAd, hnew, hA, hR, hbig⟩ := K
  have hlen := hlen.resolve_left (by simp [ab_len])
  simp only [ab_len] at hlen
  subst hlen
  simp only [ab_nx] at h
  split at h
  · rename_i hq
    cases h
    exact lv_iload_n hx hbc hdg rfl (ab_fl_ld hl hq) (kk _ _ _ hl hP hS)
  · cases h
theorem ab_g_lload (k : Nat) (K : ab_Ctx ro p R s m args meth c own ini cc nL D cA ad n0 mcF msF A) : ab_G ro p l e R s m args below meth c own ini cc nL D cA ad n0 mcF msF A Q (.lload k) := by
  intro tgt pc L st w a b ps pc' L' st' w' a' b' len hdg hlen htg h hps hL hw ha hb kk ls H locs hl hP hS
  obtain ⟨hx, hbc, hml, hown, hts, hini, hK, hinj, hAd, hnew, hA, hR, hbig⟩ := K
  have hlen := hlen.resolve_left (by simp [ab_len])
  simp only [ab_len] at hlen
  subst hlen
  simp only [ab_nx] at h
  split at h
  · rename_i hq
    cases h
    exact lv_lload hx hbc hdg (ab_fl_ld hl hq) (kk _ _ _ hl hP hS)
  · cases h
theorem ab_g_lload_n (k : Fin 4) (K : ab_Ctx ro p R s m args meth c own ini cc nL D cA ad n0 mcF msF A) : ab_G ro p l e R s m args below meth c own ini cc nL D cA ad n0 mcF msF A Q (.lload_n k) := by
  intro tgt pc L st w a b ps pc' L' st' w' a' b' len hdg hlen htg h hps hL hw ha hb kk ls H locs hl hP hS
  obtain ⟨hx, hbc, hml, hown, hts, hini, hK, hinj, hAd, hnew, hA, hR, hbig⟩ := K
  have hlen := hlen.resolve_left (by simp [ab_len])
  simp only [ab_len] at hlen
  subst hlen
  simp only [ab_nx] at h
  split at h
  · rename_i hq
    cases h
    exact lv_lload_n hx hbc hdg rfl (ab_fl_ld hl hq) (kk _ _ _ hl hP hS)
  · cases h
theorem ab_g_aload (k : Nat) (K : ab_Ctx ro p R s m args meth c own ini cc nL D cA ad n0 mcF msF A) : ab_G ro p l e R s m args below meth c own ini cc nL D cA ad n0 mcF msF A Q (.aload k) := by
  intro tgt pc L st w a b ps pc' L' st' w' a' b' len hdg hlen htg h hps hL hw ha hb kk ls H locs hl hP hS
  obtain ⟨hx, hbc, hml, hown, hts, hini, hK, hinj, hAd, hnew, hA, hR, hbig⟩ := K
  have hlen := hlen.resolve_left (by simp [ab_len])
  simp only [ab_len] at hlen
  subst hlen
  simp only [ab_nx] at h
  split at h
  · rename_i hq
    cases h
    exact lv_aload hx hbc hdg (ab_fl_ld hl hq) (kk _ _ _ hl hP hS)
  · rename_i hq
    cases h
    exact lv_aloadN hx hbc hdg (ab_fl_ld hl hq) (kk _ _ _ hl hP hS)
  · cases h
theorem ab_g_aload_n (k : Fin 4) (K : ab_Ctx ro p R s m args meth c own ini cc nL D cA ad n0 mcF msF A) : ab_G ro p l e R s m args below meth c own ini cc nL D cA ad n0 mcF msF A Q (.aload_n k) := by
  intro tgt pc L st w a b ps pc' L' st' w' a' b' len hdg hlen htg h hps hL hw ha hb kk ls H locs hl hP hS
  obtain ⟨hx, hbc, hml, hown, hts, hini, hK, hinj, hAd, hnew, hA, hR, hbig⟩ := K
  have hlen := hlen.resolve_left (by simp [ab_len])
  simp only [ab_len] at hlen
  subst hlen
  simp only [ab_nx] at h
  split at h
  · rename_i hq
    cases h
    exact lv_aload_n hx hbc hdg rfl (ab_fl_ld hl hq) (kk _ _ _ hl hP hS)
  · rename_i hq
    cases h
    exact lv_aload_nN hx hbc hdg rfl (ab_fl_ld hl hq) (kk _ _ _ hl hP hS)
  · cases h
theorem ab_g_istore (k : Nat) (K : ab_Ctx ro p R s m args meth c own ini cc nL D cA ad n0 mcF msF A) : ab_G ro p l e R s m args below meth c own ini cc nL D cA ad n0 mcF msF A Q (.istore k) := by
  intro tgt pc L st w a b ps pc' L' st' w' a' b' len hdg hlen htg h hps hL hw ha hb kk ls H locs hl hP hS
  obtain ⟨hx, hbc, hml, hown, hts, hini, hK, hinj, hAd, hnew, hA, hR, hbig⟩ := K
  have hlen := hlen.resolve_left (by simp [ab_len])
  simp only [ab_len] at hlen
  subst hlen
  simp only [ab_nx] at h
  split at h
  · split at h
    · rename_i hq
      cases h
      exact lv_istore hx hbc hdg hl (by omega) rfl (fun ls' hl' => kk ls' H locs (ab_fl_st1 hl') hP hS)
    · cases h
  · cases h
theorem ab_g_istore_n (k : Fin 4) (K : ab_Ctx ro p R s m args meth c own ini cc nL D cA ad n0 mcF msF A) : ab_G ro p l e R s m args below meth c own ini cc nL D cA ad n0 mcF msF A Q (.istore_n k) := by
  intro tgt pc L st w a b ps pc' L' st' w' a' b' len hdg hlen htg h hps hL hw ha hb kk ls H locs hl hP hS
  obtain ⟨hx, hbc, hml, hown, hts, hini, hK, hinj, hAd, hnew, hA, hR, hbig⟩ := K
  have hlen := hlen.resolve_left (by simp [ab_len])
  simp only [ab_len] at hlen
  subst hlen
  simp only [ab_nx] at h
  split at h
  · split at h
    · rename_i hq
      cases h
      exact lv_istore_n hx hbc hdg rfl hl (by omega) rfl (fun ls' hl' => kk ls' H locs (ab_fl_st1 hl') hP hS)
    · cases h
  · cases h
theorem ab_g_lstore (k : Nat) (K : ab_Ctx ro p R s m args meth c own ini cc nL D cA ad n0 mcF msF A) : ab_G ro p l e R s m args below meth c own ini cc nL D cA ad n0 mcF msF A Q (.lstore k) := by
  intro tgt pc L st w a b ps pc' L' st' w' a' b' len hdg hlen htg h hps hL hw ha hb kk ls H locs hl hP hS
  obtain ⟨hx, hbc, hml, hown, hts, hini, hK, hinj, hAd, hnew, hA, hR, hbig⟩ := K
  have hlen := hlen.resolve_left (by simp [ab_len])
  simp only [ab_len] at hlen
  subst hlen
  simp only [ab_nx] at h
  split at h
  · split at h
    · rename_i hq
      cases h
      exact lv_lstore hx hbc hdg hl (by omega) rfl (fun ls' hl' => kk ls' H locs (ab_fl_st2 hl') hP hS)
    · cases h
  · cases h
theorem ab_g_lstore_n (k : Fin 4) (K : ab_Ctx ro p R s m args meth c own ini cc nL D cA ad n0 mcF msF A) : ab_G ro p l e R s m args below meth c own ini cc nL D cA ad n0 mcF msF A Q (.lstore_n k) := by
  intro tgt pc L st w a b ps pc' L' st' w' a' b' len hdg hlen htg h hps hL hw ha hb kk ls H locs hl hP hS
  obtain ⟨hx, hbc, hml, hown, hts, hini, hK, hinj, hAd, hnew, hA, hR, hbig⟩ := K
  have hlen := hlen.resolve_left (by simp [ab_len])
  simp only [ab_len] at hlen
  subst hlen
  simp only [ab_nx] at h
  split at h
  · split at h
    · rename_i hq
      cases h
      exact lv_lstore_n hx hbc hdg rfl hl (by omega) rfl (fun ls' hl' => kk ls' H locs (ab_fl_st2 hl') hP hS)
    · cases h
  · cases h
theorem ab_g_astore (k : Nat) (K : ab_Ctx ro p R s m args meth c own ini cc nL D cA ad n0 mcF msF A) : ab_G ro p l e R s m args below meth c own ini cc nL D cA ad n0 mcF msF A Q (.astore k) := by
  intro tgt pc L st w a b ps pc' L' st' w' a' b' len hdg hlen htg h hps hL hw ha hb kk ls H locs hl hP hS
  obtain ⟨hx, hbc, hml, hown, hts, hini, hK, hinj, hAd, hnew, hA, hR, hbig⟩ := K
  have hlen := hlen.resolve_left (by simp [ab_len])
  simp only [ab_len] at hlen
  subst hlen
  simp only [ab_nx] at h
  split at h
  · split at h
    · rename_i hq
      cases h
      exact lv_astore hx hbc hdg hl (by omega) rfl (fun ls' hl' => kk ls' H locs (ab_fl_st1 hl') hP hS)
    · cases h
  · split at h
    · rename_i hq
      cases h
      exact lv_astoreN hx hbc hdg hl (by omega) rfl (fun ls' hl' => kk ls' H locs (ab_fl_st1 hl') hP hS)
    · cases h
  · cases h
theorem ab_g_astore_n (k : Fin 4) (K : ab_Ctx ro p R s m args meth c own ini cc nL D cA ad n0 mcF msF A) : ab_G ro p l e R s m args below meth c own ini cc nL D cA ad n0 mcF msF A Q (.astore_n k) := by
  intro tgt pc L st w a b ps pc' L' st' w' a' b' len hdg hlen htg h hps hL hw ha hb kk ls H locs hl hP hS
  obtain ⟨hx, hbc, hml, hown, hts, hini, hK, hinj, hAd, hnew, hA, hR, hbig⟩ := K
  have hlen := hlen.resolve_left (by simp [ab_len])
  simp only [ab_len] at hlen
  subst hlen
  simp only [ab_nx] at h
  split at h
  · split at h
    · rename_i hq
      cases h
      exact lv_astore_n hx hbc hdg rfl hl (by omega) rfl (fun ls' hl' => kk ls' H locs (ab_fl_st1 hl') hP hS)
    · cases h
  · split at h
    · rename_i hq
      cases h
      exact lv_astore_nN hx hbc hdg rfl hl (by omega) rfl (fun ls' hl' => kk ls' H locs (ab_fl_st1 hl') hP hS)
    · cases h
  · cases h
theorem ab_g_iinc (k : Nat) (n : Int) (K : ab_Ctx ro p R s m args meth c own ini cc nL D cA ad n0 mcF msF A) : ab_G ro p l e R s m args below meth c own ini cc nL D cA ad n0 mcF msF A Q (.iinc k n) := by
  intro tgt pc L st w a b ps pc' L' st' w' a' b' len hdg hlen htg h hps hL hw ha hb kk ls H locs hl hP hS
  obtain ⟨hx, hbc, hml, hown, hts, hini, hK, hinj, hAd, hnew, hA, hR, hbig⟩ := K
  have hlen := hlen.resolve_left (by simp [ab_len])
  simp only [ab_len] at hlen
  subst hlen
  simp only [ab_nx] at h
  split at h
  · rename_i x hq
    split at h
    · rename_i hk
      cases h
      obtain ⟨q, hq1⟩ := List.getElem?_of_mem (ab_fl_mem (ad := ad) (L := L) (q := (k, ab_rv ad (.int x))) |>.mpr ⟨.int x, ab_ld_get hq, rfl⟩)
      exact lv_iinc hx hbc hdg hl hq1 rfl (by omega) rfl (fun ls' hl' => kk ls' H locs (ab_fl_st1 hl') hP hS)
    · cases h
  · cases h
theorem ab_g_dup (K : ab_Ctx ro p R s m args meth c own ini cc nL D cA ad n0 mcF msF A) : ab_G ro p l e R s m args below meth c own ini cc nL D cA ad n0 mcF msF A Q (.dup) := by
  intro tgt pc L st w a b ps pc' L' st' w' a' b' len hdg hlen htg h hps hL hw ha hb kk ls H locs hl hP hS
  obtain ⟨hx, hbc, hml, hown, hts, hini, hK, hinj, hAd, hnew, hA, hR, hbig⟩ := K
  have hlen := hlen.resolve_left (by simp [ab_len])
  simp only [ab_len] at hlen
  subst hlen
  simp only [ab_nx] at h
  split at h
  · cases h
    exact lv_dup hx hbc hdg rfl (kk _ _ _ hl hP hS)
  · cases h
    exact lv_dup hx hbc hdg rfl (kk _ _ _ hl hP hS)
  · cases h
theorem ab_g_dup2 (K : ab_Ctx ro p R s m args meth c own ini cc nL D cA ad n0 mcF msF A) : ab_G ro p l e R s m args below meth c own ini cc nL D cA ad n0 mcF msF A Q (.dup2) := by
  intro tgt pc L st w a b ps pc' L' st' w' a' b' len hdg hlen htg h hps hL hw ha hb kk ls H locs hl hP hS
  obtain ⟨hx, hbc, hml, hown, hts, hini, hK, hinj, hAd, hnew, hA, hR, hbig⟩ := K
  have hlen := hlen.resolve_left (by simp [ab_len])
  simp only [ab_len] at hlen
  subst hlen
  simp only [ab_nx] at h
  split at h
  · cases h
    exact lv_dup2_11 hx hbc hdg rfl rfl (kk _ _ _ hl hP hS)
  · cases h
    exact lv_dup2_2 hx hbc hdg rfl (kk _ _ _ hl hP hS)
  · cases h
theorem ab_g_pop2 (K : ab_Ctx ro p R s m args meth c own ini cc nL D cA ad n0 mcF msF A) : ab_G ro p l e R s m args below meth c own ini cc nL D cA ad n0 mcF msF A Q (.pop2) := by
  intro tgt pc L st w a b ps pc' L' st' w' a' b' len hdg hlen htg h hps hL hw ha hb kk ls H locs hl hP hS
  obtain ⟨hx, hbc, hml, hown, hts, hini, hK, hinj, hAd, hnew, hA, hR, hbig⟩ := K
  have hlen := hlen.resolve_left (by simp [ab_len])
  simp only [ab_len] at hlen
  subst hlen
  simp only [ab_nx] at h
  split at h
  · cases h
    exact lv_pop2_2 hx hbc hdg (va := .long _) rfl (kk _ _ _ hl hP hS)
  · cases h
theorem ab_g_pop (K : ab_Ctx ro p R s m args meth c own ini cc nL D cA ad n0 mcF msF A) : ab_G ro p l e R s m args below meth c own ini cc nL D cA ad n0 mcF msF A Q (.pop) := by
  intro tgt pc L st w a b ps pc' L' st' w' a' b' len hdg hlen htg h hps hL hw ha hb kk ls H locs hl hP hS
  obtain ⟨hx, hbc, hml, hown, hts, hini, hK, hinj, hAd, hnew, hA, hR, hbig⟩ := K
  have hlen := hlen.resolve_left (by simp [ab_len])
  simp only [ab_len] at hlen
  subst hlen
  simp only [ab_nx] at h
  split at h
  · cases h
    exact lv_pop hx hbc hdg (va := .int _) rfl (kk _ _ _ hl hP hS)
  · rename_i x r
    cases h
    exact lv_pop hx hbc hdg (va := .ref (ad x)) rfl (kk _ _ _ hl hP hS)
  · cases h
theorem ab_g_iadd (K : ab_Ctx ro p R s m args meth c own ini cc nL D cA ad n0 mcF msF A) : ab_G ro p l e R s m args below meth c own ini cc nL D cA ad n0 mcF msF A Q (.iadd) := by
  intro tgt pc L st w a b ps pc' L' st' w' a' b' len hdg hlen htg h hps hL hw ha hb kk ls H locs hl hP hS
  obtain ⟨hx, hbc, hml, hown, hts, hini, hK, hinj, hAd, hnew, hA, hR, hbig⟩ := K
  have hlen := hlen.resolve_left (by simp [ab_len])
  simp only [ab_len] at hlen
  subst hlen
  simp only [ab_nx] at h
  split at h
  · cases h
    exact lv_iadd hx hbc hdg (kk _ _ _ hl hP hS)
  · cases h
theorem ab_g_isub (K : ab_Ctx ro p R s m args meth c own ini cc nL D cA ad n0 mcF msF A) : ab_G ro p l e R s m args below meth c own ini cc nL D cA ad n0 mcF msF A Q (.isub) := by
  intro tgt pc L st w a b ps pc' L' st' w' a' b' len hdg hlen htg h hps hL hw ha hb kk ls H locs hl hP hS
  obtain ⟨hx, hbc, hml, hown, hts, hini, hK, hinj, hAd, hnew, hA, hR, hbig⟩ := K
  have hlen := hlen.resolve_left (by simp [ab_len])
  simp only [ab_len] at hlen
  subst hlen
  simp only [ab_nx] at h
  split at h
  · cases h
    exact lv_isub hx hbc hdg (kk _ _ _ hl hP hS)
  · cases h
theorem ab_g_imul (K : ab_Ctx ro p R s m args meth c own ini cc nL D cA ad n0 mcF msF A) : ab_G ro p l e R s m args below meth c own ini cc nL D cA ad n0 mcF msF A Q (.imul) := by
  intro tgt pc L st w a b ps pc' L' st' w' a' b' len hdg hlen htg h hps hL hw ha hb kk ls H locs hl hP hS
  obtain ⟨hx, hbc, hml, hown, hts, hini, hK, hinj, hAd, hnew, hA, hR, hbig⟩ := K
  have hlen := hlen.resolve_left (by simp [ab_len])
  simp only [ab_len] at hlen
  subst hlen
  simp only [ab_nx] at h
  split at h
  · cases h
    exact lv_imul hx hbc hdg (kk _ _ _ hl hP hS)
  · cases h
theorem ab_g_iand (K : ab_Ctx ro p R s m args meth c own ini cc nL D cA ad n0 mcF msF A) : ab_G ro p l e R s m args below meth c own ini cc nL D cA ad n0 mcF msF A Q (.iand) := by
  intro tgt pc L st w a b ps pc' L' st' w' a' b' len hdg hlen htg h hps hL hw ha hb kk ls H locs hl hP hS
  obtain ⟨hx, hbc, hml, hown, hts, hini, hK, hinj, hAd, hnew, hA, hR, hbig⟩ := K
  have hlen := hlen.resolve_left (by simp [ab_len])
  simp only [ab_len] at hlen
  subst hlen
  simp only [ab_nx] at h
  split at h
  · cases h
    exact lv_iand hx hbc hdg (kk _ _ _ hl hP hS)
  · cases h
theorem ab_g_ior (K : ab_Ctx ro p R s m args meth c own ini cc nL D cA ad n0 mcF msF A) : ab_G ro p l e R s m args below meth c own ini cc nL D cA ad n0 mcF msF A Q (.ior) := by
  intro tgt pc L st w a b ps pc' L' st' w' a' b' len hdg hlen htg h hps hL hw ha hb kk ls H locs hl hP hS
  obtain ⟨hx, hbc, hml, hown, hts, hini, hK, hinj, hAd, hnew, hA, hR, hbig⟩ := K
  have hlen := hlen.resolve_left (by simp [ab_len])
  simp only [ab_len] at hlen
  subst hlen
  simp only [ab_nx] at h
  split at h
  · cases h
    exact lv_ior hx hbc hdg (kk _ _ _ hl hP hS)
  · cases h
theorem ab_g_ixor (K : ab_Ctx ro p R s m args meth c own ini cc nL D cA ad n0 mcF msF A) : ab_G ro p l e R s m args below meth c own ini cc nL D cA ad n0 mcF msF A Q (.ixor) := by
  intro tgt pc L st w a b ps pc' L' st' w' a' b' len hdg hlen htg h hps hL hw ha hb kk ls H locs hl hP hS
  obtain ⟨hx, hbc, hml, hown, hts, hini, hK, hinj, hAd, hnew, hA, hR, hbig⟩ := K
  have hlen := hlen.resolve_left (by simp [ab_len])
  simp only [ab_len] at hlen
  subst hlen
  simp only [ab_nx] at h
  split at h
  · cases h
    exact lv_ixor hx hbc hdg (kk _ _ _ hl hP hS)
  · cases h
theorem ab_g_ishl (K : ab_Ctx ro p R s m args meth c own ini cc nL D cA ad n0 mcF msF A) : ab_G ro p l e R s m args below meth c own ini cc nL D cA ad n0 mcF msF A Q (.ishl) := by
  intro tgt pc L st w a b ps pc' L' st' w' a' b' len hdg hlen htg h hps hL hw ha hb kk ls H locs hl hP hS
  obtain ⟨hx, hbc, hml, hown, hts, hini, hK, hinj, hAd, hnew, hA, hR, hbig⟩ := K
  have hlen := hlen.resolve_left (by simp [ab_len])
  simp only [ab_len] at hlen
  subst hlen
  simp only [ab_nx] at h
  split at h
  · cases h
    exact lv_ishl hx hbc hdg (kk _ _ _ hl hP hS)
  · cases h
theorem ab_g_ishr (K : ab_Ctx ro p R s m args meth c own ini cc nL D cA ad n0 mcF msF A) : ab_G ro p l e R s m args below meth c own ini cc nL D cA ad n0 mcF msF A Q (.ishr) := by
  intro tgt pc L st w a b ps pc' L' st' w' a' b' len hdg hlen htg h hps hL hw ha hb kk ls H locs hl hP hS
  obtain ⟨hx, hbc, hml, hown, hts, hini, hK, hinj, hAd, hnew, hA, hR, hbig⟩ := K
  have hlen := hlen.resolve_left (by simp [ab_len])
  simp only [ab_len] at hlen
  subst hlen
  simp only [ab_nx] at h
  split at h
  · cases h
    exact lv_ishr hx hbc hdg (kk _ _ _ hl hP hS)
  · cases h
theorem ab_g_ineg (K : ab_Ctx ro p R s m args meth c own ini cc nL D cA ad n0 mcF msF A) : ab_G ro p l e R s m args below meth c own ini cc nL D cA ad n0 mcF msF A Q (.ineg) := by
  intro tgt pc L st w a b ps pc' L' st' w' a' b' len hdg hlen htg h hps hL hw ha hb kk ls H locs hl hP hS
  obtain ⟨hx, hbc, hml, hown, hts, hini, hK, hinj, hAd, hnew, hA, hR, hbig⟩ := K
  have hlen := hlen.resolve_left (by simp [ab_len])
  simp only [ab_len] at hlen
  subst hlen
  simp only [ab_nx] at h
  split at h
  · cases h
    exact lv_ineg hx hbc hdg (kk _ _ _ hl hP hS)
  · cases h
theorem ab_g_ladd (K : ab_Ctx ro p R s m args meth c own ini cc nL D cA ad n0 mcF msF A) : ab_G ro p l e R s m args below meth c own ini cc nL D cA ad n0 mcF msF A Q (.ladd) := by
  intro tgt pc L st w a b ps pc' L' st' w' a' b' len hdg hlen htg h hps hL hw ha hb kk ls H locs hl hP hS
  obtain ⟨hx, hbc, hml, hown, hts, hini, hK, hinj, hAd, hnew, hA, hR, hbig⟩ := K
  have hlen := hlen.resolve_left (by simp [ab_len])
  simp only [ab_len] at hlen
  subst hlen
  simp only [ab_nx] at h
  split at h
  · cases h
    exact lv_ladd hx hbc hdg (kk _ _ _ hl hP hS)
  · cases h
theorem ab_g_lsub (K : ab_Ctx ro p R s m args meth c own ini cc nL D cA ad n0 mcF msF A) : ab_G ro p l e R s m args below meth c own ini cc nL D cA ad n0 mcF msF A Q (.lsub) := by
  intro tgt pc L st w a b ps pc' L' st' w' a' b' len hdg hlen htg h hps hL hw ha hb kk ls H locs hl hP hS
  obtain ⟨hx, hbc, hml, hown, hts, hini, hK, hinj, hAd, hnew, hA, hR, hbig⟩ := K
  have hlen := hlen.resolve_left (by simp [ab_len])
  simp only [ab_len] at hlen
  subst hlen
  simp only [ab_nx] at h
  split at h
  · cases h
    exact lv_lsub hx hbc hdg (kk _ _ _ hl hP hS)
  · cases h
theorem ab_g_lmul (K : ab_Ctx ro p R s m args meth c own ini cc nL D cA ad n0 mcF msF A) : ab_G ro p l e R s m args below meth c own ini cc nL D cA ad n0 mcF msF A Q (.lmul) := by
  intro tgt pc L st w a b ps pc' L' st' w' a' b' len hdg hlen htg h hps hL hw ha hb kk ls H locs hl hP hS
  obtain ⟨hx, hbc, hml, hown, hts, hini, hK, hinj, hAd, hnew, hA, hR, hbig⟩ := K
  have hlen := hlen.resolve_left (by simp [ab_len])
  simp only [ab_len] at hlen
  subst hlen
  simp only [ab_nx] at h
  split at h
  · cases h
    exact lv_lmul hx hbc hdg (kk _ _ _ hl hP hS)
  · cases h
theorem ab_g_iushr (K : ab_Ctx ro p R s m args meth c own ini cc nL D cA ad n0 mcF msF A) : ab_G ro p l e R s m args below meth c own ini cc nL D cA ad n0 mcF msF A Q (.iushr) := by
  intro tgt pc L st w a b ps pc' L' st' w' a' b' len hdg hlen htg h hps hL hw ha hb kk ls H locs hl hP hS
  obtain ⟨hx, hbc, hml, hown, hts, hini, hK, hinj, hAd, hnew, hA, hR, hbig⟩ := K
  have hlen := hlen.resolve_left (by simp [ab_len])
  simp only [ab_len] at hlen
  subst hlen
  simp only [ab_nx] at h
  split at h
  · cases h
    exact lv_iushr hx hbc hdg rfl (kk _ _ _ hl hP hS)
  · cases h
theorem ab_g_i2l (K : ab_Ctx ro p R s m args meth c own ini cc nL D cA ad n0 mcF msF A) : ab_G ro p l e R s m args below meth c own ini cc nL D cA ad n0 mcF msF A Q (.i2l) := by
  intro tgt pc L st w a b ps pc' L' st' w' a' b' len hdg hlen htg h hps hL hw ha hb kk ls H locs hl hP hS
  obtain ⟨hx, hbc, hml, hown, hts, hini, hK, hinj, hAd, hnew, hA, hR, hbig⟩ := K
  have hlen := hlen.resolve_left (by simp [ab_len])
  simp only [ab_len] at hlen
  subst hlen
  simp only [ab_nx] at h
  split at h
  · cases h
    exact lv_i2l hx hbc hdg rfl (kk _ _ _ hl hP hS)
  · cases h
theorem ab_g_l2i (K : ab_Ctx ro p R s m args meth c own ini cc nL D cA ad n0 mcF msF A) : ab_G ro p l e R s m args below meth c own ini cc nL D cA ad n0 mcF msF A Q (.l2i) := by
  intro tgt pc L st w a b ps pc' L' st' w' a' b' len hdg hlen htg h hps hL hw ha hb kk ls H locs hl hP hS
  obtain ⟨hx, hbc, hml, hown, hts, hini, hK, hinj, hAd, hnew, hA, hR, hbig⟩ := K
  have hlen := hlen.resolve_left (by simp [ab_len])
  simp only [ab_len] at hlen
  subst hlen
  simp only [ab_nx] at h
  split at h
  · cases h
    exact lv_l2i hx hbc hdg rfl (kk _ _ _ hl hP hS)
  · cases h
theorem ab_g_i2b (K : ab_Ctx ro p R s m args meth c own ini cc nL D cA ad n0 mcF msF A) : ab_G ro p l e R s m args below meth c own ini cc nL D cA ad n0 mcF msF A Q (.i2b) := by
  intro tgt pc L st w a b ps pc' L' st' w' a' b' len hdg hlen htg h hps hL hw ha hb kk ls H locs hl hP hS
  obtain ⟨hx, hbc, hml, hown, hts, hini, hK, hinj, hAd, hnew, hA, hR, hbig⟩ := K
  have hlen := hlen.resolve_left (by simp [ab_len])
  simp only [ab_len] at hlen
  subst hlen
  simp only [ab_nx] at h
  split at h
  · cases h
    exact lv_i2b hx hbc hdg rfl (kk _ _ _ hl hP hS)
  · cases h
theorem ab_g_i2c (K : ab_Ctx ro p R s m args meth c own ini cc nL D cA ad n0 mcF msF A) : ab_G ro p l e R s m args below meth c own ini cc nL D cA ad n0 mcF msF A Q (.i2c) := by
  intro tgt pc L st w a b ps pc' L' st' w' a' b' len hdg hlen htg h hps hL hw ha hb kk ls H locs hl hP hS
  obtain ⟨hx, hbc, hml, hown, hts, hini, hK, hinj, hAd, hnew, hA, hR, hbig⟩ := K
  have hlen := hlen.resolve_left (by simp [ab_len])
  simp only [ab_len] at hlen
  subst hlen
  simp only [ab_nx] at h
  split at h
  · cases h
    exact lv_i2c hx hbc hdg rfl (kk _ _ _ hl hP hS)
  · cases h
theorem ab_g_idiv (K : ab_Ctx ro p R s m args meth c own ini cc nL D cA ad n0 mcF msF A) : ab_G ro p l e R s m args below meth c own ini cc nL D cA ad n0 mcF msF A Q (.idiv) := by
  intro tgt pc L st w a b ps pc' L' st' w' a' b' len hdg hlen htg h hps hL hw ha hb kk ls H locs hl hP hS
  obtain ⟨hx, hbc, hml, hown, hts, hini, hK, hinj, hAd, hnew, hA, hR, hbig⟩ := K
  have hlen := hlen.resolve_left (by simp [ab_len])
  simp only [ab_len] at hlen
  subst hlen
  simp only [ab_nx] at h
  split at h
  · cases h
    exact lv_idiv hx hbc hdg hps.1 (kk _ _ _ hl hP hS)
  · cases h
theorem ab_g_irem (K : ab_Ctx ro p R s m args meth c own ini cc nL D cA ad n0 mcF msF A) : ab_G ro p l e R s m args below meth c own ini cc nL D cA ad n0 mcF msF A Q (.irem) := by
  intro tgt pc L st w a b ps pc' L' st' w' a' b' len hdg hlen htg h hps hL hw ha hb kk ls H locs hl hP hS
  obtain ⟨hx, hbc, hml, hown, hts, hini, hK, hinj, hAd, hnew, hA, hR, hbig⟩ := K
  have hlen := hlen.resolve_left (by simp [ab_len])
  simp only [ab_len] at hlen
  subst hlen
  simp only [ab_nx] at h
  split at h
  · cases h
    exact lv_irem hx hbc hdg hps.1 (kk _ _ _ hl hP hS)
  · cases h
theorem ab_g_ldiv (K : ab_Ctx ro p R s m args meth c own ini cc nL D cA ad n0 mcF msF A) : ab_G ro p l e R s m args below meth c own ini cc nL D cA ad n0 mcF msF A Q (.ldiv) := by
  intro tgt pc L st w a b ps pc' L' st' w' a' b' len hdg hlen htg h hps hL hw ha hb kk ls H locs hl hP hS
  obtain ⟨hx, hbc, hml, hown, hts, hini, hK, hinj, hAd, hnew, hA, hR, hbig⟩ := K
  have hlen := hlen.resolve_left (by simp [ab_len])
  simp only [ab_len] at hlen
  subst hlen
  simp only [ab_nx] at h
  split at h
  · cases h
    exact lv_ldiv hx hbc hdg hps.1 (kk _ _ _ hl hP hS)
  · cases h
theorem ab_g_lrem (K : ab_Ctx ro p R s m args meth c own ini cc nL D cA ad n0 mcF msF A) : ab_G ro p l e R s m args below meth c own ini cc nL D cA ad n0 mcF msF A Q (.lrem) := by
  intro tgt pc L st w a b ps pc' L' st' w' a' b' len hdg hlen htg h hps hL hw ha hb kk ls H locs hl hP hS
  obtain ⟨hx, hbc, hml, hown, hts, hini, hK, hinj, hAd, hnew, hA, hR, hbig⟩ := K
  have hlen := hlen.resolve_left (by simp [ab_len])
  simp only [ab_len] at hlen
  subst hlen
  simp only [ab_nx] at h
  split at h
  · cases h
    exact lv_lrem hx hbc hdg hps.1 (kk _ _ _ hl hP hS)
  · cases h
theorem ab_g_lcmp (K : ab_Ctx ro p R s m args meth c own ini cc nL D cA ad n0 mcF msF A) : ab_G ro p l e R s m args below meth c own ini cc nL D cA ad n0 mcF msF A Q (.lcmp) := by
  intro tgt pc L st w a b ps pc' L' st' w' a' b' len hdg hlen htg h hps hL hw ha hb kk ls H locs hl hP hS
  obtain ⟨hx, hbc, hml, hown, hts, hini, hK, hinj, hAd, hnew, hA, hR, hbig⟩ := K
  have hlen := hlen.resolve_left (by simp [ab_len])
  simp only [ab_len] at hlen
  subst hlen
  simp only [ab_nx] at h
  split at h
  · cases h
    exact W.lcmp hx hbc hdg (kk _ _ _ hl hP hS)
  · cases h
theorem ab_g_goto (f : Int) (K : ab_Ctx ro p R s m args meth c own ini cc nL D cA ad n0 mcF msF A) : ab_G ro p l e R s m args below meth c own ini cc nL D cA ad n0 mcF msF A Q (.goto f) := by
  intro tgt pc L st w a b ps pc' L' st' w' a' b' len hdg hlen htg h hps hL hw ha hb kk ls H locs hl hP hS
  obtain ⟨hx, hbc, hml, hown, hts, hini, hK, hinj, hAd, hnew, hA, hR, hbig⟩ := K
  have hlen := hlen.resolve_left (by simp [ab_len])
  simp only [ab_len] at hlen
  subst hlen
  simp only [ab_nx] at h
  cases h
  exact lv_goto hx hbc hdg (htg f rfl) (kk _ _ _ hl hP hS)
theorem ab_g_tableswitch (d lo hi : Int) (offs : Array Int) (K : ab_Ctx ro p R s m args meth c own ini cc nL D cA ad n0 mcF msF A) : ab_G ro p l e R s m args below meth c own ini cc nL D cA ad n0 mcF msF A Q (.tableswitch d lo hi offs) := by
  intro tgt pc L st w a b ps pc' L' st' w' a' b' len hdg hlen htg h hps hL hw ha hb kk ls H locs hl hP hS
  obtain ⟨hx, hbc, hml, hown, hts, hini, hK, hinj, hAd, hnew, hA, hR, hbig⟩ := K
  simp only [ab_nx] at h
  split at h
  · rename_i x r
    cases h
    obtain ⟨h1, h2, -⟩ := hps
    by_cases hq : x.toInt < lo ∨ hi < x.toInt
    · refine lv_tableOut (tgt := ((pc : Int) + d).toNat) hx hbc hdg hq (by omega) ?_
      have h3 := kk ls H locs hl hP hS
      rw [show ab_ts pc d lo hi offs x = ((pc : Int) + d).toNat by unfold ab_ts; rw [if_pos hq]] at h3
      exact h3
    · obtain ⟨off, g1, g2⟩ := h1.resolve_left hq
      refine lv_tableIn (tgt := ((pc : Int) + off).toNat) hx hbc hdg (fun z => hq (Or.inl z)) (fun z => hq (Or.inr z)) g1 (by omega) ?_
      have h3 := kk ls H locs hl hP hS
      rw [show ab_ts pc d lo hi offs x = ((pc : Int) + off).toNat by unfold ab_ts; rw [if_neg hq, g1]] at h3
      exact h3
  · cases h
theorem ab_g_lookupswitch (d : Int) (pz : Array (Int × Int)) (K : ab_Ctx ro p R s m args meth c own ini cc nL D cA ad n0 mcF msF A) : ab_G ro p l e R s m args below meth c own ini cc nL D cA ad n0 mcF msF A Q (.lookupswitch d pz) := by
  intro tgt pc L st w a b ps pc' L' st' w' a' b' len hdg hlen htg h hps hL hw ha hb kk ls H locs hl hP hS
  obtain ⟨hx, hbc, hml, hown, hts, hini, hK, hinj, hAd, hnew, hA, hR, hbig⟩ := K
  simp only [ab_nx] at h
  split at h
  · cases h
    exact lv_lookup hx hbc hdg hps.1 rfl (by unfold ab_lsw; have := hps.2.1; omega) (kk _ _ _ hl hP hS)
  · cases h
end AbSnd
