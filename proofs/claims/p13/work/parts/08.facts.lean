/-! what the tables say, as facts -/
theorem ab_f_nil : ∀ o : Nat, ¬ o < 11 → ab_fT o = [] := by
  intro o h
  unfold ab_fT
  split <;> first | rfl | (exfalso; omega)
theorem ab_f_ok {o ix : Nat} {v : Nat × Nat} (h : ab_lk (ab_fT o) ix = some v) : ∃ p, ab_fOk o (ix, v) p = true := by
  by_cases ho : o < 11
  · exact ab_zall_ok (List.all_eq_true.mp ab_f_all o (List.mem_range.mpr ho)) (ix, v) (ab_lk_mem h)
  · rw [ab_f_nil o ho] at h
    cases h
theorem ab_n_nil : ∀ o : Nat, ¬ o < 11 → ab_nT o = [] := by
  intro o h
  unfold ab_nT
  split <;> first | rfl | (exfalso; omega)
theorem ab_n_ok {o ix : Nat} {v : Nat} (h : ab_lk (ab_nT o) ix = some v) : ∃ p, ab_nOk o (ix, v) p = true := by
  by_cases ho : o < 11
  · exact ab_zall_ok (List.all_eq_true.mp ab_n_all o (List.mem_range.mpr ho)) (ix, v) (ab_lk_mem h)
  · rw [ab_n_nil o ho] at h
    cases h
theorem ab_a_nil : ∀ o : Nat, ¬ o < 11 → ab_aT o = [] := by
  intro o h
  unfold ab_aT
  split <;> first | rfl | (exfalso; omega)
theorem ab_a_ok {o ix : Nat} {v : Nat} (h : ab_lk (ab_aT o) ix = some v) : ∃ p, ab_aOk o (ix, v) p = true := by
  by_cases ho : o < 11
  · exact ab_zall_ok (List.all_eq_true.mp ab_a_all o (List.mem_range.mpr ho)) (ix, v) (ab_lk_mem h)
  · rw [ab_a_nil o ho] at h
    cases h
theorem ab_s_nil : ∀ o : Nat, ¬ o < 11 → ab_sT o = [] := by
  intro o h
  unfold ab_sT
  split <;> first | rfl | (exfalso; omega)
theorem ab_s_ok {o ix : Nat} {v : Nat} (h : ab_lk (ab_sT o) ix = some v) : ∃ p, ab_sOk o (ix, v) p = true := by
  by_cases ho : o < 11
  · exact ab_zall_ok (List.all_eq_true.mp ab_s_all o (List.mem_range.mpr ho)) (ix, v) (ab_lk_mem h)
  · rw [ab_s_nil o ho] at h
    cases h
theorem ab_c_nil : ∀ o : Nat, ¬ o < 11 → ab_cT o = [] := by
  intro o h
  unfold ab_cT
  split <;> first | rfl | (exfalso; omega)
theorem ab_c_ok {o ix : Nat} {v : Value} (h : ab_lk (ab_cT o) ix = some v) : ∃ p, ab_cOk o (ix, v) p = true := by
  by_cases ho : o < 11
  · exact ab_zall_ok (List.all_eq_true.mp ab_c_all o (List.mem_range.mpr ho)) (ix, v) (ab_lk_mem h)
  · rw [ab_c_nil o ho] at h
    cases h
theorem ab_p_nil : ∀ o : Nat, ¬ o < 11 → ab_pT o = [] := by
  intro o h
  unfold ab_pT
  split <;> first | rfl | (exfalso; omega)
theorem ab_p_ok {o ix : Nat} {v : Nat} (h : ab_lk (ab_pT o) ix = some v) : ∃ p, ab_pOk o (ix, v) p = true := by
  by_cases ho : o < 11
  · exact ab_zall_ok (List.all_eq_true.mp ab_p_all o (List.mem_range.mpr ho)) (ix, v) (ab_lk_mem h)
  · rw [ab_p_nil o ho] at h
    cases h
theorem ab_o_nil : ∀ o : Nat, ¬ o < 11 → ab_oT o = [] := by
  intro o h
  unfold ab_oT
  split <;> first | rfl | (exfalso; omega)
theorem ab_o_ok {o ix : Nat} {v : Unit} (h : ab_lk (ab_oT o) ix = some v) : ∃ p, ab_oOk o (ix, v) p = true := by
  by_cases ho : o < 11
  · exact ab_zall_ok (List.all_eq_true.mp ab_o_all o (List.mem_range.mpr ho)) (ix, v) (ab_lk_mem h)
  · rw [ab_o_nil o ho] at h
    cases h
theorem ab_m_nil : ∀ o : Nat, ¬ o < 11 → ab_mT o = [] := by
  intro o h
  unfold ab_mT
  split <;> first | rfl | (exfalso; omega)
theorem ab_m_ok {o ix : Nat} {v : Nat × Nat × Nat} (h : ab_lk (ab_mT o) ix = some v) : ∃ p, ab_mOk o (ix, v) p = true := by
  by_cases ho : o < 11
  · exact ab_zall_ok (List.all_eq_true.mp ab_m_all o (List.mem_range.mpr ho)) (ix, v) (ab_lk_mem h)
  · rw [ab_m_nil o ho] at h
    cases h
theorem ab_f_get {o ix ci k : Nat} (h : ab_lk (ab_fT o) ix = some (ci, k)) : ∃ (C : String) (T : u_T) (N : Nat), vwCl[ci]? = some (C, T, N) ∧ k < N ∧ Cond.fieldLink (ab_cn o) ix C (T k).2.1 (T k).2.2.1 ∈ ab_ws := by
  obtain ⟨p, hp⟩ := ab_f_ok h
  unfold ab_fOk at hp
  split at hp
  · rename_i C T N hc
    rw [Bool.and_eq_true, decide_eq_true_eq] at hp
    exact ⟨C, T, N, hc, hp.1, ab_has_ok hp.2⟩
  · cases hp
theorem ab_n_get {o ix ci : Nat} (h : ab_lk (ab_nT o) ix = some ci) : ∃ (C : String) (T : u_T) (N : Nat), vwCl[ci]? = some (C, T, N) ∧ Cond.classLink (ab_cn o) ix C ∈ ab_ws := by
  obtain ⟨p, hp⟩ := ab_n_ok h
  unfold ab_nOk at hp
  split at hp
  · rename_i C T N hc
    exact ⟨C, T, N, hc, ab_has_ok hp⟩
  · cases hp
theorem ab_a_get {o ix k : Nat} (h : ab_lk (ab_aT o) ix = some k) : (k = 4 ∧ Cond.classLink (ab_cn o) ix RX1 ∈ ab_ws) ∨ (k = 5 ∧ Cond.classLink (ab_cn o) ix RX7 ∈ ab_ws) := by
  obtain ⟨p, hp⟩ := ab_a_ok h
  unfold ab_aOk at hp
  simp only [Bool.or_eq_true, Bool.and_eq_true, beq_iff_eq] at hp
  rcases hp with hp | hp
  · exact Or.inl ⟨hp.1, ab_has_ok hp.2⟩
  · exact Or.inr ⟨hp.1, ab_has_ok hp.2⟩
theorem ab_s_get {o ix j : Nat} (h : ab_lk (ab_sT o) ix = some j) : ∃ q ∈ ab_stats, q.2.2.2 = j ∧ Cond.fieldLink (ab_cn o) ix q.1 q.2.1 q.2.2.1 ∈ ab_ws := by
  obtain ⟨p, hp⟩ := ab_s_ok h
  unfold ab_sOk at hp
  split at hp
  · rename_i C n d j' hc
    simp only [Bool.and_eq_true, beq_iff_eq] at hp
    exact ⟨(C, n, d, j'), List.mem_of_getElem? hc, hp.1, ab_has_ok hp.2⟩
  · cases hp
theorem ab_ci_get {o ix : Nat} {v : Int32} (h : ab_lk (ab_cT o) ix = some (.int v)) : Cond.constant (ab_cn o) ix v ∈ ab_ws := by
  obtain ⟨p, hp⟩ := ab_c_ok h
  exact ab_has_ok hp
theorem ab_cl_get {o ix : Nat} {v : Int64} (h : ab_lk (ab_cT o) ix = some (.long v)) : Cond.constantLong (ab_cn o) ix v ∈ ab_ws := by
  obtain ⟨p, hp⟩ := ab_c_ok h
  exact ab_has_ok hp
theorem ab_cs_get {o ix a : Nat} (h : ab_lk (ab_cT o) ix = some (.ref a)) : ∃ t : String, (a, o, ix, t) ∈ ab_strK := by
  obtain ⟨p, hp⟩ := ab_c_ok h
  unfold ab_cOk at hp
  simp only [Bool.and_eq_true, List.any_eq_true, beq_iff_eq] at hp
  obtain ⟨⟨x, y, z, u⟩, h2, ⟨h3, h4⟩, h5⟩ := hp
  dsimp only at h3 h4 h5
  subst h3; subst h4; subst h5
  exact ⟨u, h2⟩
theorem ab_sK_ge : ∀ q ∈ ab_strK, 2000000 ≤ q.1 := by decide
theorem ab_tx_ge : ∀ q ∈ ab_txt, 2000000 ≤ q.1 := by
  intro q hq
  unfold ab_txt at hq
  obtain ⟨x, h1, rfl⟩ := List.mem_map.mp hq
  exact ab_sK_ge x h1
theorem ab_v_get {o ix k : Nat} (h : ab_lk (ab_vT o) ix = some k) : o = 5 ∧ ((ix = 205 ∧ k = 0) ∨ (ix = 209 ∧ k = 1)) := by
  unfold ab_vT at h
  split at h
  · have h1 := ab_lk_mem h
    simp only [List.mem_cons, Prod.mk.injEq, List.not_mem_nil, or_false] at h1
    exact ⟨rfl, h1⟩
  · cases h
theorem ab_tx_get {o : Nat} {t : List Int32} (h : ab_tx o = some t) : (o, t) ∈ ab_txt := ab_lk_mem h
theorem ab_p_get {o ix k : Nat} (h : ab_lk (ab_pT o) ix = some k) : k < 4 ∧ Cond.methodLink (ab_cn o) ix (ab_pName k) ∈ ab_ws := by
  obtain ⟨p, hp⟩ := ab_p_ok h
  unfold ab_pOk at hp
  rw [Bool.and_eq_true, decide_eq_true_eq] at hp
  exact ⟨hp.1, ab_has_ok hp.2⟩
theorem ab_o_get {o ix : Nat} {u : Unit} (h : ab_lk (ab_oT o) ix = some u) : Cond.methodLink (ab_cn o) ix Lib.objectInit ∈ ab_ws := by
  obtain ⟨p, hp⟩ := ab_o_ok h
  exact ab_has_ok hp
theorem ab_w_min : Cond.static Lib.Math.min.name ∈ ab_ws ∧ Cond.code Lib.Math.min.name Lib.Math.min.code 2 (some .int) ∈ ab_ws := ⟨ab_has_ok (p := 607) (by decide +kernel), ab_has_ok (p := 608) (by decide +kernel)⟩
theorem ab_w_max : Cond.static Lib.Math.max.name ∈ ab_ws ∧ Cond.code Lib.Math.max.name Lib.Math.max.code 2 (some .int) ∈ ab_ws := ⟨ab_has_ok (p := 447) (by decide +kernel), ab_has_ok (p := 448) (by decide +kernel)⟩
theorem ab_w_abs : Cond.static Lib.Math.abs.name ∈ ab_ws ∧ Cond.code Lib.Math.abs.name Lib.Math.abs.code 1 (some .int) ∈ ab_ws := ⟨ab_has_ok (p := 1014) (by decide +kernel), ab_has_ok (p := 1015) (by decide +kernel)⟩
theorem ab_w_math : Cond.initialized "java/lang/Math" ∈ ab_ws := ab_has_ok (p := 120) (by decide +kernel)
theorem ab_w_copy : Cond.native arraycopyName ∈ ab_ws ∧ Cond.static arraycopyName ∈ ab_ws ∧ Cond.initialized "java/lang/System" ∈ ab_ws := ⟨ab_has_ok (p := 854) (by decide +kernel), ab_has_ok (p := 853) (by decide +kernel), ab_has_ok (p := 126) (by decide +kernel)⟩
theorem ab_w_obj : Cond.instanceMethod Lib.objectInit ∈ ab_ws ∧ Cond.code Lib.objectInit ⟨#[0xb1]⟩ 1 none ∈ ab_ws := ⟨ab_has_ok (p := 133) (by decide +kernel), ab_has_ok (p := 134) (by decide +kernel)⟩
theorem ab_w_aint : Cond.arrayClass .int ∈ ab_ws := ab_has_ok (p := 240) (by decide +kernel)
theorem ab_w_abyte : Cond.arrayClass .byte ∈ ab_ws := ab_has_ok (p := 855) (by decide +kernel)
theorem ab_w_along : Cond.arrayClass .long ∈ ab_ws := ab_has_ok (p := 433) (by decide +kernel)
theorem ab_w_aboolean : Cond.arrayClass .boolean ∈ ab_ws := ab_has_ok (p := 259) (by decide +kernel)
theorem ab_u_0 : ab_zall (fun w p => ab_has p w) (u_ws RX0 TX0 7) [299, 301, 303, 305, 307, 309, 311] = true := by decide +kernel
theorem ab_u_1 : ab_zall (fun w p => ab_has p w) (u_ws RX1 TX1 18) [203, 205, 207, 209, 211, 213, 215, 217, 219, 221, 223, 225, 227, 229, 231, 233, 235, 237] = true := by decide +kernel
theorem ab_u_2 : ab_zall (fun w p => ab_has p w) (u_ws RX2 TX2 2) [276, 278] = true := by decide +kernel
theorem ab_u_3 : ab_zall (fun w p => ab_has p w) (u_ws RX3 TX3 20) [392, 394, 396, 398, 400, 402, 404, 406, 408, 410, 412, 414, 416, 418, 420, 422, 424, 426, 428, 430] = true := by decide +kernel
theorem ab_u_4 : ab_zall (fun w p => ab_has p w) (u_ws RX4 TX4 3) [252, 254, 256] = true := by decide +kernel
theorem ab_u_5 : ab_zall (fun w p => ab_has p w) (u_ws RX5 TX5 9) [483, 485, 487, 489, 491, 493, 495, 497, 499] = true := by decide +kernel
theorem ab_u_6 : ab_zall (fun w p => ab_has p w) (u_ws RX6 TX6 7) [332, 334, 336, 338, 340, 342, 344] = true := by decide +kernel
theorem ab_u_7 : ab_zall (fun w p => ab_has p w) (u_ws RX7 TX7 5) [461, 463, 465, 467, 469] = true := by decide +kernel
theorem ab_u_8 : ab_zall (fun w p => ab_has p w) (u_ws RX8 TX8 16) [518, 520, 522, 524, 526, 528, 530, 532, 534, 536, 538, 540, 542, 544, 546, 548] = true := by decide +kernel
theorem ab_u_9 : ab_zall (fun w p => ab_has p w) (u_ws RX9 TX9 52) [1183, 1185, 1187, 1189, 1191, 1193, 1195, 1197, 1199, 1201, 1203, 1205, 1207, 1209, 1211, 1213, 1215, 1217, 1219, 1221, 1223, 1225, 1227, 1229, 1231, 1233, 1235, 1237, 1239, 1241, 1243, 1245, 1247, 1249, 1251, 1253, 1255, 1257, 1259, 1261, 1263, 1265, 1267, 1269, 1271, 1273, 1275, 1277, 1279, 1281, 1283, 1285] = true := by decide +kernel
def ab_clsOk (ci : Nat) (C : String) (T : u_T) (N : Nat) : Prop := (∀ w ∈ u_ws C T N, w ∈ ab_ws) ∧ (∀ k, k < N → parseFieldDescriptor (T k).2.2.1 = some (ab_ty ci k)) ∧ (∀ a, a < N → ∀ b, b < N → a ≠ b → (T a).2.1 ≠ (T b).2.1) ∧ (∀ k, k < N → defaultValue (ab_ty ci k) = vp_V (ab_new ci) k) ∧ (ab_new ci).length = N ∧ Cond.instantiable C N ∈ ab_ws ∧ Cond.initialized C ∈ ab_ws ∧ C = ab_cn ci ∧ ∀ k, k < N → (T k).1 = C
theorem ab_cls_0 : ab_clsOk 0 RX0 TX0 7 := ⟨fun w hw => (ab_zall_ok ab_u_0 w hw).elim (fun _ h => ab_has_ok h), tyX0_ok, nmX0, by decide +kernel, rfl, ab_has_ok (p := 261) (by decide +kernel), ab_has_ok (p := 114) (by decide +kernel), rfl, by decide +kernel⟩
theorem ab_cls_1 : ab_clsOk 1 RX1 TX1 18 := ⟨fun w hw => (ab_zall_ok ab_u_1 w hw).elim (fun _ h => ab_has_ok h), tyX1_ok, nmX1, by decide +kernel, rfl, ab_has_ok (p := 136) (by decide +kernel), ab_has_ok (p := 112) (by decide +kernel), rfl, by decide +kernel⟩
theorem ab_cls_2 : ab_clsOk 2 RX2 TX2 2 := ⟨fun w hw => (ab_zall_ok ab_u_2 w hw).elim (fun _ h => ab_has_ok h), tyX2_ok, nmX2, by decide +kernel, rfl, ab_has_ok (p := 267) (by decide +kernel), ab_has_ok (p := 115) (by decide +kernel), rfl, by decide +kernel⟩
theorem ab_cls_3 : ab_clsOk 3 RX3 TX3 20 := ⟨fun w hw => (ab_zall_ok ab_u_3 w hw).elim (fun _ h => ab_has_ok h), tyX3_ok, nmX3, by decide +kernel, rfl, ab_has_ok (p := 348) (by decide +kernel), ab_has_ok (p := 117) (by decide +kernel), rfl, by decide +kernel⟩
theorem ab_cls_4 : ab_clsOk 4 RX4 TX4 3 := ⟨fun w hw => (ab_zall_ok ab_u_4 w hw).elim (fun _ h => ab_has_ok h), tyX4_ok, nmX4, by decide +kernel, rfl, ab_has_ok (p := 243) (by decide +kernel), ab_has_ok (p := 113) (by decide +kernel), rfl, by decide +kernel⟩
theorem ab_cls_5 : ab_clsOk 5 RX5 TX5 9 := ⟨fun w hw => (ab_zall_ok ab_u_5 w hw).elim (fun _ h => ab_has_ok h), tyX5_ok, nmX5, by decide +kernel, rfl, ab_has_ok (p := 435) (by decide +kernel), ab_has_ok (p := 118) (by decide +kernel), rfl, by decide +kernel⟩
theorem ab_cls_6 : ab_clsOk 6 RX6 TX6 7 := ⟨fun w hw => (ab_zall_ok ab_u_6 w hw).elim (fun _ h => ab_has_ok h), tyX6_ok, nmX6, by decide +kernel, rfl, ab_has_ok (p := 315) (by decide +kernel), ab_has_ok (p := 116) (by decide +kernel), rfl, by decide +kernel⟩
theorem ab_cls_7 : ab_clsOk 7 RX7 TX7 5 := ⟨fun w hw => (ab_zall_ok ab_u_7 w hw).elim (fun _ h => ab_has_ok h), tyX7_ok, nmX7, by decide +kernel, rfl, ab_has_ok (p := 441) (by decide +kernel), ab_has_ok (p := 119) (by decide +kernel), rfl, by decide +kernel⟩
theorem ab_cls_8 : ab_clsOk 8 RX8 TX8 16 := ⟨fun w hw => (ab_zall_ok ab_u_8 w hw).elim (fun _ h => ab_has_ok h), tyX8_ok, nmX8, by decide +kernel, rfl, ab_has_ok (p := 128) (by decide +kernel), ab_has_ok (p := 111) (by decide +kernel), rfl, by decide +kernel⟩
theorem ab_cls_9 : ab_clsOk 9 RX9 TX9 52 := ⟨fun w hw => (ab_zall_ok ab_u_9 w hw).elim (fun _ h => ab_has_ok h), tyX9_ok, nmX9, by decide +kernel, rfl, ab_has_ok (p := 1126) (by decide +kernel), ab_has_ok (p := 121) (by decide +kernel), rfl, by decide +kernel⟩
theorem ab_cls {ci : Nat} {C : String} {T : u_T} {N : Nat} (h : vwCl[ci]? = some (C, T, N)) : ab_clsOk ci C T N := by
  match ci, h with
  | 0, h => cases h; exact ab_cls_0
  | 1, h => cases h; exact ab_cls_1
  | 2, h => cases h; exact ab_cls_2
  | 3, h => cases h; exact ab_cls_3
  | 4, h => cases h; exact ab_cls_4
  | 5, h => cases h; exact ab_cls_5
  | 6, h => cases h; exact ab_cls_6
  | 7, h => cases h; exact ab_cls_7
  | 8, h => cases h; exact ab_cls_8
  | 9, h => cases h; exact ab_cls_9
  | n + 10, h => simp [vwCl] at h
