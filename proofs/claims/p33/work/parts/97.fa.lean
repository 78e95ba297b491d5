/-! all that no type says, together -/
section Fa
variable {G : Nat → Nat}
def FA (G : Nat → Nat) (w : ab_W) : Prop := FT G w ∧ FP G w ∧ FM G w
def FA_T (G : Nat → Nat) (w : ab_W) : Prop := FP G w ∧ FM G w
def FA_P (G : Nat → Nat) (w : ab_W) : Prop := FT G w ∧ FM G w
def FA_M (G : Nat → Nat) (w : ab_W) : Prop := FT G w ∧ FP G w
theorem FA_same : ∀ w w', ty_same G pr_ w w' → FA G w → FA G w' := fun _ _ h hf => ⟨FT_same (ty_same_sub h (by decide)) hf.1, FP_same (ty_same_sub h (by decide)) hf.2.1, FM_same h hf.2.2⟩
theorem FM_same2 {w w' : ab_W} {fz : List (Nat × Nat)} (h : ty_same G fz w w') (h1 : (32, 999) ∈ fz) (h2 : (35, 999) ∈ fz) (h3 : (44, 999) ∈ fz) (h4 : (45, 999) ∈ fz) (h5 : (33, 999) ∈ fz) (h6 : (34, 999) ∈ fz) (hf : FM G w) : FM G w' := ⟨FRow_same h1 h hf.1, FRow_same h2 h hf.2.1, FRow_same h3 h hf.2.2.1, FRow_same h4 h hf.2.2.2.1, FImg_same h5 h6 h hf.2.2.2.2⟩
theorem FA_Ts : ∀ w w', ty_same G pr5 w w' → FA_T G w → FA_T G w' := fun _ _ h hf => ⟨FP_same (ty_same_sub h (by decide)) hf.1, FM_same2 h (by decide) (by decide) (by decide) (by decide) (by decide) (by decide) hf.2⟩
theorem FA_Ps : ∀ w w', ty_same G pr4 w w' → FA_P G w → FA_P G w' := fun _ _ h hf => ⟨FT_same (ty_same_sub h (by decide)) hf.1, FM_same2 h (by decide) (by decide) (by decide) (by decide) (by decide) (by decide) hf.2⟩
theorem FA_Ns : ∀ w w', ty_same G prM w w' → FA_M G w → FA_M G w' := fun _ _ h hf => ⟨FT_same (ty_same_sub h (by decide)) hf.1, FP_same (ty_same_sub h (by decide)) hf.2⟩
theorem FA_Ms : ∀ w w', smt G w w' → FA_M G w → FA_M G w' := fun _ _ h hf => FA_Ns _ _ h.1 hf
theorem FA_eT : F5 G (FA_T G) = FA G := rfl
theorem FA_eP : F4 G (FA_P G) = FA G := funext fun w => propext ⟨fun h => ⟨h.2.1, h.1, h.2.2⟩, fun h => ⟨h.2.1, h.1, h.2.2⟩⟩
theorem FA_eM : F9 G (FA_M G) = FA G := funext fun w => propext ⟨fun h => ⟨h.2.1, h.2.2, h.1⟩, fun h => ⟨h.2.2, h.1, h.2.1⟩⟩
variable {ro : ab_R} {fz : List (Nat × Nat)} {C : Nat → List Value → ab_W → ab_O → Prop} {j : Nat} {ga : List ty_A} {gr : Option ty_A} {wa wf : Nat} {P : List Value → ab_W → Prop} {R : List Value → ab_W → Option Value → ab_W → Prop}
theorem cgT (h : ck_ct ro sp_ G (F5 G (FA_T G)) fz C j ga gr wa wf) : ck_ct ro sp_ G (FA G) fz C j ga gr wa wf := h
theorem cgP (h : ck_ct ro sp_ G (F4 G (FA_P G)) fz C j ga gr wa wf) : ck_ct ro sp_ G (FA G) fz C j ga gr wa wf := by rw [← FA_eP]; exact h
theorem cgM (h : ck_ct ro sp_ G (F9 G (FA_M G)) fz C j ga gr wa wf) : ck_ct ro sp_ G (FA G) fz C j ga gr wa wf := by rw [← FA_eM]; exact h
theorem cgTp (h : hx_ct ro sp_ G (F5 G (FA_T G)) fz C j ga gr P R) : hx_ct ro sp_ G (FA G) fz C j ga gr P R := h
theorem cgPp (h : hx_ct ro sp_ G (F4 G (FA_P G)) fz C j ga gr P R) : hx_ct ro sp_ G (FA G) fz C j ga gr P R := by rw [← FA_eP]; exact h
theorem cgMp (h : hx_ct ro sp_ G (F9 G (FA_M G)) fz C j ga gr P R) : hx_ct ro sp_ G (FA G) fz C j ga gr P R := by rw [← FA_eM]; exact h
end Fa
