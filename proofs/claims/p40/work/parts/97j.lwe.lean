/-! the law's body: three vaults -/
def ML_law : MI := (x, cL_law, 1, some .boolean, 9, true, 1)
section LWE
variable {S L : Nat} {T : TS} {Q : Post}
theorem law_entry (hD : DNN) (hE : DCQ) (hE0 : Op.cmpValue (FP.dcmp FP.dconst0 FP.dconst0) .l = 0) (hw : wf T) (k26 : tK T S = 26) (l26 : tl T S = L) (hL : L ≤ 260) (hQ : ∀ T', tn T' ≤ tn T + 57000 ∧ tu T' ≤ tu T + 1740000 → Q (.inl (some (.int (nI 1)))) T') : Ev 12 ML_law [] 0 [(0, .ref S)] [] T Q := by
  obtain ⟨_, T1, c1, rfl, r1, w1, k1, l1⟩ := C_vault (d := 1) (a := 0) hD hE hE0 hw k26 l26 hL (by decide)
  obtain ⟨_, T2, c2, rfl, r2, w2, k2, l2⟩ := C_vault (d := 1) (a := 125) hD hE hE0 w1 k1 l1 hL (by decide)
  obtain ⟨_, T3, c3, rfl, r3, w3, k3, l3⟩ := C_vault (d := 1) (a := 250) hD hE hE0 w2 k2 l2 hL (by decide)
  have hq := hQ T3 ⟨by omega, by omega⟩
  refine eN_aload_n (M := ML_law) (k := 0) rfl dL_law_0 (pc' := 1) rfl rfl ?_
  refine (ev_iconst (M := ML_law) (v := (nI 0)) rfl dL_law_1 (pc' := 2) rfl).mpr ?_
  refine (ev_cS2 (M := ML_law) dL_law_2 c_9_193 (by decide) mL_vault rfl rfl (pc' := 5) rfl).mpr ⟨(Nat.le_of_ble_eq_true rfl), eN_c c1 (by first | rfl | (simp (disch := omega) only [nI_add, i_sub]) | (simp only [*])) ?_⟩
  refine (ev_if_eq (M := ML_law) (t := 31) dL_law_5 (by decide) (pc' := 8) rfl).mpr (ifF (by first | assumption | omega | rfl | exact fun q => q (by assumption) | exact fun q => q rfl | (simp (disch := omega) only [nle_t, nle_f, nlt_t, nlt_f, neq_t, neq_f, i_lt0, i_le0, i_0le, i_0lt, i_eq0, i_lt, i_le, i_eq, nI_add, i_sub, i_cl, i_m1a, i_m1b, i_m1c, i_m1d, i_m1e, i_am1, i_ite0, m1_le, m1_m1, m1_ge0, not_true_eq_false, not_false_eq_true, or_self, or_false, false_or, or_true, true_or, and_self, and_true, true_and])) ?_)
  refine eN_aload_n (M := ML_law) (k := 0) rfl dL_law_8 (pc' := 9) rfl rfl ?_
  refine (ev_bipush (M := ML_law) (v := (nI 125)) rfl dL_law_9 (pc' := 11) rfl).mpr ?_
  refine (ev_cS2 (M := ML_law) dL_law_11 c_9_193 (by decide) mL_vault rfl rfl (pc' := 14) rfl).mpr ⟨(Nat.le_of_ble_eq_true rfl), eN_c c2 (by first | rfl | (simp (disch := omega) only [nI_add, i_sub]) | (simp only [*])) ?_⟩
  refine (ev_if_eq (M := ML_law) (t := 31) dL_law_14 (by decide) (pc' := 17) rfl).mpr (ifF (by first | assumption | omega | rfl | exact fun q => q (by assumption) | exact fun q => q rfl | (simp (disch := omega) only [nle_t, nle_f, nlt_t, nlt_f, neq_t, neq_f, i_lt0, i_le0, i_0le, i_0lt, i_eq0, i_lt, i_le, i_eq, nI_add, i_sub, i_cl, i_m1a, i_m1b, i_m1c, i_m1d, i_m1e, i_am1, i_ite0, m1_le, m1_m1, m1_ge0, not_true_eq_false, not_false_eq_true, or_self, or_false, false_or, or_true, true_or, and_self, and_true, true_and])) ?_)
  refine eN_aload_n (M := ML_law) (k := 0) rfl dL_law_17 (pc' := 18) rfl rfl ?_
  refine (ev_sipush (M := ML_law) (v := (nI 250)) rfl dL_law_18 (pc' := 21) rfl).mpr ?_
  refine (ev_cS2 (M := ML_law) dL_law_21 c_9_193 (by decide) mL_vault rfl rfl (pc' := 24) rfl).mpr ⟨(Nat.le_of_ble_eq_true rfl), eN_c c3 (by first | rfl | (simp (disch := omega) only [nI_add, i_sub]) | (simp only [*])) ?_⟩
  refine (ev_if_eq (M := ML_law) (t := 31) dL_law_24 (by decide) (pc' := 27) rfl).mpr (ifF (by first | assumption | omega | rfl | exact fun q => q (by assumption) | exact fun q => q rfl | (simp (disch := omega) only [nle_t, nle_f, nlt_t, nlt_f, neq_t, neq_f, i_lt0, i_le0, i_0le, i_0lt, i_eq0, i_lt, i_le, i_eq, nI_add, i_sub, i_cl, i_m1a, i_m1b, i_m1c, i_m1d, i_m1e, i_am1, i_ite0, m1_le, m1_m1, m1_ge0, not_true_eq_false, not_false_eq_true, or_self, or_false, false_or, or_true, true_or, and_self, and_true, true_and])) ?_)
  refine (ev_iconst (M := ML_law) (v := (nI 1)) rfl dL_law_27 (pc' := 28) rfl).mpr ?_
  refine (ev_goto (M := ML_law) (pc' := 32) dL_law_28 (by decide)).mpr ?_
  refine (ev_zretI (M := ML_law) rfl dL_law_32 (by omega)).mpr ?_
  exact hq
end LWE
