/-! try -/
section TST
variable {d X : Nat} {T : TS}
variable {f v n b s c a x m : Nat} {Q : Post}
theorem Z_iv1 (k8 : tK T X = 8) (ha : a < n) (hn : n ≤ 240) (hb : b ≤ a) (hs : s ≤ 2040) (hx : x < 256) (c1 : Call (d + 5) 95 [.ref X, .int (nI f), .int (nI v), .int (nI a)] T (.inl (some (.int (nI x)))) T) (c2 : Call (d + 5) 96 [.ref X, .int (nI f), .int (nI v), .int (nI a)] T (.inl (some (.int (nI x)))) T) (hm : a - b + 1 ≤ 8) (hq : Ev (d + 5) ML_isVersion [] 106 [(9, .int (nI (a - b + 1))), (8, .int (nI x)), (7, .int (nI a)), (6, .int (nI c)), (5, .int (nI (s + x))), (4, .int (nI b)), (3, .int (nI n)), (0, .ref X), (1, .int (nI f)), (2, .int (nI v))] [] T Q) : Ev (d + 5) ML_isVersion [] 19 [(7, .int (nI a)), (6, .int (nI c)), (5, .int (nI s)), (4, .int (nI b)), (3, .int (nI n)), (0, .ref X), (1, .int (nI f)), (2, .int (nI v))] [] T Q := by
  refine eN_iload (M := ML_isVersion) dL_isVersion_19 (pc' := 21) rfl rfl ?_
  refine eN_iload_n (M := ML_isVersion) (k := 3) rfl dL_isVersion_21 (pc' := 22) rfl rfl ?_
  refine (ev_icmp_ge (M := ML_isVersion) (t := 184) dL_isVersion_22 (by decide) (pc' := 25) rfl).mpr (ifF (by first | assumption | omega | (simp (disch := omega) only [nle_t, nle_f, nlt_t, nlt_f, neq_t, neq_f, i_lt0, i_le0, i_0le, i_0lt, i_eq0, i_lt, i_le, i_eq, nI_add, i_sub, i_cl, i_m1a, i_m1b, i_m1c, i_m1d, i_m1e, i_am1, i_ite0, not_true_eq_false, not_false_eq_true, or_self, or_false, false_or, or_true, true_or, and_self, and_true, true_and])) ?_)
  refine eN_aload_n (M := ML_isVersion) (k := 0) rfl dL_isVersion_25 (pc' := 26) rfl rfl ?_
  refine eN_iload_n (M := ML_isVersion) (k := 1) rfl dL_isVersion_26 (pc' := 27) rfl rfl ?_
  refine eN_iload_n (M := ML_isVersion) (k := 2) rfl dL_isVersion_27 (pc' := 28) rfl rfl ?_
  refine eN_iload (M := ML_isVersion) dL_isVersion_28 (pc' := 30) rfl rfl ?_
  refine (ev_cV3 (M := ML_isVersion) (kk := 8) dL_isVersion_30 c_9_22 mX6_byteAt rfl rfl (by decide) rfl (pc' := 33) rfl).mpr ⟨(by assumption), (Nat.le_of_ble_eq_true rfl), eN_c c1 (by first | rfl | (simp (disch := omega) only [nI_add, i_sub])) ?_⟩
  refine (ev_istore (M := ML_isVersion) dL_isVersion_33 (by decide) (pc' := 35) rfl).mpr ?_
  refine eN_iload (M := ML_isVersion) dL_isVersion_35 (pc' := 37) rfl rfl ?_
  refine eN_aload_n (M := ML_isVersion) (k := 0) rfl dL_isVersion_37 (pc' := 38) rfl rfl ?_
  refine eN_iload_n (M := ML_isVersion) (k := 1) rfl dL_isVersion_38 (pc' := 39) rfl rfl ?_
  refine eN_iload_n (M := ML_isVersion) (k := 2) rfl dL_isVersion_39 (pc' := 40) rfl rfl ?_
  refine eN_iload (M := ML_isVersion) dL_isVersion_40 (pc' := 42) rfl rfl ?_
  refine (ev_cV3 (M := ML_isVersion) (kk := 8) dL_isVersion_42 c_9_26 mX6_byteByCopy rfl rfl (by decide) rfl (pc' := 45) rfl).mpr ⟨(by assumption), (Nat.le_of_ble_eq_true rfl), eN_c c2 (by first | rfl | (simp (disch := omega) only [nI_add, i_sub])) ?_⟩
  refine (ev_icmp_ne (M := ML_isVersion) (t := 61) dL_isVersion_45 (by decide) (pc' := 48) rfl).mpr (ifF (by first | assumption | omega | (simp (disch := omega) only [nle_t, nle_f, nlt_t, nlt_f, neq_t, neq_f, i_lt0, i_le0, i_0le, i_0lt, i_eq0, i_lt, i_le, i_eq, nI_add, i_sub, i_cl, i_m1a, i_m1b, i_m1c, i_m1d, i_m1e, i_am1, i_ite0, not_true_eq_false, not_false_eq_true, or_self, or_false, false_or, or_true, true_or, and_self, and_true, true_and])) ?_)
  refine eN_iload (M := ML_isVersion) dL_isVersion_48 (pc' := 50) rfl rfl ?_
  refine (ev_if_lt (M := ML_isVersion) (t := 61) dL_isVersion_50 (by decide) (pc' := 53) rfl).mpr (ifF (by first | assumption | omega | (simp (disch := omega) only [nle_t, nle_f, nlt_t, nlt_f, neq_t, neq_f, i_lt0, i_le0, i_0le, i_0lt, i_eq0, i_lt, i_le, i_eq, nI_add, i_sub, i_cl, i_m1a, i_m1b, i_m1c, i_m1d, i_m1e, i_am1, i_ite0, not_true_eq_false, not_false_eq_true, or_self, or_false, false_or, or_true, true_or, and_self, and_true, true_and])) ?_)
  refine eN_iload (M := ML_isVersion) dL_isVersion_53 (pc' := 55) rfl rfl ?_
  refine (ev_sipush (M := ML_isVersion) (v := (nI 255)) rfl dL_isVersion_55 (pc' := 58) rfl).mpr ?_
  refine (ev_icmp_le (M := ML_isVersion) (t := 63) dL_isVersion_58 (by decide) (pc' := 61) rfl).mpr (ifT (by first | assumption | omega | (simp (disch := omega) only [nle_t, nle_f, nlt_t, nlt_f, neq_t, neq_f, i_lt0, i_le0, i_0le, i_0lt, i_eq0, i_lt, i_le, i_eq, nI_add, i_sub, i_cl, i_m1a, i_m1b, i_m1c, i_m1d, i_m1e, i_am1, i_ite0, not_true_eq_false, not_false_eq_true, or_self, or_false, false_or, or_true, true_or, and_self, and_true, true_and])) ?_)
  refine eN_iload (M := ML_isVersion) dL_isVersion_63 (pc' := 65) rfl rfl ?_
  refine eN_iload (M := ML_isVersion) dL_isVersion_65 (pc' := 67) rfl rfl ?_
  refine eN_isub (M := ML_isVersion) dL_isVersion_67 (pc' := 68) rfl (by omega) ?_
  refine (ev_iconst (M := ML_isVersion) (v := (nI 1)) rfl dL_isVersion_68 (pc' := 69) rfl).mpr ?_
  refine eN_iadd (M := ML_isVersion) dL_isVersion_69 (pc' := 70) rfl ?_
  refine (ev_istore (M := ML_isVersion) dL_isVersion_70 (by decide) (pc' := 72) rfl).mpr ?_
  refine eN_iload (M := ML_isVersion) dL_isVersion_72 (pc' := 74) rfl rfl ?_
  refine eN_iload (M := ML_isVersion) dL_isVersion_74 (pc' := 76) rfl rfl ?_
  refine eN_iadd (M := ML_isVersion) dL_isVersion_76 (pc' := 77) rfl ?_
  refine (ev_istore (M := ML_isVersion) dL_isVersion_77 (by decide) (pc' := 79) rfl).mpr ?_
  refine eN_iload (M := ML_isVersion) dL_isVersion_79 (pc' := 81) rfl rfl ?_
  refine eN_iload (M := ML_isVersion) dL_isVersion_81 (pc' := 83) rfl rfl ?_
  refine (ev_bipush (M := ML_isVersion) (v := (nI 8)) rfl dL_isVersion_83 (pc' := 85) rfl).mpr ?_
  refine (ev_icmp_le (M := ML_isVersion) (t := 102) dL_isVersion_85 (by decide) (pc' := 88) rfl).mpr (ifT (by first | assumption | omega | (simp (disch := omega) only [nle_t, nle_f, nlt_t, nlt_f, neq_t, neq_f, i_lt0, i_le0, i_0le, i_0lt, i_eq0, i_lt, i_le, i_eq, nI_add, i_sub, i_cl, i_m1a, i_m1b, i_m1c, i_m1d, i_m1e, i_am1, i_ite0, not_true_eq_false, not_false_eq_true, or_self, or_false, false_or, or_true, true_or, and_self, and_true, true_and])) ?_)
  refine (ev_iconst (M := ML_isVersion) (v := (nI 0)) rfl dL_isVersion_102 (pc' := 103) rfl).mpr ?_
  refine eN_isub (M := ML_isVersion) dL_isVersion_103 (pc' := 104) rfl (by omega) ?_
  refine (ev_istore (M := ML_isVersion) dL_isVersion_104 (by decide) (pc' := 106) rfl).mpr ?_
  exact ev_more (by repeat (first | exact trivial | refine ⟨rfl, ?_⟩)) (by exact rfl) (by exact rfl) hq
end TST
