/-! areVersions -/
section AVS
variable {d X G : Nat} {va ba ca : Nat → Nat} {dr kl : List Nat} {vf vn : Nat → Nat} {vb ve : Nat → List Nat} {vp : Nat → Option Nat} {nx : Nat → Nat} {sv : Nat} {cb : Nat → List Nat} {us : Nat → Nat} {bl cs : List Nat} {co : Nat → List Nat} {op hi re st : Nat} {rw : List Nat} {bx : Nat → Nat} {ud : Nat} {T : TS}
section Z
variable {f v s n x y l : Nat} {w : Int32} {Q : Post}
theorem Z_av1 (k8 : tK T X = 8) (g1 : tK T G = 22) (g2 : tl T G = 7) (hf : f < 6) (hv : v < 64) (hs : s < 100000) (hn : n < 1000) (hb : bN (tJ T G f) v = 0) (c1 : Call (d + 7) 92 [.ref X, .int (nI f), .int (nI v)] T (.inl (some (.int (nI 0)))) T) (hq : Ev (d + 7) ML_areVersions [] 22 [(8, .int (nI (v + 1))), (7, .int w), (6, .int (nI f)), (5, .int (nI n)), (4, .int (nI s)), (0, .ref X), (1, .ref G), (2, .int (nI x)), (3, .int (nI y))] [] T Q) : Ev (d + 7) ML_areVersions [] 22 [(8, .int (nI v)), (7, .int w), (6, .int (nI f)), (5, .int (nI n)), (4, .int (nI s)), (0, .ref X), (1, .ref G), (2, .int (nI x)), (3, .int (nI y))] [] T Q := by
  have ci := C_isIn (d := d + 6) (T := T) (x := tJ T G f) (k := v) hv
  rw [hb] at ci
  refine eN_iload (M := ML_areVersions) dL_areVersions_22 (pc' := 24) rfl rfl ?_
  refine (ev_bipush (M := ML_areVersions) (v := (nI 64)) rfl dL_areVersions_24 (pc' := 26) rfl).mpr ?_
  refine (ev_icmp_ge (M := ML_areVersions) (t := 129) dL_areVersions_26 (by decide) (pc' := 29) rfl).mpr (ifF (by first | assumption | omega | rfl | exact fun q => q (by assumption) | exact fun q => q rfl | (simp (disch := omega) only [nle_t, nle_f, nlt_t, nlt_f, neq_t, neq_f, i_lt0, i_le0, i_0le, i_0lt, i_eq0, i_lt, i_le, i_eq, nI_add, i_sub, i_cl, i_m1a, i_m1b, i_m1c, i_m1d, i_m1e, i_am1, i_ite0, m1_le, m1_m1, m1_ge0, not_true_eq_false, not_false_eq_true, or_self, or_false, false_or, or_true, true_or, and_self, and_true, true_and])) ?_)
  refine eN_aload_n (M := ML_areVersions) (k := 1) rfl dL_areVersions_29 (pc' := 30) rfl rfl ?_
  refine eN_iload (M := ML_areVersions) dL_areVersions_30 (pc' := 32) rfl rfl ?_
  refine eN_laload (M := ML_areVersions) dL_areVersions_32 (pc' := 33) rfl (by assumption) (by assumption) (by omega) ?_
  refine eN_iload (M := ML_areVersions) dL_areVersions_33 (pc' := 35) rfl rfl ?_
  refine (ev_cS2 (M := ML_areVersions) dL_areVersions_35 c_9_10 (by decide) mL_isIn rfl rfl (pc' := 38) rfl).mpr ⟨(Nat.le_of_ble_eq_true rfl), eN_c ci (by first | rfl | (simp (disch := omega) only [nI_add, i_sub]) | (simp only [*])) ?_⟩
  refine (ev_istore (M := ML_areVersions) dL_areVersions_38 (by decide) (pc' := 40) rfl).mpr ?_
  refine eN_aload_n (M := ML_areVersions) (k := 0) rfl dL_areVersions_40 (pc' := 41) rfl rfl ?_
  refine eN_iload (M := ML_areVersions) dL_areVersions_41 (pc' := 43) rfl rfl ?_
  refine eN_iload (M := ML_areVersions) dL_areVersions_43 (pc' := 45) rfl rfl ?_
  refine (ev_cV2 (M := ML_areVersions) (kk := 8) dL_areVersions_45 c_9_51 mX6_isKept rfl rfl (by decide) rfl (pc' := 48) rfl).mpr ⟨(by assumption), (Nat.le_of_ble_eq_true rfl), eN_c c1 (by first | rfl | (simp (disch := omega) only [nI_add, i_sub]) | (simp only [*])) ?_⟩
  refine eN_iload (M := ML_areVersions) dL_areVersions_48 (pc' := 50) rfl rfl ?_
  refine (ev_icmp_ne (M := ML_areVersions) (t := 70) dL_areVersions_50 (by decide) (pc' := 53) rfl).mpr (ifF (by first | assumption | omega | rfl | exact fun q => q (by assumption) | exact fun q => q rfl | (simp (disch := omega) only [nle_t, nle_f, nlt_t, nlt_f, neq_t, neq_f, i_lt0, i_le0, i_0le, i_0lt, i_eq0, i_lt, i_le, i_eq, nI_add, i_sub, i_cl, i_m1a, i_m1b, i_m1c, i_m1d, i_m1e, i_am1, i_ite0, m1_le, m1_m1, m1_ge0, not_true_eq_false, not_false_eq_true, or_self, or_false, false_or, or_true, true_or, and_self, and_true, true_and])) ?_)
  refine eN_iload (M := ML_areVersions) dL_areVersions_53 (pc' := 55) rfl rfl ?_
  refine (ev_if_eq (M := ML_areVersions) (t := 72) dL_areVersions_55 (by decide) (pc' := 58) rfl).mpr (ifT (by first | assumption | omega | rfl | exact fun q => q (by assumption) | exact fun q => q rfl | (simp (disch := omega) only [nle_t, nle_f, nlt_t, nlt_f, neq_t, neq_f, i_lt0, i_le0, i_0le, i_0lt, i_eq0, i_lt, i_le, i_eq, nI_add, i_sub, i_cl, i_m1a, i_m1b, i_m1c, i_m1d, i_m1e, i_am1, i_ite0, m1_le, m1_m1, m1_ge0, not_true_eq_false, not_false_eq_true, or_self, or_false, false_or, or_true, true_or, and_self, and_true, true_and])) ?_)
  refine eN_iload (M := ML_areVersions) dL_areVersions_72 (pc' := 74) rfl rfl ?_
  refine eN_iload (M := ML_areVersions) dL_areVersions_74 (pc' := 76) rfl rfl ?_
  refine (ev_if_eq (M := ML_areVersions) (t := 90) dL_areVersions_76 (by decide) (pc' := 79) rfl).mpr (ifT (by first | assumption | omega | rfl | exact fun q => q (by assumption) | exact fun q => q rfl | (simp (disch := omega) only [nle_t, nle_f, nlt_t, nlt_f, neq_t, neq_f, i_lt0, i_le0, i_0le, i_0lt, i_eq0, i_lt, i_le, i_eq, nI_add, i_sub, i_cl, i_m1a, i_m1b, i_m1c, i_m1d, i_m1e, i_am1, i_ite0, m1_le, m1_m1, m1_ge0, not_true_eq_false, not_false_eq_true, or_self, or_false, false_or, or_true, true_or, and_self, and_true, true_and])) ?_)
  refine (ev_iconst (M := ML_areVersions) (v := (nI 0)) rfl dL_areVersions_90 (pc' := 91) rfl).mpr ?_
  refine eN_iadd (M := ML_areVersions) dL_areVersions_91 (pc' := 92) rfl ?_
  refine (ev_istore (M := ML_areVersions) dL_areVersions_92 (by decide) (pc' := 94) rfl).mpr ?_
  refine eN_iload (M := ML_areVersions) dL_areVersions_94 (pc' := 96) rfl rfl ?_
  refine eN_iload (M := ML_areVersions) dL_areVersions_96 (pc' := 98) rfl rfl ?_
  refine (ev_if_eq (M := ML_areVersions) (t := 105) dL_areVersions_98 (by decide) (pc' := 101) rfl).mpr (ifT (by first | assumption | omega | rfl | exact fun q => q (by assumption) | exact fun q => q rfl | (simp (disch := omega) only [nle_t, nle_f, nlt_t, nlt_f, neq_t, neq_f, i_lt0, i_le0, i_0le, i_0lt, i_eq0, i_lt, i_le, i_eq, nI_add, i_sub, i_cl, i_m1a, i_m1b, i_m1c, i_m1d, i_m1e, i_am1, i_ite0, m1_le, m1_m1, m1_ge0, not_true_eq_false, not_false_eq_true, or_self, or_false, false_or, or_true, true_or, and_self, and_true, true_and])) ?_)
  refine (ev_iconst (M := ML_areVersions) (v := (nI 0)) rfl dL_areVersions_105 (pc' := 106) rfl).mpr ?_
  refine eN_iadd (M := ML_areVersions) dL_areVersions_106 (pc' := 107) rfl ?_
  refine (ev_istore (M := ML_areVersions) dL_areVersions_107 (by decide) (pc' := 109) rfl).mpr ?_
  refine eN_iload (M := ML_areVersions) dL_areVersions_109 (pc' := 111) rfl rfl ?_
  refine (ev_if_eq (M := ML_areVersions) (t := 119) dL_areVersions_111 (by decide) (pc' := 114) rfl).mpr (ifT (by first | assumption | omega | rfl | exact fun q => q (by assumption) | exact fun q => q rfl | (simp (disch := omega) only [nle_t, nle_f, nlt_t, nlt_f, neq_t, neq_f, i_lt0, i_le0, i_0le, i_0lt, i_eq0, i_lt, i_le, i_eq, nI_add, i_sub, i_cl, i_m1a, i_m1b, i_m1c, i_m1d, i_m1e, i_am1, i_ite0, m1_le, m1_m1, m1_ge0, not_true_eq_false, not_false_eq_true, or_self, or_false, false_or, or_true, true_or, and_self, and_true, true_and])) ?_)
  refine eN_iload (M := ML_areVersions) dL_areVersions_119 (pc' := 121) rfl rfl ?_
  refine (ev_istore (M := ML_areVersions) dL_areVersions_121 (by decide) (pc' := 123) rfl).mpr ?_
  refine eN_iinc (M := ML_areVersions) (v := 1) rfl dL_areVersions_123 (by decide) (pc' := 126) rfl rfl ?_
  refine (ev_goto (M := ML_areVersions) (pc' := 22) dL_areVersions_126 (by decide)).mpr ?_
  exact ev_more (by repeat (first | exact trivial | refine ⟨rfl, ?_⟩)) (by exact rfl) (by exact rfl) hq
theorem Z_av2 (k8 : tK T X = 8) (g1 : tK T G = 22) (g2 : tl T G = 7) (hf : f < 6) (hv : v < 64) (hs : s < 100000) (hn : n < 1000) (hl : l ≤ 240) (hb : bN (tJ T G f) v = 1) (c1 : Call (d + 7) 92 [.ref X, .int (nI f), .int (nI v)] T (.inl (some (.int (nI 1)))) T) (c2 : Call (d + 7) 134 [.ref X, .ref G, .int (nI f), .int (nI v)] T (.inl (some (.int (nI 1)))) T) (c3 : Call (d + 7) 94 [.ref X, .int (nI f), .int (nI v)] T (.inl (some (.int (nI l)))) T) (hq : Ev (d + 7) ML_areVersions [] 22 [(8, .int (nI (v + 1))), (7, .int (nI v)), (6, .int (nI f)), (5, .int (nI (n + 1))), (4, .int (nI (s + l))), (0, .ref X), (1, .ref G), (2, .int (nI x)), (3, .int (nI y))] [] T Q) : Ev (d + 7) ML_areVersions [] 22 [(8, .int (nI v)), (7, .int w), (6, .int (nI f)), (5, .int (nI n)), (4, .int (nI s)), (0, .ref X), (1, .ref G), (2, .int (nI x)), (3, .int (nI y))] [] T Q := by
  have ci := C_isIn (d := d + 6) (T := T) (x := tJ T G f) (k := v) hv
  rw [hb] at ci
  refine eN_iload (M := ML_areVersions) dL_areVersions_22 (pc' := 24) rfl rfl ?_
  refine (ev_bipush (M := ML_areVersions) (v := (nI 64)) rfl dL_areVersions_24 (pc' := 26) rfl).mpr ?_
  refine (ev_icmp_ge (M := ML_areVersions) (t := 129) dL_areVersions_26 (by decide) (pc' := 29) rfl).mpr (ifF (by first | assumption | omega | rfl | exact fun q => q (by assumption) | exact fun q => q rfl | (simp (disch := omega) only [nle_t, nle_f, nlt_t, nlt_f, neq_t, neq_f, i_lt0, i_le0, i_0le, i_0lt, i_eq0, i_lt, i_le, i_eq, nI_add, i_sub, i_cl, i_m1a, i_m1b, i_m1c, i_m1d, i_m1e, i_am1, i_ite0, m1_le, m1_m1, m1_ge0, not_true_eq_false, not_false_eq_true, or_self, or_false, false_or, or_true, true_or, and_self, and_true, true_and])) ?_)
  refine eN_aload_n (M := ML_areVersions) (k := 1) rfl dL_areVersions_29 (pc' := 30) rfl rfl ?_
  refine eN_iload (M := ML_areVersions) dL_areVersions_30 (pc' := 32) rfl rfl ?_
  refine eN_laload (M := ML_areVersions) dL_areVersions_32 (pc' := 33) rfl (by assumption) (by assumption) (by omega) ?_
  refine eN_iload (M := ML_areVersions) dL_areVersions_33 (pc' := 35) rfl rfl ?_
  refine (ev_cS2 (M := ML_areVersions) dL_areVersions_35 c_9_10 (by decide) mL_isIn rfl rfl (pc' := 38) rfl).mpr ⟨(Nat.le_of_ble_eq_true rfl), eN_c ci (by first | rfl | (simp (disch := omega) only [nI_add, i_sub]) | (simp only [*])) ?_⟩
  refine (ev_istore (M := ML_areVersions) dL_areVersions_38 (by decide) (pc' := 40) rfl).mpr ?_
  refine eN_aload_n (M := ML_areVersions) (k := 0) rfl dL_areVersions_40 (pc' := 41) rfl rfl ?_
  refine eN_iload (M := ML_areVersions) dL_areVersions_41 (pc' := 43) rfl rfl ?_
  refine eN_iload (M := ML_areVersions) dL_areVersions_43 (pc' := 45) rfl rfl ?_
  refine (ev_cV2 (M := ML_areVersions) (kk := 8) dL_areVersions_45 c_9_51 mX6_isKept rfl rfl (by decide) rfl (pc' := 48) rfl).mpr ⟨(by assumption), (Nat.le_of_ble_eq_true rfl), eN_c c1 (by first | rfl | (simp (disch := omega) only [nI_add, i_sub]) | (simp only [*])) ?_⟩
  refine eN_iload (M := ML_areVersions) dL_areVersions_48 (pc' := 50) rfl rfl ?_
  refine (ev_icmp_ne (M := ML_areVersions) (t := 70) dL_areVersions_50 (by decide) (pc' := 53) rfl).mpr (ifF (by first | assumption | omega | rfl | exact fun q => q (by assumption) | exact fun q => q rfl | (simp (disch := omega) only [nle_t, nle_f, nlt_t, nlt_f, neq_t, neq_f, i_lt0, i_le0, i_0le, i_0lt, i_eq0, i_lt, i_le, i_eq, nI_add, i_sub, i_cl, i_m1a, i_m1b, i_m1c, i_m1d, i_m1e, i_am1, i_ite0, m1_le, m1_m1, m1_ge0, not_true_eq_false, not_false_eq_true, or_self, or_false, false_or, or_true, true_or, and_self, and_true, true_and])) ?_)
  refine eN_iload (M := ML_areVersions) dL_areVersions_53 (pc' := 55) rfl rfl ?_
  refine (ev_if_eq (M := ML_areVersions) (t := 72) dL_areVersions_55 (by decide) (pc' := 58) rfl).mpr (ifF (by first | assumption | omega | rfl | exact fun q => q (by assumption) | exact fun q => q rfl | (simp (disch := omega) only [nle_t, nle_f, nlt_t, nlt_f, neq_t, neq_f, i_lt0, i_le0, i_0le, i_0lt, i_eq0, i_lt, i_le, i_eq, nI_add, i_sub, i_cl, i_m1a, i_m1b, i_m1c, i_m1d, i_m1e, i_am1, i_ite0, m1_le, m1_m1, m1_ge0, not_true_eq_false, not_false_eq_true, or_self, or_false, false_or, or_true, true_or, and_self, and_true, true_and])) ?_)
  refine eN_aload_n (M := ML_areVersions) (k := 0) rfl dL_areVersions_58 (pc' := 59) rfl rfl ?_
  refine eN_aload_n (M := ML_areVersions) (k := 1) rfl dL_areVersions_59 (pc' := 60) rfl rfl ?_
  refine eN_iload (M := ML_areVersions) dL_areVersions_60 (pc' := 62) rfl rfl ?_
  refine eN_iload (M := ML_areVersions) dL_areVersions_62 (pc' := 64) rfl rfl ?_
  refine (ev_cS4 (M := ML_areVersions) dL_areVersions_64 c_9_55 (by decide) mL_isListed rfl rfl (pc' := 67) rfl).mpr ⟨(Nat.le_of_ble_eq_true rfl), eN_c c2 (by first | rfl | (simp (disch := omega) only [nI_add, i_sub]) | (simp only [*])) ?_⟩
  refine (ev_if_ne (M := ML_areVersions) (t := 72) dL_areVersions_67 (by decide) (pc' := 70) rfl).mpr (ifT (by first | assumption | omega | rfl | exact fun q => q (by assumption) | exact fun q => q rfl | (simp (disch := omega) only [nle_t, nle_f, nlt_t, nlt_f, neq_t, neq_f, i_lt0, i_le0, i_0le, i_0lt, i_eq0, i_lt, i_le, i_eq, nI_add, i_sub, i_cl, i_m1a, i_m1b, i_m1c, i_m1d, i_m1e, i_am1, i_ite0, m1_le, m1_m1, m1_ge0, not_true_eq_false, not_false_eq_true, or_self, or_false, false_or, or_true, true_or, and_self, and_true, true_and])) ?_)
  refine eN_iload (M := ML_areVersions) dL_areVersions_72 (pc' := 74) rfl rfl ?_
  refine eN_iload (M := ML_areVersions) dL_areVersions_74 (pc' := 76) rfl rfl ?_
  refine (ev_if_eq (M := ML_areVersions) (t := 90) dL_areVersions_76 (by decide) (pc' := 79) rfl).mpr (ifF (by first | assumption | omega | rfl | exact fun q => q (by assumption) | exact fun q => q rfl | (simp (disch := omega) only [nle_t, nle_f, nlt_t, nlt_f, neq_t, neq_f, i_lt0, i_le0, i_0le, i_0lt, i_eq0, i_lt, i_le, i_eq, nI_add, i_sub, i_cl, i_m1a, i_m1b, i_m1c, i_m1d, i_m1e, i_am1, i_ite0, m1_le, m1_m1, m1_ge0, not_true_eq_false, not_false_eq_true, or_self, or_false, false_or, or_true, true_or, and_self, and_true, true_and])) ?_)
  refine eN_aload_n (M := ML_areVersions) (k := 0) rfl dL_areVersions_79 (pc' := 80) rfl rfl ?_
  refine eN_iload (M := ML_areVersions) dL_areVersions_80 (pc' := 82) rfl rfl ?_
  refine eN_iload (M := ML_areVersions) dL_areVersions_82 (pc' := 84) rfl rfl ?_
  refine (ev_cV2 (M := ML_areVersions) (kk := 8) dL_areVersions_84 c_9_16 mX6_length rfl rfl (by decide) rfl (pc' := 87) rfl).mpr ⟨(by assumption), (Nat.le_of_ble_eq_true rfl), eN_c c3 (by first | rfl | (simp (disch := omega) only [nI_add, i_sub]) | (simp only [*])) ?_⟩
  refine (ev_goto (M := ML_areVersions) (pc' := 91) dL_areVersions_87 (by decide)).mpr ?_
  refine eN_iadd (M := ML_areVersions) dL_areVersions_91 (pc' := 92) rfl ?_
  refine (ev_istore (M := ML_areVersions) dL_areVersions_92 (by decide) (pc' := 94) rfl).mpr ?_
  refine eN_iload (M := ML_areVersions) dL_areVersions_94 (pc' := 96) rfl rfl ?_
  refine eN_iload (M := ML_areVersions) dL_areVersions_96 (pc' := 98) rfl rfl ?_
  refine (ev_if_eq (M := ML_areVersions) (t := 105) dL_areVersions_98 (by decide) (pc' := 101) rfl).mpr (ifF (by first | assumption | omega | rfl | exact fun q => q (by assumption) | exact fun q => q rfl | (simp (disch := omega) only [nle_t, nle_f, nlt_t, nlt_f, neq_t, neq_f, i_lt0, i_le0, i_0le, i_0lt, i_eq0, i_lt, i_le, i_eq, nI_add, i_sub, i_cl, i_m1a, i_m1b, i_m1c, i_m1d, i_m1e, i_am1, i_ite0, m1_le, m1_m1, m1_ge0, not_true_eq_false, not_false_eq_true, or_self, or_false, false_or, or_true, true_or, and_self, and_true, true_and])) ?_)
  refine (ev_iconst (M := ML_areVersions) (v := (nI 1)) rfl dL_areVersions_101 (pc' := 102) rfl).mpr ?_
  refine (ev_goto (M := ML_areVersions) (pc' := 106) dL_areVersions_102 (by decide)).mpr ?_
  refine eN_iadd (M := ML_areVersions) dL_areVersions_106 (pc' := 107) rfl ?_
  refine (ev_istore (M := ML_areVersions) dL_areVersions_107 (by decide) (pc' := 109) rfl).mpr ?_
  refine eN_iload (M := ML_areVersions) dL_areVersions_109 (pc' := 111) rfl rfl ?_
  refine (ev_if_eq (M := ML_areVersions) (t := 119) dL_areVersions_111 (by decide) (pc' := 114) rfl).mpr (ifF (by first | assumption | omega | rfl | exact fun q => q (by assumption) | exact fun q => q rfl | (simp (disch := omega) only [nle_t, nle_f, nlt_t, nlt_f, neq_t, neq_f, i_lt0, i_le0, i_0le, i_0lt, i_eq0, i_lt, i_le, i_eq, nI_add, i_sub, i_cl, i_m1a, i_m1b, i_m1c, i_m1d, i_m1e, i_am1, i_ite0, m1_le, m1_m1, m1_ge0, not_true_eq_false, not_false_eq_true, or_self, or_false, false_or, or_true, true_or, and_self, and_true, true_and])) ?_)
  refine eN_iload (M := ML_areVersions) dL_areVersions_114 (pc' := 116) rfl rfl ?_
  refine (ev_goto (M := ML_areVersions) (pc' := 121) dL_areVersions_116 (by decide)).mpr ?_
  refine (ev_istore (M := ML_areVersions) dL_areVersions_121 (by decide) (pc' := 123) rfl).mpr ?_
  refine eN_iinc (M := ML_areVersions) (v := 1) rfl dL_areVersions_123 (by decide) (pc' := 126) rfl rfl ?_
  refine (ev_goto (M := ML_areVersions) (pc' := 22) dL_areVersions_126 (by decide)).mpr ?_
  exact ev_more (by repeat (first | exact trivial | refine ⟨rfl, ?_⟩)) (by exact rfl) (by exact rfl) hq
theorem Z_av3 (k8 : tK T X = 8) (hf : f < 6) (c1 : Call (d + 7) 93 [.ref X, .int (nI f)] T (.inl (some (.int w))) T) (hq : Ev (d + 7) ML_areVersions [] 9 [(6, .int (nI (f + 1))), (5, .int (nI n)), (4, .int (nI s)), (0, .ref X), (1, .ref G), (2, .int (nI x)), (3, .int (nI y))] [] T Q) : Ev (d + 7) ML_areVersions [] 22 [(8, .int (nI 64)), (7, .int w), (6, .int (nI f)), (5, .int (nI n)), (4, .int (nI s)), (0, .ref X), (1, .ref G), (2, .int (nI x)), (3, .int (nI y))] [] T Q := by
  refine eN_iload (M := ML_areVersions) dL_areVersions_22 (pc' := 24) rfl rfl ?_
  refine (ev_bipush (M := ML_areVersions) (v := (nI 64)) rfl dL_areVersions_24 (pc' := 26) rfl).mpr ?_
  refine (ev_icmp_ge (M := ML_areVersions) (t := 129) dL_areVersions_26 (by decide) (pc' := 29) rfl).mpr (ifT (by first | assumption | omega | rfl | exact fun q => q (by assumption) | exact fun q => q rfl | (simp (disch := omega) only [nle_t, nle_f, nlt_t, nlt_f, neq_t, neq_f, i_lt0, i_le0, i_0le, i_0lt, i_eq0, i_lt, i_le, i_eq, nI_add, i_sub, i_cl, i_m1a, i_m1b, i_m1c, i_m1d, i_m1e, i_am1, i_ite0, m1_le, m1_m1, m1_ge0, not_true_eq_false, not_false_eq_true, or_self, or_false, false_or, or_true, true_or, and_self, and_true, true_and])) ?_)
  refine eN_aload_n (M := ML_areVersions) (k := 0) rfl dL_areVersions_129 (pc' := 130) rfl rfl ?_
  refine eN_iload (M := ML_areVersions) dL_areVersions_130 (pc' := 132) rfl rfl ?_
  refine (ev_cV1 (M := ML_areVersions) (kk := 8) dL_areVersions_132 c_9_59 mX6_latest rfl rfl (by decide) rfl (pc' := 135) rfl).mpr ⟨(by assumption), (Nat.le_of_ble_eq_true rfl), eN_c c1 (by first | rfl | (simp (disch := omega) only [nI_add, i_sub]) | (simp only [*])) ?_⟩
  refine eN_iload (M := ML_areVersions) dL_areVersions_135 (pc' := 137) rfl rfl ?_
  refine (ev_icmp_eq (M := ML_areVersions) (t := 142) dL_areVersions_137 (by decide) (pc' := 140) rfl).mpr (ifT (by first | assumption | omega | rfl | exact fun q => q (by assumption) | exact fun q => q rfl | (simp (disch := omega) only [nle_t, nle_f, nlt_t, nlt_f, neq_t, neq_f, i_lt0, i_le0, i_0le, i_0lt, i_eq0, i_lt, i_le, i_eq, nI_add, i_sub, i_cl, i_m1a, i_m1b, i_m1c, i_m1d, i_m1e, i_am1, i_ite0, m1_le, m1_m1, m1_ge0, not_true_eq_false, not_false_eq_true, or_self, or_false, false_or, or_true, true_or, and_self, and_true, true_and])) ?_)
  refine eN_iinc (M := ML_areVersions) (v := 1) rfl dL_areVersions_142 (by decide) (pc' := 145) rfl rfl ?_
  refine (ev_goto (M := ML_areVersions) (pc' := 9) dL_areVersions_145 (by decide)).mpr ?_
  exact ev_more (by repeat (first | exact trivial | refine ⟨rfl, ?_⟩)) (by exact rfl) (by exact rfl) hq
theorem Z_av4 (hf : f < 6) (hq : Ev (d + 7) ML_areVersions [] 22 [(8, .int (nI 0)), (7, .int (-1)), (6, .int (nI f)), (5, .int (nI n)), (4, .int (nI s)), (0, .ref X), (1, .ref G), (2, .int (nI x)), (3, .int (nI y))] [] T Q) : Ev (d + 7) ML_areVersions [] 9 [(6, .int (nI f)), (5, .int (nI n)), (4, .int (nI s)), (0, .ref X), (1, .ref G), (2, .int (nI x)), (3, .int (nI y))] [] T Q := by
  refine eN_iload (M := ML_areVersions) dL_areVersions_9 (pc' := 11) rfl rfl ?_
  refine (ev_bipush (M := ML_areVersions) (v := (nI 6)) rfl dL_areVersions_11 (pc' := 13) rfl).mpr ?_
  refine (ev_icmp_ge (M := ML_areVersions) (t := 148) dL_areVersions_13 (by decide) (pc' := 16) rfl).mpr (ifF (by first | assumption | omega | rfl | exact fun q => q (by assumption) | exact fun q => q rfl | (simp (disch := omega) only [nle_t, nle_f, nlt_t, nlt_f, neq_t, neq_f, i_lt0, i_le0, i_0le, i_0lt, i_eq0, i_lt, i_le, i_eq, nI_add, i_sub, i_cl, i_m1a, i_m1b, i_m1c, i_m1d, i_m1e, i_am1, i_ite0, m1_le, m1_m1, m1_ge0, not_true_eq_false, not_false_eq_true, or_self, or_false, false_or, or_true, true_or, and_self, and_true, true_and])) ?_)
  refine (ev_iconst (M := ML_areVersions) (v := (-1)) rfl dL_areVersions_16 (pc' := 17) rfl).mpr ?_
  refine (ev_istore (M := ML_areVersions) dL_areVersions_17 (by decide) (pc' := 19) rfl).mpr ?_
  refine (ev_iconst (M := ML_areVersions) (v := (nI 0)) rfl dL_areVersions_19 (pc' := 20) rfl).mpr ?_
  refine (ev_istore (M := ML_areVersions) dL_areVersions_20 (by decide) (pc' := 22) rfl).mpr ?_
  exact ev_more (by repeat (first | exact trivial | refine ⟨rfl, ?_⟩)) (by exact rfl) (by exact rfl) hq
/-- behind the loops: two versions are looked for -/
theorem Z_av5 {p q : Int32} (hx : x < 2147483648) (hy : y < 2147483648) (c1 : Call (d + 7) 132 [.ref G, .int (nI (x % 6)), .int (nI (x / 6 % 64))] T (.inl (some (.int p))) T) (c2 : Call (d + 7) 132 [.ref G, .int (nI (y % 6)), .int (nI (y / 6 % 64))] T (.inl (some (.int q))) T) (hq : Ev (d + 7) ML_areVersions [] 190 [(9, .int q), (8, .int p), (7, .int (nI (y % 6))), (6, .int (nI (x % 6))), (5, .int (nI n)), (4, .int (nI s)), (0, .ref X), (1, .ref G), (2, .int (nI x)), (3, .int (nI y))] [] T Q) : Ev (d + 7) ML_areVersions [] 9 [(6, .int (nI 6)), (5, .int (nI n)), (4, .int (nI s)), (0, .ref X), (1, .ref G), (2, .int (nI x)), (3, .int (nI y))] [] T Q := by
  refine eN_iload (M := ML_areVersions) dL_areVersions_9 (pc' := 11) rfl rfl ?_
  refine (ev_bipush (M := ML_areVersions) (v := (nI 6)) rfl dL_areVersions_11 (pc' := 13) rfl).mpr ?_
  refine (ev_icmp_ge (M := ML_areVersions) (t := 148) dL_areVersions_13 (by decide) (pc' := 16) rfl).mpr (ifT (by first | assumption | omega | rfl | exact fun q => q (by assumption) | exact fun q => q rfl | (simp (disch := omega) only [nle_t, nle_f, nlt_t, nlt_f, neq_t, neq_f, i_lt0, i_le0, i_0le, i_0lt, i_eq0, i_lt, i_le, i_eq, nI_add, i_sub, i_cl, i_m1a, i_m1b, i_m1c, i_m1d, i_m1e, i_am1, i_ite0, m1_le, m1_m1, m1_ge0, not_true_eq_false, not_false_eq_true, or_self, or_false, false_or, or_true, true_or, and_self, and_true, true_and])) ?_)
  refine eN_iload_n (M := ML_areVersions) (k := 2) rfl dL_areVersions_148 (pc' := 149) rfl rfl ?_
  refine (ev_bipush (M := ML_areVersions) (v := (nI 6)) rfl dL_areVersions_149 (pc' := 151) rfl).mpr ?_
  refine eN_irem (M := ML_areVersions) dL_areVersions_151 (pc' := 152) rfl (by omega) ?_
  refine (ev_istore (M := ML_areVersions) dL_areVersions_152 (by decide) (pc' := 154) rfl).mpr ?_
  refine eN_iload_n (M := ML_areVersions) (k := 3) rfl dL_areVersions_154 (pc' := 155) rfl rfl ?_
  refine (ev_bipush (M := ML_areVersions) (v := (nI 6)) rfl dL_areVersions_155 (pc' := 157) rfl).mpr ?_
  refine eN_irem (M := ML_areVersions) dL_areVersions_157 (pc' := 158) rfl (by omega) ?_
  refine (ev_istore (M := ML_areVersions) dL_areVersions_158 (by decide) (pc' := 160) rfl).mpr ?_
  refine eN_aload_n (M := ML_areVersions) (k := 1) rfl dL_areVersions_160 (pc' := 161) rfl rfl ?_
  refine eN_iload (M := ML_areVersions) dL_areVersions_161 (pc' := 163) rfl rfl ?_
  refine eN_iload_n (M := ML_areVersions) (k := 2) rfl dL_areVersions_163 (pc' := 164) rfl rfl ?_
  refine (ev_bipush (M := ML_areVersions) (v := (nI 6)) rfl dL_areVersions_164 (pc' := 166) rfl).mpr ?_
  refine eN_idiv (M := ML_areVersions) dL_areVersions_166 (pc' := 167) rfl (by omega) ?_
  refine (ev_bipush (M := ML_areVersions) (v := (nI 64)) rfl dL_areVersions_167 (pc' := 169) rfl).mpr ?_
  refine eN_irem (M := ML_areVersions) dL_areVersions_169 (pc' := 170) rfl (by omega) ?_
  refine (ev_cS3 (M := ML_areVersions) dL_areVersions_170 c_9_62 (by decide) mL_kept rfl rfl (pc' := 173) rfl).mpr ⟨(Nat.le_of_ble_eq_true rfl), eN_c c1 (by first | rfl | (simp (disch := omega) only [nI_add, i_sub]) | (simp only [*])) ?_⟩
  refine (ev_istore (M := ML_areVersions) dL_areVersions_173 (by decide) (pc' := 175) rfl).mpr ?_
  refine eN_aload_n (M := ML_areVersions) (k := 1) rfl dL_areVersions_175 (pc' := 176) rfl rfl ?_
  refine eN_iload (M := ML_areVersions) dL_areVersions_176 (pc' := 178) rfl rfl ?_
  refine eN_iload_n (M := ML_areVersions) (k := 3) rfl dL_areVersions_178 (pc' := 179) rfl rfl ?_
  refine (ev_bipush (M := ML_areVersions) (v := (nI 6)) rfl dL_areVersions_179 (pc' := 181) rfl).mpr ?_
  refine eN_idiv (M := ML_areVersions) dL_areVersions_181 (pc' := 182) rfl (by omega) ?_
  refine (ev_bipush (M := ML_areVersions) (v := (nI 64)) rfl dL_areVersions_182 (pc' := 184) rfl).mpr ?_
  refine eN_irem (M := ML_areVersions) dL_areVersions_184 (pc' := 185) rfl (by omega) ?_
  refine (ev_cS3 (M := ML_areVersions) dL_areVersions_185 c_9_62 (by decide) mL_kept rfl rfl (pc' := 188) rfl).mpr ⟨(Nat.le_of_ble_eq_true rfl), eN_c c2 (by first | rfl | (simp (disch := omega) only [nI_add, i_sub]) | (simp only [*])) ?_⟩
  refine (ev_istore (M := ML_areVersions) dL_areVersions_188 (by decide) (pc' := 190) rfl).mpr ?_
  exact ev_more (by repeat (first | exact trivial | refine ⟨rfl, ?_⟩)) (by exact rfl) (by exact rfl) hq
theorem Z_av6 {q : Int32} {g h : Nat} (k8 : tK T X = 8) (hn : n < 1000) (hs : s < 100000) (c1 : Call (d + 7) 91 [.ref X] T (.inl (some (.int (nI n)))) T) (c2 : Call (d + 7) 114 [.ref X] T (.inl (some (.int (nI s)))) T) (hQ : Q (.inl (some (.int (nI 1)))) T) : Ev (d + 7) ML_areVersions [] 190 [(9, .int q), (8, .int (-1)), (7, .int (nI h)), (6, .int (nI g)), (5, .int (nI n)), (4, .int (nI s)), (0, .ref X), (1, .ref G), (2, .int (nI x)), (3, .int (nI y))] [] T Q := by
  refine eN_aload_n (M := ML_areVersions) (k := 0) rfl dL_areVersions_190 (pc' := 191) rfl rfl ?_
  refine (ev_cV0 (M := ML_areVersions) (kk := 8) dL_areVersions_191 c_9_66 mX6_versions rfl rfl (by decide) rfl (pc' := 194) rfl).mpr ⟨(by assumption), (Nat.le_of_ble_eq_true rfl), eN_c c1 (by first | rfl | (simp (disch := omega) only [nI_add, i_sub]) | (simp only [*])) ?_⟩
  refine eN_iload (M := ML_areVersions) dL_areVersions_194 (pc' := 196) rfl rfl ?_
  refine (ev_icmp_ne (M := ML_areVersions) (t := 228) dL_areVersions_196 (by decide) (pc' := 199) rfl).mpr (ifF (by first | assumption | omega | rfl | exact fun q => q (by assumption) | exact fun q => q rfl | (simp (disch := omega) only [nle_t, nle_f, nlt_t, nlt_f, neq_t, neq_f, i_lt0, i_le0, i_0le, i_0lt, i_eq0, i_lt, i_le, i_eq, nI_add, i_sub, i_cl, i_m1a, i_m1b, i_m1c, i_m1d, i_m1e, i_am1, i_ite0, m1_le, m1_m1, m1_ge0, not_true_eq_false, not_false_eq_true, or_self, or_false, false_or, or_true, true_or, and_self, and_true, true_and])) ?_)
  refine eN_aload_n (M := ML_areVersions) (k := 0) rfl dL_areVersions_199 (pc' := 200) rfl rfl ?_
  refine (ev_cV0 (M := ML_areVersions) (kk := 8) dL_areVersions_200 c_9_70 mX6_savedBytes rfl rfl (by decide) rfl (pc' := 203) rfl).mpr ⟨(by assumption), (Nat.le_of_ble_eq_true rfl), eN_c c2 (by first | rfl | (simp (disch := omega) only [nI_add, i_sub]) | (simp only [*])) ?_⟩
  refine eN_iload (M := ML_areVersions) dL_areVersions_203 (pc' := 205) rfl rfl ?_
  refine (ev_icmp_ne (M := ML_areVersions) (t := 228) dL_areVersions_205 (by decide) (pc' := 208) rfl).mpr (ifF (by first | assumption | omega | rfl | exact fun q => q (by assumption) | exact fun q => q rfl | (simp (disch := omega) only [nle_t, nle_f, nlt_t, nlt_f, neq_t, neq_f, i_lt0, i_le0, i_0le, i_0lt, i_eq0, i_lt, i_le, i_eq, nI_add, i_sub, i_cl, i_m1a, i_m1b, i_m1c, i_m1d, i_m1e, i_am1, i_ite0, m1_le, m1_m1, m1_ge0, not_true_eq_false, not_false_eq_true, or_self, or_false, false_or, or_true, true_or, and_self, and_true, true_and])) ?_)
  refine eN_iload (M := ML_areVersions) dL_areVersions_208 (pc' := 210) rfl rfl ?_
  refine (ev_if_lt (M := ML_areVersions) (t := 224) dL_areVersions_210 (by decide) (pc' := 213) rfl).mpr (ifT (by first | assumption | omega | rfl | exact fun q => q (by assumption) | exact fun q => q rfl | (simp (disch := omega) only [nle_t, nle_f, nlt_t, nlt_f, neq_t, neq_f, i_lt0, i_le0, i_0le, i_0lt, i_eq0, i_lt, i_le, i_eq, nI_add, i_sub, i_cl, i_m1a, i_m1b, i_m1c, i_m1d, i_m1e, i_am1, i_ite0, m1_le, m1_m1, m1_ge0, not_true_eq_false, not_false_eq_true, or_self, or_false, false_or, or_true, true_or, and_self, and_true, true_and])) ?_)
  refine (ev_iconst (M := ML_areVersions) (v := (nI 1)) rfl dL_areVersions_224 (pc' := 225) rfl).mpr ?_
  refine (ev_goto (M := ML_areVersions) (pc' := 229) dL_areVersions_225 (by decide)).mpr ?_
  refine (ev_istore (M := ML_areVersions) dL_areVersions_229 (by decide) (pc' := 231) rfl).mpr ?_
  refine eN_iload (M := ML_areVersions) dL_areVersions_231 (pc' := 233) rfl rfl ?_
  refine (ev_if_eq (M := ML_areVersions) (t := 275) dL_areVersions_233 (by decide) (pc' := 236) rfl).mpr (ifF (by first | assumption | omega | rfl | exact fun q => q (by assumption) | exact fun q => q rfl | (simp (disch := omega) only [nle_t, nle_f, nlt_t, nlt_f, neq_t, neq_f, i_lt0, i_le0, i_0le, i_0lt, i_eq0, i_lt, i_le, i_eq, nI_add, i_sub, i_cl, i_m1a, i_m1b, i_m1c, i_m1d, i_m1e, i_am1, i_ite0, m1_le, m1_m1, m1_ge0, not_true_eq_false, not_false_eq_true, or_self, or_false, false_or, or_true, true_or, and_self, and_true, true_and])) ?_)
  refine eN_iload (M := ML_areVersions) dL_areVersions_236 (pc' := 238) rfl rfl ?_
  refine (ev_if_lt (M := ML_areVersions) (t := 271) dL_areVersions_238 (by decide) (pc' := 241) rfl).mpr (ifT (by first | assumption | omega | rfl | exact fun q => q (by assumption) | exact fun q => q rfl | (simp (disch := omega) only [nle_t, nle_f, nlt_t, nlt_f, neq_t, neq_f, i_lt0, i_le0, i_0le, i_0lt, i_eq0, i_lt, i_le, i_eq, nI_add, i_sub, i_cl, i_m1a, i_m1b, i_m1c, i_m1d, i_m1e, i_am1, i_ite0, m1_le, m1_m1, m1_ge0, not_true_eq_false, not_false_eq_true, or_self, or_false, false_or, or_true, true_or, and_self, and_true, true_and])) ?_)
  refine (ev_iconst (M := ML_areVersions) (v := (nI 1)) rfl dL_areVersions_271 (pc' := 272) rfl).mpr ?_
  refine (ev_goto (M := ML_areVersions) (pc' := 276) dL_areVersions_272 (by decide)).mpr ?_
  refine (ev_zretI (M := ML_areVersions) rfl dL_areVersions_276 (by omega)).mpr ?_
  exact hQ
theorem Z_av7 {g h p : Nat} (k8 : tK T X = 8) (hn : n < 1000) (hs : s < 100000) (hp : p < 64) (c1 : Call (d + 7) 91 [.ref X] T (.inl (some (.int (nI n)))) T) (c2 : Call (d + 7) 114 [.ref X] T (.inl (some (.int (nI s)))) T) (c3 : Call (d + 7) 133 [.ref X, .int (nI g), .int (nI p)] T (.inl (some (.int (nI 1)))) T) (hQ : Q (.inl (some (.int (nI 1)))) T) : Ev (d + 7) ML_areVersions [] 190 [(9, .int (-1)), (8, .int (nI p)), (7, .int (nI h)), (6, .int (nI g)), (5, .int (nI n)), (4, .int (nI s)), (0, .ref X), (1, .ref G), (2, .int (nI x)), (3, .int (nI y))] [] T Q := by
  refine eN_aload_n (M := ML_areVersions) (k := 0) rfl dL_areVersions_190 (pc' := 191) rfl rfl ?_
  refine (ev_cV0 (M := ML_areVersions) (kk := 8) dL_areVersions_191 c_9_66 mX6_versions rfl rfl (by decide) rfl (pc' := 194) rfl).mpr ⟨(by assumption), (Nat.le_of_ble_eq_true rfl), eN_c c1 (by first | rfl | (simp (disch := omega) only [nI_add, i_sub]) | (simp only [*])) ?_⟩
  refine eN_iload (M := ML_areVersions) dL_areVersions_194 (pc' := 196) rfl rfl ?_
  refine (ev_icmp_ne (M := ML_areVersions) (t := 228) dL_areVersions_196 (by decide) (pc' := 199) rfl).mpr (ifF (by first | assumption | omega | rfl | exact fun q => q (by assumption) | exact fun q => q rfl | (simp (disch := omega) only [nle_t, nle_f, nlt_t, nlt_f, neq_t, neq_f, i_lt0, i_le0, i_0le, i_0lt, i_eq0, i_lt, i_le, i_eq, nI_add, i_sub, i_cl, i_m1a, i_m1b, i_m1c, i_m1d, i_m1e, i_am1, i_ite0, m1_le, m1_m1, m1_ge0, not_true_eq_false, not_false_eq_true, or_self, or_false, false_or, or_true, true_or, and_self, and_true, true_and])) ?_)
  refine eN_aload_n (M := ML_areVersions) (k := 0) rfl dL_areVersions_199 (pc' := 200) rfl rfl ?_
  refine (ev_cV0 (M := ML_areVersions) (kk := 8) dL_areVersions_200 c_9_70 mX6_savedBytes rfl rfl (by decide) rfl (pc' := 203) rfl).mpr ⟨(by assumption), (Nat.le_of_ble_eq_true rfl), eN_c c2 (by first | rfl | (simp (disch := omega) only [nI_add, i_sub]) | (simp only [*])) ?_⟩
  refine eN_iload (M := ML_areVersions) dL_areVersions_203 (pc' := 205) rfl rfl ?_
  refine (ev_icmp_ne (M := ML_areVersions) (t := 228) dL_areVersions_205 (by decide) (pc' := 208) rfl).mpr (ifF (by first | assumption | omega | rfl | exact fun q => q (by assumption) | exact fun q => q rfl | (simp (disch := omega) only [nle_t, nle_f, nlt_t, nlt_f, neq_t, neq_f, i_lt0, i_le0, i_0le, i_0lt, i_eq0, i_lt, i_le, i_eq, nI_add, i_sub, i_cl, i_m1a, i_m1b, i_m1c, i_m1d, i_m1e, i_am1, i_ite0, m1_le, m1_m1, m1_ge0, not_true_eq_false, not_false_eq_true, or_self, or_false, false_or, or_true, true_or, and_self, and_true, true_and])) ?_)
  refine eN_iload (M := ML_areVersions) dL_areVersions_208 (pc' := 210) rfl rfl ?_
  refine (ev_if_lt (M := ML_areVersions) (t := 224) dL_areVersions_210 (by decide) (pc' := 213) rfl).mpr (ifF (by first | assumption | omega | rfl | exact fun q => q (by assumption) | exact fun q => q rfl | (simp (disch := omega) only [nle_t, nle_f, nlt_t, nlt_f, neq_t, neq_f, i_lt0, i_le0, i_0le, i_0lt, i_eq0, i_lt, i_le, i_eq, nI_add, i_sub, i_cl, i_m1a, i_m1b, i_m1c, i_m1d, i_m1e, i_am1, i_ite0, m1_le, m1_m1, m1_ge0, not_true_eq_false, not_false_eq_true, or_self, or_false, false_or, or_true, true_or, and_self, and_true, true_and])) ?_)
  refine eN_aload_n (M := ML_areVersions) (k := 0) rfl dL_areVersions_213 (pc' := 214) rfl rfl ?_
  refine eN_iload (M := ML_areVersions) dL_areVersions_214 (pc' := 216) rfl rfl ?_
  refine eN_iload (M := ML_areVersions) dL_areVersions_216 (pc' := 218) rfl rfl ?_
  refine (ev_cS3 (M := ML_areVersions) dL_areVersions_218 c_9_73 (by decide) mL_isVersion rfl rfl (pc' := 221) rfl).mpr ⟨(Nat.le_of_ble_eq_true rfl), eN_c c3 (by first | rfl | (simp (disch := omega) only [nI_add, i_sub]) | (simp only [*])) ?_⟩
  refine (ev_if_eq (M := ML_areVersions) (t := 228) dL_areVersions_221 (by decide) (pc' := 224) rfl).mpr (ifF (by first | assumption | omega | rfl | exact fun q => q (by assumption) | exact fun q => q rfl | (simp (disch := omega) only [nle_t, nle_f, nlt_t, nlt_f, neq_t, neq_f, i_lt0, i_le0, i_0le, i_0lt, i_eq0, i_lt, i_le, i_eq, nI_add, i_sub, i_cl, i_m1a, i_m1b, i_m1c, i_m1d, i_m1e, i_am1, i_ite0, m1_le, m1_m1, m1_ge0, not_true_eq_false, not_false_eq_true, or_self, or_false, false_or, or_true, true_or, and_self, and_true, true_and])) ?_)
  refine (ev_iconst (M := ML_areVersions) (v := (nI 1)) rfl dL_areVersions_224 (pc' := 225) rfl).mpr ?_
  refine (ev_goto (M := ML_areVersions) (pc' := 229) dL_areVersions_225 (by decide)).mpr ?_
  refine (ev_istore (M := ML_areVersions) dL_areVersions_229 (by decide) (pc' := 231) rfl).mpr ?_
  refine eN_iload (M := ML_areVersions) dL_areVersions_231 (pc' := 233) rfl rfl ?_
  refine (ev_if_eq (M := ML_areVersions) (t := 275) dL_areVersions_233 (by decide) (pc' := 236) rfl).mpr (ifF (by first | assumption | omega | rfl | exact fun q => q (by assumption) | exact fun q => q rfl | (simp (disch := omega) only [nle_t, nle_f, nlt_t, nlt_f, neq_t, neq_f, i_lt0, i_le0, i_0le, i_0lt, i_eq0, i_lt, i_le, i_eq, nI_add, i_sub, i_cl, i_m1a, i_m1b, i_m1c, i_m1d, i_m1e, i_am1, i_ite0, m1_le, m1_m1, m1_ge0, not_true_eq_false, not_false_eq_true, or_self, or_false, false_or, or_true, true_or, and_self, and_true, true_and])) ?_)
  refine eN_iload (M := ML_areVersions) dL_areVersions_236 (pc' := 238) rfl rfl ?_
  refine (ev_if_lt (M := ML_areVersions) (t := 271) dL_areVersions_238 (by decide) (pc' := 241) rfl).mpr (ifF (by first | assumption | omega | rfl | exact fun q => q (by assumption) | exact fun q => q rfl | (simp (disch := omega) only [nle_t, nle_f, nlt_t, nlt_f, neq_t, neq_f, i_lt0, i_le0, i_0le, i_0lt, i_eq0, i_lt, i_le, i_eq, nI_add, i_sub, i_cl, i_m1a, i_m1b, i_m1c, i_m1d, i_m1e, i_am1, i_ite0, m1_le, m1_m1, m1_ge0, not_true_eq_false, not_false_eq_true, or_self, or_false, false_or, or_true, true_or, and_self, and_true, true_and])) ?_)
  refine eN_iload (M := ML_areVersions) dL_areVersions_241 (pc' := 243) rfl rfl ?_
  refine (ev_if_lt (M := ML_areVersions) (t := 271) dL_areVersions_243 (by decide) (pc' := 246) rfl).mpr (ifT (by first | assumption | omega | rfl | exact fun q => q (by assumption) | exact fun q => q rfl | (simp (disch := omega) only [nle_t, nle_f, nlt_t, nlt_f, neq_t, neq_f, i_lt0, i_le0, i_0le, i_0lt, i_eq0, i_lt, i_le, i_eq, nI_add, i_sub, i_cl, i_m1a, i_m1b, i_m1c, i_m1d, i_m1e, i_am1, i_ite0, m1_le, m1_m1, m1_ge0, not_true_eq_false, not_false_eq_true, or_self, or_false, false_or, or_true, true_or, and_self, and_true, true_and])) ?_)
  refine (ev_iconst (M := ML_areVersions) (v := (nI 1)) rfl dL_areVersions_271 (pc' := 272) rfl).mpr ?_
  refine (ev_goto (M := ML_areVersions) (pc' := 276) dL_areVersions_272 (by decide)).mpr ?_
  refine (ev_zretI (M := ML_areVersions) rfl dL_areVersions_276 (by omega)).mpr ?_
  exact hQ
theorem Z_av8 {g h p q : Nat} (k8 : tK T X = 8) (hx : x < 2147483648) (hy : y < 2147483648) (hn : n < 1000) (hs : s < 100000) (hp : p < 64) (hq : q < 64) (c1 : Call (d + 7) 91 [.ref X] T (.inl (some (.int (nI n)))) T) (c2 : Call (d + 7) 114 [.ref X] T (.inl (some (.int (nI s)))) T) (c3 : Call (d + 7) 133 [.ref X, .int (nI g), .int (nI p)] T (.inl (some (.int (nI 1)))) T) (c4 : Call (d + 7) 135 [.ref X, .int (nI g), .int (nI p), .int (nI h), .int (nI q), .int (nI (x / 400)), .int (nI (y / 400))] T (.inl (some (.int (nI 1)))) T) (hQ : Q (.inl (some (.int (nI 1)))) T) : Ev (d + 7) ML_areVersions [] 190 [(9, .int (nI q)), (8, .int (nI p)), (7, .int (nI h)), (6, .int (nI g)), (5, .int (nI n)), (4, .int (nI s)), (0, .ref X), (1, .ref G), (2, .int (nI x)), (3, .int (nI y))] [] T Q := by
  refine eN_aload_n (M := ML_areVersions) (k := 0) rfl dL_areVersions_190 (pc' := 191) rfl rfl ?_
  refine (ev_cV0 (M := ML_areVersions) (kk := 8) dL_areVersions_191 c_9_66 mX6_versions rfl rfl (by decide) rfl (pc' := 194) rfl).mpr ⟨(by assumption), (Nat.le_of_ble_eq_true rfl), eN_c c1 (by first | rfl | (simp (disch := omega) only [nI_add, i_sub]) | (simp only [*])) ?_⟩
  refine eN_iload (M := ML_areVersions) dL_areVersions_194 (pc' := 196) rfl rfl ?_
  refine (ev_icmp_ne (M := ML_areVersions) (t := 228) dL_areVersions_196 (by decide) (pc' := 199) rfl).mpr (ifF (by first | assumption | omega | rfl | exact fun q => q (by assumption) | exact fun q => q rfl | (simp (disch := omega) only [nle_t, nle_f, nlt_t, nlt_f, neq_t, neq_f, i_lt0, i_le0, i_0le, i_0lt, i_eq0, i_lt, i_le, i_eq, nI_add, i_sub, i_cl, i_m1a, i_m1b, i_m1c, i_m1d, i_m1e, i_am1, i_ite0, m1_le, m1_m1, m1_ge0, not_true_eq_false, not_false_eq_true, or_self, or_false, false_or, or_true, true_or, and_self, and_true, true_and])) ?_)
  refine eN_aload_n (M := ML_areVersions) (k := 0) rfl dL_areVersions_199 (pc' := 200) rfl rfl ?_
  refine (ev_cV0 (M := ML_areVersions) (kk := 8) dL_areVersions_200 c_9_70 mX6_savedBytes rfl rfl (by decide) rfl (pc' := 203) rfl).mpr ⟨(by assumption), (Nat.le_of_ble_eq_true rfl), eN_c c2 (by first | rfl | (simp (disch := omega) only [nI_add, i_sub]) | (simp only [*])) ?_⟩
  refine eN_iload (M := ML_areVersions) dL_areVersions_203 (pc' := 205) rfl rfl ?_
  refine (ev_icmp_ne (M := ML_areVersions) (t := 228) dL_areVersions_205 (by decide) (pc' := 208) rfl).mpr (ifF (by first | assumption | omega | rfl | exact fun q => q (by assumption) | exact fun q => q rfl | (simp (disch := omega) only [nle_t, nle_f, nlt_t, nlt_f, neq_t, neq_f, i_lt0, i_le0, i_0le, i_0lt, i_eq0, i_lt, i_le, i_eq, nI_add, i_sub, i_cl, i_m1a, i_m1b, i_m1c, i_m1d, i_m1e, i_am1, i_ite0, m1_le, m1_m1, m1_ge0, not_true_eq_false, not_false_eq_true, or_self, or_false, false_or, or_true, true_or, and_self, and_true, true_and])) ?_)
  refine eN_iload (M := ML_areVersions) dL_areVersions_208 (pc' := 210) rfl rfl ?_
  refine (ev_if_lt (M := ML_areVersions) (t := 224) dL_areVersions_210 (by decide) (pc' := 213) rfl).mpr (ifF (by first | assumption | omega | rfl | exact fun q => q (by assumption) | exact fun q => q rfl | (simp (disch := omega) only [nle_t, nle_f, nlt_t, nlt_f, neq_t, neq_f, i_lt0, i_le0, i_0le, i_0lt, i_eq0, i_lt, i_le, i_eq, nI_add, i_sub, i_cl, i_m1a, i_m1b, i_m1c, i_m1d, i_m1e, i_am1, i_ite0, m1_le, m1_m1, m1_ge0, not_true_eq_false, not_false_eq_true, or_self, or_false, false_or, or_true, true_or, and_self, and_true, true_and])) ?_)
  refine eN_aload_n (M := ML_areVersions) (k := 0) rfl dL_areVersions_213 (pc' := 214) rfl rfl ?_
  refine eN_iload (M := ML_areVersions) dL_areVersions_214 (pc' := 216) rfl rfl ?_
  refine eN_iload (M := ML_areVersions) dL_areVersions_216 (pc' := 218) rfl rfl ?_
  refine (ev_cS3 (M := ML_areVersions) dL_areVersions_218 c_9_73 (by decide) mL_isVersion rfl rfl (pc' := 221) rfl).mpr ⟨(Nat.le_of_ble_eq_true rfl), eN_c c3 (by first | rfl | (simp (disch := omega) only [nI_add, i_sub]) | (simp only [*])) ?_⟩
  refine (ev_if_eq (M := ML_areVersions) (t := 228) dL_areVersions_221 (by decide) (pc' := 224) rfl).mpr (ifF (by first | assumption | omega | rfl | exact fun q => q (by assumption) | exact fun q => q rfl | (simp (disch := omega) only [nle_t, nle_f, nlt_t, nlt_f, neq_t, neq_f, i_lt0, i_le0, i_0le, i_0lt, i_eq0, i_lt, i_le, i_eq, nI_add, i_sub, i_cl, i_m1a, i_m1b, i_m1c, i_m1d, i_m1e, i_am1, i_ite0, m1_le, m1_m1, m1_ge0, not_true_eq_false, not_false_eq_true, or_self, or_false, false_or, or_true, true_or, and_self, and_true, true_and])) ?_)
  refine (ev_iconst (M := ML_areVersions) (v := (nI 1)) rfl dL_areVersions_224 (pc' := 225) rfl).mpr ?_
  refine (ev_goto (M := ML_areVersions) (pc' := 229) dL_areVersions_225 (by decide)).mpr ?_
  refine (ev_istore (M := ML_areVersions) dL_areVersions_229 (by decide) (pc' := 231) rfl).mpr ?_
  refine eN_iload (M := ML_areVersions) dL_areVersions_231 (pc' := 233) rfl rfl ?_
  refine (ev_if_eq (M := ML_areVersions) (t := 275) dL_areVersions_233 (by decide) (pc' := 236) rfl).mpr (ifF (by first | assumption | omega | rfl | exact fun q => q (by assumption) | exact fun q => q rfl | (simp (disch := omega) only [nle_t, nle_f, nlt_t, nlt_f, neq_t, neq_f, i_lt0, i_le0, i_0le, i_0lt, i_eq0, i_lt, i_le, i_eq, nI_add, i_sub, i_cl, i_m1a, i_m1b, i_m1c, i_m1d, i_m1e, i_am1, i_ite0, m1_le, m1_m1, m1_ge0, not_true_eq_false, not_false_eq_true, or_self, or_false, false_or, or_true, true_or, and_self, and_true, true_and])) ?_)
  refine eN_iload (M := ML_areVersions) dL_areVersions_236 (pc' := 238) rfl rfl ?_
  refine (ev_if_lt (M := ML_areVersions) (t := 271) dL_areVersions_238 (by decide) (pc' := 241) rfl).mpr (ifF (by first | assumption | omega | rfl | exact fun q => q (by assumption) | exact fun q => q rfl | (simp (disch := omega) only [nle_t, nle_f, nlt_t, nlt_f, neq_t, neq_f, i_lt0, i_le0, i_0le, i_0lt, i_eq0, i_lt, i_le, i_eq, nI_add, i_sub, i_cl, i_m1a, i_m1b, i_m1c, i_m1d, i_m1e, i_am1, i_ite0, m1_le, m1_m1, m1_ge0, not_true_eq_false, not_false_eq_true, or_self, or_false, false_or, or_true, true_or, and_self, and_true, true_and])) ?_)
  refine eN_iload (M := ML_areVersions) dL_areVersions_241 (pc' := 243) rfl rfl ?_
  refine (ev_if_lt (M := ML_areVersions) (t := 271) dL_areVersions_243 (by decide) (pc' := 246) rfl).mpr (ifF (by first | assumption | omega | rfl | exact fun q => q (by assumption) | exact fun q => q rfl | (simp (disch := omega) only [nle_t, nle_f, nlt_t, nlt_f, neq_t, neq_f, i_lt0, i_le0, i_0le, i_0lt, i_eq0, i_lt, i_le, i_eq, nI_add, i_sub, i_cl, i_m1a, i_m1b, i_m1c, i_m1d, i_m1e, i_am1, i_ite0, m1_le, m1_m1, m1_ge0, not_true_eq_false, not_false_eq_true, or_self, or_false, false_or, or_true, true_or, and_self, and_true, true_and])) ?_)
  refine eN_aload_n (M := ML_areVersions) (k := 0) rfl dL_areVersions_246 (pc' := 247) rfl rfl ?_
  refine eN_iload (M := ML_areVersions) dL_areVersions_247 (pc' := 249) rfl rfl ?_
  refine eN_iload (M := ML_areVersions) dL_areVersions_249 (pc' := 251) rfl rfl ?_
  refine eN_iload (M := ML_areVersions) dL_areVersions_251 (pc' := 253) rfl rfl ?_
  refine eN_iload (M := ML_areVersions) dL_areVersions_253 (pc' := 255) rfl rfl ?_
  refine eN_iload_n (M := ML_areVersions) (k := 2) rfl dL_areVersions_255 (pc' := 256) rfl rfl ?_
  refine (ev_sipush (M := ML_areVersions) (v := (nI 400)) rfl dL_areVersions_256 (pc' := 259) rfl).mpr ?_
  refine eN_idiv (M := ML_areVersions) dL_areVersions_259 (pc' := 260) rfl (by omega) ?_
  refine eN_iload_n (M := ML_areVersions) (k := 3) rfl dL_areVersions_260 (pc' := 261) rfl rfl ?_
  refine (ev_sipush (M := ML_areVersions) (v := (nI 400)) rfl dL_areVersions_261 (pc' := 264) rfl).mpr ?_
  refine eN_idiv (M := ML_areVersions) dL_areVersions_264 (pc' := 265) rfl (by omega) ?_
  refine (ev_cS7 (M := ML_areVersions) dL_areVersions_265 c_9_77 (by decide) mL_areUnlike rfl rfl (pc' := 268) rfl).mpr ⟨(Nat.le_of_ble_eq_true rfl), eN_c c4 (by first | rfl | (simp (disch := omega) only [nI_add, i_sub]) | (simp only [*])) ?_⟩
  refine (ev_if_eq (M := ML_areVersions) (t := 275) dL_areVersions_268 (by decide) (pc' := 271) rfl).mpr (ifF (by first | assumption | omega | rfl | exact fun q => q (by assumption) | exact fun q => q rfl | (simp (disch := omega) only [nle_t, nle_f, nlt_t, nlt_f, neq_t, neq_f, i_lt0, i_le0, i_0le, i_0lt, i_eq0, i_lt, i_le, i_eq, nI_add, i_sub, i_cl, i_m1a, i_m1b, i_m1c, i_m1d, i_m1e, i_am1, i_ite0, m1_le, m1_m1, m1_ge0, not_true_eq_false, not_false_eq_true, or_self, or_false, false_or, or_true, true_or, and_self, and_true, true_and])) ?_)
  refine (ev_iconst (M := ML_areVersions) (v := (nI 1)) rfl dL_areVersions_271 (pc' := 272) rfl).mpr ?_
  refine (ev_goto (M := ML_areVersions) (pc' := 276) dL_areVersions_272 (by decide)).mpr ?_
  refine (ev_zretI (M := ML_areVersions) rfl dL_areVersions_276 (by omega)).mpr ?_
  exact hQ
end Z
theorem C_areVersions {x y : Nat} (h : LV T X va ba ca dr kl vf vn vb ve vp nx sv cb us bl co op cs hi re st rw bx ud) (hg : gR T G kl vf vn st) (hx : x < 2147483648) (hy : y < 2147483648) : Call (d + 8) 136 [.ref X, .ref G, .int (nI x), .int (nI y)] T (.inl (some (.int (nI 1)))) T := by
  have k8 := h.k8
  have g1 := hg.1
  have g2 := hg.2.1
  have h20 : kl.length ≤ 20 := h.1.2.2.2.1.2
  refine Call_of ?_
  rw [uL_areVersions]
  refine (ev_iconst (M := ML_areVersions) (v := (nI 0)) rfl dL_areVersions_0 (pc' := 1) rfl).mpr ?_
  refine (ev_istore (M := ML_areVersions) dL_areVersions_1 (by decide) (pc' := 3) rfl).mpr ?_
  refine (ev_iconst (M := ML_areVersions) (v := (nI 0)) rfl dL_areVersions_3 (pc' := 4) rfl).mpr ?_
  refine (ev_istore (M := ML_areVersions) dL_areVersions_4 (by decide) (pc' := 6) rfl).mpr ?_
  refine (ev_iconst (M := ML_areVersions) (v := (nI 0)) rfl dL_areVersions_6 (pc' := 7) rfl).mpr ?_
  refine (ev_istore (M := ML_areVersions) dL_areVersions_7 (by decide) (pc' := 9) rfl).mpr ?_
  have hl : ∀ i, (if i ∈ keyL kl vf vn then (vb (kA kl vf vn i)).length else 0) ≤ 240 := fun i => by
    by_cases e : i ∈ keyL kl vf vn
    · rw [if_pos e]
      obtain ⟨k, hk, rfl⟩ := List.mem_map.mp e
      rw [kA_is h hk]
      exact (h.lens hk).1
    · rw [if_neg e]
      exact Nat.zero_le _
  have sS := key_sum h (fun k => (vb k).length)
  have sN := key_sum h (fun _ => 1)
  rw [sum_len] at sN
  have bS : ∀ i, i ≤ 384 → sm (fun i => if i ∈ keyL kl vf vn then (vb (kA kl vf vn i)).length else 0) i ≤ 92160 := fun i hi => by
    have := smb_le (f := fun i => if i ∈ keyL kl vf vn then (vb (kA kl vf vn i)).length else 0) (b := 240) i (fun k _ => hl k)
    omega
  have bN9 : ∀ i, i ≤ 384 → sm (fun i => if i ∈ keyL kl vf vn then 1 else 0) i ≤ 384 := fun i hi => by
    have := smb_le (f := fun i => if i ∈ keyL kl vf vn then 1 else 0) (b := 1) i (fun k _ => by show (if _ then 1 else 0) ≤ 1; split <;> omega)
    omega
  refine lpX (fun f => [(6, .int (nI f)), (5, .int (nI (sm (fun i => if i ∈ keyL kl vf vn then 1 else 0) (64 * f)))), (4, .int (nI (sm (fun i => if i ∈ keyL kl vf vn then (vb (kA kl vf vn i)).length else 0) (64 * f)))), (0, .ref X), (1, .ref G), (2, .int (nI x)), (3, .int (nI y))]) (fun _ => T) 6 rfl rfl ?_ ?_
  · intro f hf hq
    refine Z_av4 hf ?_
    refine lpX (fun v => [(8, .int (nI v)), (7, .int (iO (lastK (fun v => 64 * f + v ∈ keyL kl vf vn) v))), (6, .int (nI f)), (5, .int (nI (sm (fun i => if i ∈ keyL kl vf vn then 1 else 0) (64 * f + v)))), (4, .int (nI (sm (fun i => if i ∈ keyL kl vf vn then (vb (kA kl vf vn i)).length else 0) (64 * f + v)))), (0, .ref X), (1, .ref G), (2, .int (nI x)), (3, .int (nI y))]) (fun _ => T) 64 rfl rfl ?_ ?_
    · intro v hv hq2
      have e1 : sm (fun i => if i ∈ keyL kl vf vn then 1 else 0) (64 * f + (v + 1)) = sm (fun i => if i ∈ keyL kl vf vn then 1 else 0) (64 * f + v) + (if 64 * f + v ∈ keyL kl vf vn then 1 else 0) := rfl
      have e2 : sm (fun i => if i ∈ keyL kl vf vn then (vb (kA kl vf vn i)).length else 0) (64 * f + (v + 1)) = sm (fun i => if i ∈ keyL kl vf vn then (vb (kA kl vf vn i)).length else 0) (64 * f + v) + (if 64 * f + v ∈ keyL kl vf vn then (vb (kA kl vf vn (64 * f + v))).length else 0) := rfl
      have e3 : lastK (fun v => 64 * f + v ∈ keyL kl vf vn) (v + 1) = if 64 * f + v ∈ keyL kl vf vn then some v else lastK (fun v => 64 * f + v ∈ keyL kl vf vn) v := rfl
      rw [e1, e2, e3] at hq2
      have b1 := bN9 (64 * f + v) (by omega)
      have b2 := bS (64 * f + v) (by omega)
      have hbn := hg.bn h hf hv
      have ck := h.isKept (d := d + 4) hf hv
      generalize sm (fun i => if i ∈ keyL kl vf vn then 1 else 0) (64 * f + v) = n at *
      generalize sm (fun i => if i ∈ keyL kl vf vn then (vb (kA kl vf vn i)).length else 0) (64 * f + v) = s at *
      by_cases e : 64 * f + v ∈ keyL kl vf vn
      · rw [if_pos e] at hbn ck
        rw [if_pos e, if_pos e, if_pos e] at hq2
        obtain ⟨k, hk, rfl, rfl⟩ := (key_mem h hv).mp e
        have ek : kA kl vf vn (64 * vf k + vn k) = k := kA_is h hk
        rw [ek] at hq2
        exact Z_av2 k8 g1 g2 hf hv (by omega) (by omega) (h.lens hk).1 hbn ck (C_isListed (d := d) h hg hk) (h.length (d := d + 3) hk) hq2
      · rw [if_neg e] at hbn ck
        rw [if_neg e, if_neg e, if_neg e] at hq2
        exact Z_av1 k8 g1 g2 hf hv (by omega) (by omega) hbn ck hq2
    · have := h.latest (d := d + 4) hf
      exact Z_av3 k8 hf this hq
  · show Ev (d + 7) ML_areVersions [] 9 [(6, .int (nI 6)), (5, .int (nI (sm (fun i => if i ∈ keyL kl vf vn then 1 else 0) 384))), (4, .int (nI (sm (fun i => if i ∈ keyL kl vf vn then (vb (kA kl vf vn i)).length else 0) 384))), (0, .ref X), (1, .ref G), (2, .int (nI x)), (3, .int (nI y))] [] T _
    have b2 := bS 384 (Nat.le_refl _)
    rw [sN, sS]
    rw [sS] at b2
    have d1 := Call_up (d' := d + 7) (R_versions (d := d) h.1) (by omega)
    have d2 := Call_up (d' := d + 7) (R_savedBytes (d := d) h.1) (by omega)
    obtain ⟨r1, T1, c1, rfl, h1⟩ := C_kept (d := d + 5) (T := T) (G := G) (f := x % 6) (s := x / 6 % 64) g1 g2 (by omega) (by omega)
    obtain ⟨r2, T2, c2, rfl, h2⟩ := C_kept (d := d + 5) (T := T1) (G := G) (f := y % 6) (s := y / 6 % 64) g1 g2 (by omega) (by omega)
    rcases h1 with rfl | ⟨v1, hv1, hb1, rfl⟩
    · rcases h2 with rfl | ⟨v2, hv2, hb2, rfl⟩
      · exact Z_av5 hx hy c1 c2 (Z_av6 k8 (by omega) (by omega) d1 d2 ⟨rfl, rfl⟩)
      · exact Z_av5 hx hy c1 c2 (Z_av6 k8 (by omega) (by omega) d1 d2 ⟨rfl, rfl⟩)
    · obtain ⟨k, hk, e1, e2⟩ := hg.ex (by omega) hv1 hb1
      have d3 := C_isVersion (d := d + 1) h hk
      rw [e1, e2] at d3
      rcases h2 with rfl | ⟨v2, hv2, hb2, rfl⟩
      · exact Z_av5 hx hy c1 c2 (Z_av7 k8 (by omega) (by omega) hv1 d1 d2 d3 ⟨rfl, rfl⟩)
      · obtain ⟨k', hk', e1', e2'⟩ := hg.ex (by omega) hv2 hb2
        have d4 := C_areUnlike (d := d + 1) (x := x / 400) (y := y / 400) h hk hk' (by omega) (by omega)
        rw [e1, e2, e1', e2'] at d4
        exact Z_av5 hx hy c1 c2 (Z_av8 k8 hx hy (by omega) (by omega) hv1 hv2 d1 d2 d3 d4 ⟨rfl, rfl⟩)
end AVS
