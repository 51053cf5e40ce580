/-! the law's collects -/
section CLS
variable {d S X G L n0 u0 c : Nat} {va ba ca : Nat → Nat} {dr kl : List Nat} {vf vn : Nat → Nat} {vb ve : Nat → List Nat} {vp : Nat → Option Nat} {nx na : Nat → Nat} {sv : Nat} {cb : Nat → List Nat} {us : Nat → Nat} {bl cs : List Nat} {co : Nat → List Nat} {op hi re st : Nat} {rw : List Nat} {bx : Nat → Nat} {ud : Nat} {T T' T1 T2 : TS} {Q : Post}
section Z
variable {s b g o o' i m j e k n y r l N z : Nat}
theorem Z_co1 (k8 : tK T X = 8) (k8' : tK T' X = 8) (hs : s < 1000000) (hb : b < 1000000) (hg : g < 1000000) (ho : o ≤ o') (ho' : o' < 1000000) (c1 : Call (d + 6) 113 [.ref X] T (.inl (some (.int (nI (s + g))))) T) (c2 : Call (d + 6) 115 [.ref X] T (.inl (some (.int (nI (b + g))))) T) (c3 : Call (d + 6) 109 [.ref X] T (.inl (some (.int (nI o)))) T) (c4 : Call (d + 6) 90 [.ref X] T (.inl (some (.int (nI g)))) T') (c5 : Call (d + 6) 113 [.ref X] T' (.inl (some (.int (nI s)))) T') (c6 : Call (d + 6) 115 [.ref X] T' (.inl (some (.int (nI b)))) T') (c7 : Call (d + 6) 109 [.ref X] T' (.inl (some (.int (nI o')))) T') (hq : Ev (d + 6) ML_collects [] 68 [(7, .int (nI 0)), (6, .int (nI 1)), (4, .int (nI o)), (0, .ref X), (1, .ref G)] [] T' Q) : Ev (d + 6) ML_collects [] 0 [(0, .ref X), (1, .ref G)] [] T Q := by
  refine eN_aload_n (M := ML_collects) (k := 0) rfl dL_collects_0 (pc' := 1) rfl rfl ?_
  refine (ev_cV0 (M := ML_collects) (kk := 8) dL_collects_1 c_9_101 mX6_storedBytes rfl rfl (by decide) rfl (pc' := 4) rfl).mpr ⟨(by assumption), (Nat.le_of_ble_eq_true rfl), eN_c c1 (by first | rfl | (simp (disch := omega) only [nI_add, i_sub]) | (simp only [*])) ?_⟩
  refine (ev_istore_n (M := ML_collects) (k := 2) rfl dL_collects_4 (by decide) (pc' := 5) rfl).mpr ?_
  refine eN_aload_n (M := ML_collects) (k := 0) rfl dL_collects_5 (pc' := 6) rfl rfl ?_
  refine (ev_cV0 (M := ML_collects) (kk := 8) dL_collects_6 c_9_104 mX6_garbage rfl rfl (by decide) rfl (pc' := 9) rfl).mpr ⟨(by assumption), (Nat.le_of_ble_eq_true rfl), eN_c c2 (by first | rfl | (simp (disch := omega) only [nI_add, i_sub]) | (simp only [*])) ?_⟩
  refine (ev_istore_n (M := ML_collects) (k := 3) rfl dL_collects_9 (by decide) (pc' := 10) rfl).mpr ?_
  refine eN_aload_n (M := ML_collects) (k := 0) rfl dL_collects_10 (pc' := 11) rfl rfl ?_
  refine (ev_cV0 (M := ML_collects) (kk := 8) dL_collects_11 c_9_81 mX6_openContainer rfl rfl (by decide) rfl (pc' := 14) rfl).mpr ⟨(by assumption), (Nat.le_of_ble_eq_true rfl), eN_c c3 (by first | rfl | (simp (disch := omega) only [nI_add, i_sub]) | (simp only [*])) ?_⟩
  refine (ev_istore (M := ML_collects) dL_collects_14 (by decide) (pc' := 16) rfl).mpr ?_
  refine eN_aload_n (M := ML_collects) (k := 0) rfl dL_collects_16 (pc' := 17) rfl rfl ?_
  refine (ev_cV0 (M := ML_collects) (kk := 8) dL_collects_17 c_9_144 mX6_collect rfl rfl (by decide) rfl (pc' := 20) rfl).mpr ⟨(by assumption), (Nat.le_of_ble_eq_true rfl), eN_c c4 (by first | rfl | (simp (disch := omega) only [nI_add, i_sub]) | (simp only [*])) ?_⟩
  refine (ev_istore (M := ML_collects) dL_collects_20 (by decide) (pc' := 22) rfl).mpr ?_
  refine eN_iload (M := ML_collects) dL_collects_22 (pc' := 24) rfl rfl ?_
  refine (ev_if_lt (M := ML_collects) (t := 62) dL_collects_24 (by decide) (pc' := 27) rfl).mpr (ifF (by first | assumption | omega | rfl | exact fun q => q (by assumption) | exact fun q => q rfl | (simp (disch := omega) only [nle_t, nle_f, nlt_t, nlt_f, neq_t, neq_f, i_lt0, i_le0, i_0le, i_0lt, i_eq0, i_lt, i_le, i_eq, nI_add, i_sub, i_cl, i_m1a, i_m1b, i_m1c, i_m1d, i_m1e, i_am1, i_ite0, m1_le, m1_m1, m1_ge0, not_true_eq_false, not_false_eq_true, or_self, or_false, false_or, or_true, true_or, and_self, and_true, true_and])) ?_)
  refine eN_aload_n (M := ML_collects) (k := 0) rfl dL_collects_27 (pc' := 28) rfl rfl ?_
  refine (ev_cV0 (M := ML_collects) (kk := 8) dL_collects_28 c_9_101 mX6_storedBytes rfl rfl (by decide) rfl (pc' := 31) rfl).mpr ⟨(by assumption), (Nat.le_of_ble_eq_true rfl), eN_c c5 (by first | rfl | (simp (disch := omega) only [nI_add, i_sub]) | (simp only [*])) ?_⟩
  refine eN_iload_n (M := ML_collects) (k := 2) rfl dL_collects_31 (pc' := 32) rfl rfl ?_
  refine eN_iload (M := ML_collects) dL_collects_32 (pc' := 34) rfl rfl ?_
  refine eN_isub (M := ML_collects) dL_collects_34 (pc' := 35) rfl (by omega) ?_
  refine (ev_icmp_ne (M := ML_collects) (t := 62) dL_collects_35 (by decide) (pc' := 38) rfl).mpr (ifF (by first | assumption | omega | rfl | exact fun q => q (by assumption) | exact fun q => q rfl | (simp (disch := omega) only [nle_t, nle_f, nlt_t, nlt_f, neq_t, neq_f, i_lt0, i_le0, i_0le, i_0lt, i_eq0, i_lt, i_le, i_eq, nI_add, i_sub, i_cl, i_m1a, i_m1b, i_m1c, i_m1d, i_m1e, i_am1, i_ite0, m1_le, m1_m1, m1_ge0, not_true_eq_false, not_false_eq_true, or_self, or_false, false_or, or_true, true_or, and_self, and_true, true_and])) ?_)
  refine eN_aload_n (M := ML_collects) (k := 0) rfl dL_collects_38 (pc' := 39) rfl rfl ?_
  refine (ev_cV0 (M := ML_collects) (kk := 8) dL_collects_39 c_9_104 mX6_garbage rfl rfl (by decide) rfl (pc' := 42) rfl).mpr ⟨(by assumption), (Nat.le_of_ble_eq_true rfl), eN_c c6 (by first | rfl | (simp (disch := omega) only [nI_add, i_sub]) | (simp only [*])) ?_⟩
  refine eN_iload_n (M := ML_collects) (k := 3) rfl dL_collects_42 (pc' := 43) rfl rfl ?_
  refine eN_iload (M := ML_collects) dL_collects_43 (pc' := 45) rfl rfl ?_
  refine eN_isub (M := ML_collects) dL_collects_45 (pc' := 46) rfl (by omega) ?_
  refine (ev_icmp_ne (M := ML_collects) (t := 62) dL_collects_46 (by decide) (pc' := 49) rfl).mpr (ifF (by first | assumption | omega | rfl | exact fun q => q (by assumption) | exact fun q => q rfl | (simp (disch := omega) only [nle_t, nle_f, nlt_t, nlt_f, neq_t, neq_f, i_lt0, i_le0, i_0le, i_0lt, i_eq0, i_lt, i_le, i_eq, nI_add, i_sub, i_cl, i_m1a, i_m1b, i_m1c, i_m1d, i_m1e, i_am1, i_ite0, m1_le, m1_m1, m1_ge0, not_true_eq_false, not_false_eq_true, or_self, or_false, false_or, or_true, true_or, and_self, and_true, true_and])) ?_)
  refine eN_aload_n (M := ML_collects) (k := 0) rfl dL_collects_49 (pc' := 50) rfl rfl ?_
  refine (ev_cV0 (M := ML_collects) (kk := 8) dL_collects_50 c_9_81 mX6_openContainer rfl rfl (by decide) rfl (pc' := 53) rfl).mpr ⟨(by assumption), (Nat.le_of_ble_eq_true rfl), eN_c c7 (by first | rfl | (simp (disch := omega) only [nI_add, i_sub]) | (simp only [*])) ?_⟩
  refine eN_iload (M := ML_collects) dL_collects_53 (pc' := 55) rfl rfl ?_
  refine (ev_icmp_lt (M := ML_collects) (t := 62) dL_collects_55 (by decide) (pc' := 58) rfl).mpr (ifF (by first | assumption | omega | rfl | exact fun q => q (by assumption) | exact fun q => q rfl | (simp (disch := omega) only [nle_t, nle_f, nlt_t, nlt_f, neq_t, neq_f, i_lt0, i_le0, i_0le, i_0lt, i_eq0, i_lt, i_le, i_eq, nI_add, i_sub, i_cl, i_m1a, i_m1b, i_m1c, i_m1d, i_m1e, i_am1, i_ite0, m1_le, m1_m1, m1_ge0, not_true_eq_false, not_false_eq_true, or_self, or_false, false_or, or_true, true_or, and_self, and_true, true_and])) ?_)
  refine (ev_iconst (M := ML_collects) (v := (nI 1)) rfl dL_collects_58 (pc' := 59) rfl).mpr ?_
  refine (ev_goto (M := ML_collects) (pc' := 63) dL_collects_59 (by decide)).mpr ?_
  refine (ev_istore (M := ML_collects) dL_collects_63 (by decide) (pc' := 65) rfl).mpr ?_
  refine (ev_iconst (M := ML_collects) (v := (nI 0)) rfl dL_collects_65 (pc' := 66) rfl).mpr ?_
  refine (ev_istore (M := ML_collects) dL_collects_66 (by decide) (pc' := 68) rfl).mpr ?_
  exact ev_more (by repeat (first | exact trivial | refine ⟨rfl, ?_⟩)) (by exact rfl) (by exact rfl) hq
theorem Z_co2 (g1 : tK T G = 22) (g2 : tl T G = 7) (hi : i < 384) (hb : bN (tJ T G (i / 64)) (i % 64) = 0) (hq : Ev (d + 6) ML_collects [] 68 [(7, .int (nI (i + 1))), (6, .int (nI 1)), (4, .int (nI o)), (0, .ref X), (1, .ref G)] [] T Q) : Ev (d + 6) ML_collects [] 68 [(7, .int (nI i)), (6, .int (nI 1)), (4, .int (nI o)), (0, .ref X), (1, .ref G)] [] T Q := by
  have ci := C_isIn (d := d + 5) (T := T) (x := tJ T G (i / 64)) (k := i % 64) (by omega)
  rw [hb] at ci
  refine eN_iload (M := ML_collects) dL_collects_68 (pc' := 70) rfl rfl ?_
  refine (ev_sipush (M := ML_collects) (v := (nI 384)) rfl dL_collects_70 (pc' := 73) rfl).mpr ?_
  refine (ev_icmp_ge (M := ML_collects) (t := 168) dL_collects_73 (by decide) (pc' := 76) rfl).mpr (ifF (by first | assumption | omega | rfl | exact fun q => q (by assumption) | exact fun q => q rfl | (simp (disch := omega) only [nle_t, nle_f, nlt_t, nlt_f, neq_t, neq_f, i_lt0, i_le0, i_0le, i_0lt, i_eq0, i_lt, i_le, i_eq, nI_add, i_sub, i_cl, i_m1a, i_m1b, i_m1c, i_m1d, i_m1e, i_am1, i_ite0, m1_le, m1_m1, m1_ge0, not_true_eq_false, not_false_eq_true, or_self, or_false, false_or, or_true, true_or, and_self, and_true, true_and])) ?_)
  refine eN_iload (M := ML_collects) dL_collects_76 (pc' := 78) rfl rfl ?_
  refine (ev_if_eq (M := ML_collects) (t := 168) dL_collects_78 (by decide) (pc' := 81) rfl).mpr (ifF (by first | assumption | omega | rfl | exact fun q => q (by assumption) | exact fun q => q rfl | (simp (disch := omega) only [nle_t, nle_f, nlt_t, nlt_f, neq_t, neq_f, i_lt0, i_le0, i_0le, i_0lt, i_eq0, i_lt, i_le, i_eq, nI_add, i_sub, i_cl, i_m1a, i_m1b, i_m1c, i_m1d, i_m1e, i_am1, i_ite0, m1_le, m1_m1, m1_ge0, not_true_eq_false, not_false_eq_true, or_self, or_false, false_or, or_true, true_or, and_self, and_true, true_and])) ?_)
  refine eN_aload_n (M := ML_collects) (k := 1) rfl dL_collects_81 (pc' := 82) rfl rfl ?_
  refine eN_iload (M := ML_collects) dL_collects_82 (pc' := 84) rfl rfl ?_
  refine (ev_bipush (M := ML_collects) (v := (nI 64)) rfl dL_collects_84 (pc' := 86) rfl).mpr ?_
  refine eN_idiv (M := ML_collects) dL_collects_86 (pc' := 87) rfl (by omega) ?_
  refine eN_laload (M := ML_collects) dL_collects_87 (pc' := 88) rfl (by assumption) (by assumption) (by omega) ?_
  refine eN_iload (M := ML_collects) dL_collects_88 (pc' := 90) rfl rfl ?_
  refine (ev_bipush (M := ML_collects) (v := (nI 64)) rfl dL_collects_90 (pc' := 92) rfl).mpr ?_
  refine eN_irem (M := ML_collects) dL_collects_92 (pc' := 93) rfl (by omega) ?_
  refine (ev_cS2 (M := ML_collects) dL_collects_93 c_9_10 (by decide) mL_isIn rfl rfl (pc' := 96) rfl).mpr ⟨(Nat.le_of_ble_eq_true rfl), eN_c ci (by first | rfl | (simp (disch := omega) only [nI_add, i_sub]) | (simp only [*])) ?_⟩
  refine (ev_if_eq (M := ML_collects) (t := 116) dL_collects_96 (by decide) (pc' := 99) rfl).mpr (ifT (by first | assumption | omega | rfl | exact fun q => q (by assumption) | exact fun q => q rfl | (simp (disch := omega) only [nle_t, nle_f, nlt_t, nlt_f, neq_t, neq_f, i_lt0, i_le0, i_0le, i_0lt, i_eq0, i_lt, i_le, i_eq, nI_add, i_sub, i_cl, i_m1a, i_m1b, i_m1c, i_m1d, i_m1e, i_am1, i_ite0, m1_le, m1_m1, m1_ge0, not_true_eq_false, not_false_eq_true, or_self, or_false, false_or, or_true, true_or, and_self, and_true, true_and])) ?_)
  refine (ev_iconst (M := ML_collects) (v := (nI 0)) rfl dL_collects_116 (pc' := 117) rfl).mpr ?_
  refine (ev_istore (M := ML_collects) dL_collects_117 (by decide) (pc' := 119) rfl).mpr ?_
  refine (ev_iconst (M := ML_collects) (v := (nI 0)) rfl dL_collects_119 (pc' := 120) rfl).mpr ?_
  refine (ev_istore (M := ML_collects) dL_collects_120 (by decide) (pc' := 122) rfl).mpr ?_
  refine eN_iload (M := ML_collects) dL_collects_122 (pc' := 124) rfl rfl ?_
  refine eN_iload (M := ML_collects) dL_collects_124 (pc' := 126) rfl rfl ?_
  refine (ev_icmp_ge (M := ML_collects) (t := 162) dL_collects_126 (by decide) (pc' := 129) rfl).mpr (ifT (by first | assumption | omega | rfl | exact fun q => q (by assumption) | exact fun q => q rfl | (simp (disch := omega) only [nle_t, nle_f, nlt_t, nlt_f, neq_t, neq_f, i_lt0, i_le0, i_0le, i_0lt, i_eq0, i_lt, i_le, i_eq, nI_add, i_sub, i_cl, i_m1a, i_m1b, i_m1c, i_m1d, i_m1e, i_am1, i_ite0, m1_le, m1_m1, m1_ge0, not_true_eq_false, not_false_eq_true, or_self, or_false, false_or, or_true, true_or, and_self, and_true, true_and])) ?_)
  refine eN_iinc (M := ML_collects) (v := 1) rfl dL_collects_162 (by decide) (pc' := 165) rfl rfl ?_
  refine (ev_goto (M := ML_collects) (pc' := 68) dL_collects_165 (by decide)).mpr ?_
  exact ev_more (by repeat (first | exact trivial | refine ⟨rfl, ?_⟩)) (by exact rfl) (by exact rfl) hq
theorem Z_co3 (k8 : tK T X = 8) (g1 : tK T G = 22) (g2 : tl T G = 7) (hi : i < 384) (hb : bN (tJ T G (i / 64)) (i % 64) = 1) (c1 : Call (d + 6) 97 [.ref X, .int (nI (i / 64)), .int (nI (i % 64))] T (.inl (some (.int (nI m)))) T) (hq : Ev (d + 6) ML_collects [] 122 [(9, .int (nI 0)), (8, .int (nI m)), (7, .int (nI i)), (6, .int (nI 1)), (4, .int (nI o)), (0, .ref X), (1, .ref G)] [] T Q) : Ev (d + 6) ML_collects [] 68 [(7, .int (nI i)), (6, .int (nI 1)), (4, .int (nI o)), (0, .ref X), (1, .ref G)] [] T Q := by
  have ci := C_isIn (d := d + 5) (T := T) (x := tJ T G (i / 64)) (k := i % 64) (by omega)
  rw [hb] at ci
  refine eN_iload (M := ML_collects) dL_collects_68 (pc' := 70) rfl rfl ?_
  refine (ev_sipush (M := ML_collects) (v := (nI 384)) rfl dL_collects_70 (pc' := 73) rfl).mpr ?_
  refine (ev_icmp_ge (M := ML_collects) (t := 168) dL_collects_73 (by decide) (pc' := 76) rfl).mpr (ifF (by first | assumption | omega | rfl | exact fun q => q (by assumption) | exact fun q => q rfl | (simp (disch := omega) only [nle_t, nle_f, nlt_t, nlt_f, neq_t, neq_f, i_lt0, i_le0, i_0le, i_0lt, i_eq0, i_lt, i_le, i_eq, nI_add, i_sub, i_cl, i_m1a, i_m1b, i_m1c, i_m1d, i_m1e, i_am1, i_ite0, m1_le, m1_m1, m1_ge0, not_true_eq_false, not_false_eq_true, or_self, or_false, false_or, or_true, true_or, and_self, and_true, true_and])) ?_)
  refine eN_iload (M := ML_collects) dL_collects_76 (pc' := 78) rfl rfl ?_
  refine (ev_if_eq (M := ML_collects) (t := 168) dL_collects_78 (by decide) (pc' := 81) rfl).mpr (ifF (by first | assumption | omega | rfl | exact fun q => q (by assumption) | exact fun q => q rfl | (simp (disch := omega) only [nle_t, nle_f, nlt_t, nlt_f, neq_t, neq_f, i_lt0, i_le0, i_0le, i_0lt, i_eq0, i_lt, i_le, i_eq, nI_add, i_sub, i_cl, i_m1a, i_m1b, i_m1c, i_m1d, i_m1e, i_am1, i_ite0, m1_le, m1_m1, m1_ge0, not_true_eq_false, not_false_eq_true, or_self, or_false, false_or, or_true, true_or, and_self, and_true, true_and])) ?_)
  refine eN_aload_n (M := ML_collects) (k := 1) rfl dL_collects_81 (pc' := 82) rfl rfl ?_
  refine eN_iload (M := ML_collects) dL_collects_82 (pc' := 84) rfl rfl ?_
  refine (ev_bipush (M := ML_collects) (v := (nI 64)) rfl dL_collects_84 (pc' := 86) rfl).mpr ?_
  refine eN_idiv (M := ML_collects) dL_collects_86 (pc' := 87) rfl (by omega) ?_
  refine eN_laload (M := ML_collects) dL_collects_87 (pc' := 88) rfl (by assumption) (by assumption) (by omega) ?_
  refine eN_iload (M := ML_collects) dL_collects_88 (pc' := 90) rfl rfl ?_
  refine (ev_bipush (M := ML_collects) (v := (nI 64)) rfl dL_collects_90 (pc' := 92) rfl).mpr ?_
  refine eN_irem (M := ML_collects) dL_collects_92 (pc' := 93) rfl (by omega) ?_
  refine (ev_cS2 (M := ML_collects) dL_collects_93 c_9_10 (by decide) mL_isIn rfl rfl (pc' := 96) rfl).mpr ⟨(Nat.le_of_ble_eq_true rfl), eN_c ci (by first | rfl | (simp (disch := omega) only [nI_add, i_sub]) | (simp only [*])) ?_⟩
  refine (ev_if_eq (M := ML_collects) (t := 116) dL_collects_96 (by decide) (pc' := 99) rfl).mpr (ifF (by first | assumption | omega | rfl | exact fun q => q (by assumption) | exact fun q => q rfl | (simp (disch := omega) only [nle_t, nle_f, nlt_t, nlt_f, neq_t, neq_f, i_lt0, i_le0, i_0le, i_0lt, i_eq0, i_lt, i_le, i_eq, nI_add, i_sub, i_cl, i_m1a, i_m1b, i_m1c, i_m1d, i_m1e, i_am1, i_ite0, m1_le, m1_m1, m1_ge0, not_true_eq_false, not_false_eq_true, or_self, or_false, false_or, or_true, true_or, and_self, and_true, true_and])) ?_)
  refine eN_aload_n (M := ML_collects) (k := 0) rfl dL_collects_99 (pc' := 100) rfl rfl ?_
  refine eN_iload (M := ML_collects) dL_collects_100 (pc' := 102) rfl rfl ?_
  refine (ev_bipush (M := ML_collects) (v := (nI 64)) rfl dL_collects_102 (pc' := 104) rfl).mpr ?_
  refine eN_idiv (M := ML_collects) dL_collects_104 (pc' := 105) rfl (by omega) ?_
  refine eN_iload (M := ML_collects) dL_collects_105 (pc' := 107) rfl rfl ?_
  refine (ev_bipush (M := ML_collects) (v := (nI 64)) rfl dL_collects_107 (pc' := 109) rfl).mpr ?_
  refine eN_irem (M := ML_collects) dL_collects_109 (pc' := 110) rfl (by omega) ?_
  refine (ev_cV2 (M := ML_collects) (kk := 8) dL_collects_110 c_9_29 mX6_chunksOf rfl rfl (by decide) rfl (pc' := 113) rfl).mpr ⟨(by assumption), (Nat.le_of_ble_eq_true rfl), eN_c c1 (by first | rfl | (simp (disch := omega) only [nI_add, i_sub]) | (simp only [*])) ?_⟩
  refine (ev_goto (M := ML_collects) (pc' := 117) dL_collects_113 (by decide)).mpr ?_
  refine (ev_istore (M := ML_collects) dL_collects_117 (by decide) (pc' := 119) rfl).mpr ?_
  refine (ev_iconst (M := ML_collects) (v := (nI 0)) rfl dL_collects_119 (pc' := 120) rfl).mpr ?_
  refine (ev_istore (M := ML_collects) dL_collects_120 (by decide) (pc' := 122) rfl).mpr ?_
  exact ev_more (by repeat (first | exact trivial | refine ⟨rfl, ?_⟩)) (by exact rfl) (by exact rfl) hq
theorem Z_co4 (k8 : tK T X = 8) (hi : i < 384) (hm : m ≤ 30) (hj : j < m) (c1 : Call (d + 6) 98 [.ref X, .int (nI (i / 64)), .int (nI (i % 64)), .int (nI j)] T (.inl (some (.int (nI e)))) T) (c2 : Call (d + 6) 102 [.ref X, .int (nI e)] T (.inl (some (.int (nI 1)))) T) (hq : Ev (d + 6) ML_collects [] 122 [(9, .int (nI (j + 1))), (8, .int (nI m)), (7, .int (nI i)), (6, .int (nI 1)), (4, .int (nI o)), (0, .ref X), (1, .ref G)] [] T Q) : Ev (d + 6) ML_collects [] 122 [(9, .int (nI j)), (8, .int (nI m)), (7, .int (nI i)), (6, .int (nI 1)), (4, .int (nI o)), (0, .ref X), (1, .ref G)] [] T Q := by
  refine eN_iload (M := ML_collects) dL_collects_122 (pc' := 124) rfl rfl ?_
  refine eN_iload (M := ML_collects) dL_collects_124 (pc' := 126) rfl rfl ?_
  refine (ev_icmp_ge (M := ML_collects) (t := 162) dL_collects_126 (by decide) (pc' := 129) rfl).mpr (ifF (by first | assumption | omega | rfl | exact fun q => q (by assumption) | exact fun q => q rfl | (simp (disch := omega) only [nle_t, nle_f, nlt_t, nlt_f, neq_t, neq_f, i_lt0, i_le0, i_0le, i_0lt, i_eq0, i_lt, i_le, i_eq, nI_add, i_sub, i_cl, i_m1a, i_m1b, i_m1c, i_m1d, i_m1e, i_am1, i_ite0, m1_le, m1_m1, m1_ge0, not_true_eq_false, not_false_eq_true, or_self, or_false, false_or, or_true, true_or, and_self, and_true, true_and])) ?_)
  refine eN_iload (M := ML_collects) dL_collects_129 (pc' := 131) rfl rfl ?_
  refine (ev_if_eq (M := ML_collects) (t := 162) dL_collects_131 (by decide) (pc' := 134) rfl).mpr (ifF (by first | assumption | omega | rfl | exact fun q => q (by assumption) | exact fun q => q rfl | (simp (disch := omega) only [nle_t, nle_f, nlt_t, nlt_f, neq_t, neq_f, i_lt0, i_le0, i_0le, i_0lt, i_eq0, i_lt, i_le, i_eq, nI_add, i_sub, i_cl, i_m1a, i_m1b, i_m1c, i_m1d, i_m1e, i_am1, i_ite0, m1_le, m1_m1, m1_ge0, not_true_eq_false, not_false_eq_true, or_self, or_false, false_or, or_true, true_or, and_self, and_true, true_and])) ?_)
  refine eN_aload_n (M := ML_collects) (k := 0) rfl dL_collects_134 (pc' := 135) rfl rfl ?_
  refine eN_aload_n (M := ML_collects) (k := 0) rfl dL_collects_135 (pc' := 136) rfl rfl ?_
  refine eN_iload (M := ML_collects) dL_collects_136 (pc' := 138) rfl rfl ?_
  refine (ev_bipush (M := ML_collects) (v := (nI 64)) rfl dL_collects_138 (pc' := 140) rfl).mpr ?_
  refine eN_idiv (M := ML_collects) dL_collects_140 (pc' := 141) rfl (by omega) ?_
  refine eN_iload (M := ML_collects) dL_collects_141 (pc' := 143) rfl rfl ?_
  refine (ev_bipush (M := ML_collects) (v := (nI 64)) rfl dL_collects_143 (pc' := 145) rfl).mpr ?_
  refine eN_irem (M := ML_collects) dL_collects_145 (pc' := 146) rfl (by omega) ?_
  refine eN_iload (M := ML_collects) dL_collects_146 (pc' := 148) rfl rfl ?_
  refine (ev_cV3 (M := ML_collects) (kk := 8) dL_collects_148 c_9_32 mX6_chunkAt rfl rfl (by decide) rfl (pc' := 151) rfl).mpr ⟨(by assumption), (Nat.le_of_ble_eq_true rfl), eN_c c1 (by first | rfl | (simp (disch := omega) only [nI_add, i_sub]) | (simp only [*])) ?_⟩
  refine (ev_cV1 (M := ML_collects) (kk := 8) dL_collects_151 c_9_84 mX6_isStored rfl rfl (by decide) rfl (pc' := 154) rfl).mpr ⟨(by assumption), (Nat.le_of_ble_eq_true rfl), eN_c c2 (by first | rfl | (simp (disch := omega) only [nI_add, i_sub]) | (simp only [*])) ?_⟩
  refine (ev_istore (M := ML_collects) dL_collects_154 (by decide) (pc' := 156) rfl).mpr ?_
  refine eN_iinc (M := ML_collects) (v := 1) rfl dL_collects_156 (by decide) (pc' := 159) rfl rfl ?_
  refine (ev_goto (M := ML_collects) (pc' := 122) dL_collects_159 (by decide)).mpr ?_
  exact ev_more (by repeat (first | exact trivial | refine ⟨rfl, ?_⟩)) (by exact rfl) (by exact rfl) hq
theorem Z_co5 (hm : m ≤ 30) (hi : i < 384) (hq : Ev (d + 6) ML_collects [] 68 [(7, .int (nI (i + 1))), (6, .int (nI 1)), (4, .int (nI o)), (0, .ref X), (1, .ref G)] [] T Q) : Ev (d + 6) ML_collects [] 122 [(9, .int (nI m)), (8, .int (nI m)), (7, .int (nI i)), (6, .int (nI 1)), (4, .int (nI o)), (0, .ref X), (1, .ref G)] [] T Q := by
  refine eN_iload (M := ML_collects) dL_collects_122 (pc' := 124) rfl rfl ?_
  refine eN_iload (M := ML_collects) dL_collects_124 (pc' := 126) rfl rfl ?_
  refine (ev_icmp_ge (M := ML_collects) (t := 162) dL_collects_126 (by decide) (pc' := 129) rfl).mpr (ifT (by first | assumption | omega | rfl | exact fun q => q (by assumption) | exact fun q => q rfl | (simp (disch := omega) only [nle_t, nle_f, nlt_t, nlt_f, neq_t, neq_f, i_lt0, i_le0, i_0le, i_0lt, i_eq0, i_lt, i_le, i_eq, nI_add, i_sub, i_cl, i_m1a, i_m1b, i_m1c, i_m1d, i_m1e, i_am1, i_ite0, m1_le, m1_m1, m1_ge0, not_true_eq_false, not_false_eq_true, or_self, or_false, false_or, or_true, true_or, and_self, and_true, true_and])) ?_)
  refine eN_iinc (M := ML_collects) (v := 1) rfl dL_collects_162 (by decide) (pc' := 165) rfl rfl ?_
  refine (ev_goto (M := ML_collects) (pc' := 68) dL_collects_165 (by decide)).mpr ?_
  exact ev_more (by repeat (first | exact trivial | refine ⟨rfl, ?_⟩)) (by exact rfl) (by exact rfl) hq
theorem Z_co6 (hq : Ev (d + 6) ML_collects [] 171 [(7, .int (nI 0)), (6, .int (nI 1)), (4, .int (nI o)), (0, .ref X), (1, .ref G)] [] T Q) : Ev (d + 6) ML_collects [] 68 [(7, .int (nI 384)), (6, .int (nI 1)), (4, .int (nI o)), (0, .ref X), (1, .ref G)] [] T Q := by
  refine eN_iload (M := ML_collects) dL_collects_68 (pc' := 70) rfl rfl ?_
  refine (ev_sipush (M := ML_collects) (v := (nI 384)) rfl dL_collects_70 (pc' := 73) rfl).mpr ?_
  refine (ev_icmp_ge (M := ML_collects) (t := 168) dL_collects_73 (by decide) (pc' := 76) rfl).mpr (ifT (by first | assumption | omega | rfl | exact fun q => q (by assumption) | exact fun q => q rfl | (simp (disch := omega) only [nle_t, nle_f, nlt_t, nlt_f, neq_t, neq_f, i_lt0, i_le0, i_0le, i_0lt, i_eq0, i_lt, i_le, i_eq, nI_add, i_sub, i_cl, i_m1a, i_m1b, i_m1c, i_m1d, i_m1e, i_am1, i_ite0, m1_le, m1_m1, m1_ge0, not_true_eq_false, not_false_eq_true, or_self, or_false, false_or, or_true, true_or, and_self, and_true, true_and])) ?_)
  refine (ev_iconst (M := ML_collects) (v := (nI 0)) rfl dL_collects_168 (pc' := 169) rfl).mpr ?_
  refine (ev_istore (M := ML_collects) dL_collects_169 (by decide) (pc' := 171) rfl).mpr ?_
  exact ev_more (by repeat (first | exact trivial | refine ⟨rfl, ?_⟩)) (by exact rfl) (by exact rfl) hq
theorem Z_co7 (hk : k < o) (ho : o < 1000000) (hq : Ev (d + 6) ML_collects [] 192 [(10, .int (nI 0)), (9, .int (nI 0)), (8, .int (nI 0)), (7, .int (nI k)), (6, .int (nI 1)), (4, .int (nI o)), (0, .ref X), (1, .ref G)] [] T Q) : Ev (d + 6) ML_collects [] 171 [(7, .int (nI k)), (6, .int (nI 1)), (4, .int (nI o)), (0, .ref X), (1, .ref G)] [] T Q := by
  refine eN_iload (M := ML_collects) dL_collects_171 (pc' := 173) rfl rfl ?_
  refine eN_iload (M := ML_collects) dL_collects_173 (pc' := 175) rfl rfl ?_
  refine (ev_icmp_ge (M := ML_collects) (t := 295) dL_collects_175 (by decide) (pc' := 178) rfl).mpr (ifF (by first | assumption | omega | rfl | exact fun q => q (by assumption) | exact fun q => q rfl | (simp (disch := omega) only [nle_t, nle_f, nlt_t, nlt_f, neq_t, neq_f, i_lt0, i_le0, i_0le, i_0lt, i_eq0, i_lt, i_le, i_eq, nI_add, i_sub, i_cl, i_m1a, i_m1b, i_m1c, i_m1d, i_m1e, i_am1, i_ite0, m1_le, m1_m1, m1_ge0, not_true_eq_false, not_false_eq_true, or_self, or_false, false_or, or_true, true_or, and_self, and_true, true_and])) ?_)
  refine eN_iload (M := ML_collects) dL_collects_178 (pc' := 180) rfl rfl ?_
  refine (ev_if_eq (M := ML_collects) (t := 295) dL_collects_180 (by decide) (pc' := 183) rfl).mpr (ifF (by first | assumption | omega | rfl | exact fun q => q (by assumption) | exact fun q => q rfl | (simp (disch := omega) only [nle_t, nle_f, nlt_t, nlt_f, neq_t, neq_f, i_lt0, i_le0, i_0le, i_0lt, i_eq0, i_lt, i_le, i_eq, nI_add, i_sub, i_cl, i_m1a, i_m1b, i_m1c, i_m1d, i_m1e, i_am1, i_ite0, m1_le, m1_m1, m1_ge0, not_true_eq_false, not_false_eq_true, or_self, or_false, false_or, or_true, true_or, and_self, and_true, true_and])) ?_)
  refine (ev_iconst (M := ML_collects) (v := (nI 0)) rfl dL_collects_183 (pc' := 184) rfl).mpr ?_
  refine (ev_istore (M := ML_collects) dL_collects_184 (by decide) (pc' := 186) rfl).mpr ?_
  refine (ev_iconst (M := ML_collects) (v := (nI 0)) rfl dL_collects_186 (pc' := 187) rfl).mpr ?_
  refine (ev_istore (M := ML_collects) dL_collects_187 (by decide) (pc' := 189) rfl).mpr ?_
  refine (ev_iconst (M := ML_collects) (v := (nI 0)) rfl dL_collects_189 (pc' := 190) rfl).mpr ?_
  refine (ev_istore (M := ML_collects) dL_collects_190 (by decide) (pc' := 192) rfl).mpr ?_
  exact ev_more (by repeat (first | exact trivial | refine ⟨rfl, ?_⟩)) (by exact rfl) (by exact rfl) hq
theorem Z_co8 (k8 : tK T X = 8) (g1 : tK T G = 22) (g2 : tl T G = 7) (g3 : tJ T G 6 = jN N) (hN : N < 1000000) (hn : n < N) (c1 : Call (d + 6) 102 [.ref X, .int (nI n)] T (.inl (some (.int (nI 0)))) T) (hq : Ev (d + 6) ML_collects [] 192 [(10, .int (nI (n + 1))), (9, .int (nI r)), (8, .int (nI y)), (7, .int (nI k)), (6, .int (nI 1)), (4, .int (nI o)), (0, .ref X), (1, .ref G)] [] T Q) : Ev (d + 6) ML_collects [] 192 [(10, .int (nI n)), (9, .int (nI r)), (8, .int (nI y)), (7, .int (nI k)), (6, .int (nI 1)), (4, .int (nI o)), (0, .ref X), (1, .ref G)] [] T Q := by
  have hlc : ¬ 0 ≤ lg_cmp (nI n).toInt64 (tJ T G 6) := by rw [g3, lj_ge (by omega) (by omega)]; omega
  refine eN_iload (M := ML_collects) dL_collects_192 (pc' := 194) rfl rfl ?_
  refine (ev_i2l (M := ML_collects) dL_collects_194 (pc' := 195) rfl).mpr ?_
  refine eN_aload_n (M := ML_collects) (k := 1) rfl dL_collects_195 (pc' := 196) rfl rfl ?_
  refine (ev_bipush (M := ML_collects) (v := (nI 6)) rfl dL_collects_196 (pc' := 198) rfl).mpr ?_
  refine eN_laload (M := ML_collects) dL_collects_198 (pc' := 199) rfl (by assumption) (by assumption) (by omega) ?_
  refine (ev_lcmp (M := ML_collects) dL_collects_199 (pc' := 200) rfl).mpr ?_
  refine (ev_if_ge (M := ML_collects) (t := 273) dL_collects_200 (by decide) (pc' := 203) rfl).mpr (ifF (by first | assumption | omega | rfl | exact fun q => q (by assumption) | exact fun q => q rfl | (simp (disch := omega) only [nle_t, nle_f, nlt_t, nlt_f, neq_t, neq_f, i_lt0, i_le0, i_0le, i_0lt, i_eq0, i_lt, i_le, i_eq, nI_add, i_sub, i_cl, i_m1a, i_m1b, i_m1c, i_m1d, i_m1e, i_am1, i_ite0, m1_le, m1_m1, m1_ge0, not_true_eq_false, not_false_eq_true, or_self, or_false, false_or, or_true, true_or, and_self, and_true, true_and])) ?_)
  refine eN_aload_n (M := ML_collects) (k := 0) rfl dL_collects_203 (pc' := 204) rfl rfl ?_
  refine eN_iload (M := ML_collects) dL_collects_204 (pc' := 206) rfl rfl ?_
  refine (ev_cV1 (M := ML_collects) (kk := 8) dL_collects_206 c_9_84 mX6_isStored rfl rfl (by decide) rfl (pc' := 209) rfl).mpr ⟨(by assumption), (Nat.le_of_ble_eq_true rfl), eN_c c1 (by first | rfl | (simp (disch := omega) only [nI_add, i_sub]) | (simp only [*])) ?_⟩
  refine (ev_if_eq (M := ML_collects) (t := 232) dL_collects_209 (by decide) (pc' := 212) rfl).mpr (ifT (by first | assumption | omega | rfl | exact fun q => q (by assumption) | exact fun q => q rfl | (simp (disch := omega) only [nle_t, nle_f, nlt_t, nlt_f, neq_t, neq_f, i_lt0, i_le0, i_0le, i_0lt, i_eq0, i_lt, i_le, i_eq, nI_add, i_sub, i_cl, i_m1a, i_m1b, i_m1c, i_m1d, i_m1e, i_am1, i_ite0, m1_le, m1_m1, m1_ge0, not_true_eq_false, not_false_eq_true, or_self, or_false, false_or, or_true, true_or, and_self, and_true, true_and])) ?_)
  refine (ev_iconst (M := ML_collects) (v := (nI 0)) rfl dL_collects_232 (pc' := 233) rfl).mpr ?_
  refine (ev_istore (M := ML_collects) dL_collects_233 (by decide) (pc' := 235) rfl).mpr ?_
  refine eN_iload (M := ML_collects) dL_collects_235 (pc' := 237) rfl rfl ?_
  refine eN_iload (M := ML_collects) dL_collects_237 (pc' := 239) rfl rfl ?_
  refine eN_iadd (M := ML_collects) dL_collects_239 (pc' := 240) rfl ?_
  refine (ev_istore (M := ML_collects) dL_collects_240 (by decide) (pc' := 242) rfl).mpr ?_
  refine eN_iload (M := ML_collects) dL_collects_242 (pc' := 244) rfl rfl ?_
  refine eN_iload (M := ML_collects) dL_collects_244 (pc' := 246) rfl rfl ?_
  refine (ev_if_le (M := ML_collects) (t := 263) dL_collects_246 (by decide) (pc' := 249) rfl).mpr (ifT (by first | assumption | omega | rfl | exact fun q => q (by assumption) | exact fun q => q rfl | (simp (disch := omega) only [nle_t, nle_f, nlt_t, nlt_f, neq_t, neq_f, i_lt0, i_le0, i_0le, i_0lt, i_eq0, i_lt, i_le, i_eq, nI_add, i_sub, i_cl, i_m1a, i_m1b, i_m1c, i_m1d, i_m1e, i_am1, i_ite0, m1_le, m1_m1, m1_ge0, not_true_eq_false, not_false_eq_true, or_self, or_false, false_or, or_true, true_or, and_self, and_true, true_and])) ?_)
  refine (ev_iconst (M := ML_collects) (v := (nI 0)) rfl dL_collects_263 (pc' := 264) rfl).mpr ?_
  refine eN_iadd (M := ML_collects) dL_collects_264 (pc' := 265) rfl ?_
  refine (ev_istore (M := ML_collects) dL_collects_265 (by decide) (pc' := 267) rfl).mpr ?_
  refine eN_iinc (M := ML_collects) (v := 1) rfl dL_collects_267 (by decide) (pc' := 270) rfl rfl ?_
  refine (ev_goto (M := ML_collects) (pc' := 192) dL_collects_270 (by decide)).mpr ?_
  exact ev_more (by repeat (first | exact trivial | refine ⟨rfl, ?_⟩)) (by exact rfl) (by exact rfl) hq
theorem Z_co9 (k8 : tK T X = 8) (g1 : tK T G = 22) (g2 : tl T G = 7) (g3 : tJ T G 6 = jN N) (hN : N < 1000000) (hn : n < N) (hk : k < 1000000) (hz : z < 1000000) (hne : ¬ z = k) (c1 : Call (d + 6) 102 [.ref X, .int (nI n)] T (.inl (some (.int (nI 1)))) T) (c2 : Call (d + 6) 107 [.ref X, .int (nI n)] T (.inl (some (.int (nI z)))) T) (hq : Ev (d + 6) ML_collects [] 192 [(10, .int (nI (n + 1))), (9, .int (nI r)), (8, .int (nI y)), (7, .int (nI k)), (6, .int (nI 1)), (4, .int (nI o)), (0, .ref X), (1, .ref G)] [] T Q) : Ev (d + 6) ML_collects [] 192 [(10, .int (nI n)), (9, .int (nI r)), (8, .int (nI y)), (7, .int (nI k)), (6, .int (nI 1)), (4, .int (nI o)), (0, .ref X), (1, .ref G)] [] T Q := by
  have hlc : ¬ 0 ≤ lg_cmp (nI n).toInt64 (tJ T G 6) := by rw [g3, lj_ge (by omega) (by omega)]; omega
  refine eN_iload (M := ML_collects) dL_collects_192 (pc' := 194) rfl rfl ?_
  refine (ev_i2l (M := ML_collects) dL_collects_194 (pc' := 195) rfl).mpr ?_
  refine eN_aload_n (M := ML_collects) (k := 1) rfl dL_collects_195 (pc' := 196) rfl rfl ?_
  refine (ev_bipush (M := ML_collects) (v := (nI 6)) rfl dL_collects_196 (pc' := 198) rfl).mpr ?_
  refine eN_laload (M := ML_collects) dL_collects_198 (pc' := 199) rfl (by assumption) (by assumption) (by omega) ?_
  refine (ev_lcmp (M := ML_collects) dL_collects_199 (pc' := 200) rfl).mpr ?_
  refine (ev_if_ge (M := ML_collects) (t := 273) dL_collects_200 (by decide) (pc' := 203) rfl).mpr (ifF (by first | assumption | omega | rfl | exact fun q => q (by assumption) | exact fun q => q rfl | (simp (disch := omega) only [nle_t, nle_f, nlt_t, nlt_f, neq_t, neq_f, i_lt0, i_le0, i_0le, i_0lt, i_eq0, i_lt, i_le, i_eq, nI_add, i_sub, i_cl, i_m1a, i_m1b, i_m1c, i_m1d, i_m1e, i_am1, i_ite0, m1_le, m1_m1, m1_ge0, not_true_eq_false, not_false_eq_true, or_self, or_false, false_or, or_true, true_or, and_self, and_true, true_and])) ?_)
  refine eN_aload_n (M := ML_collects) (k := 0) rfl dL_collects_203 (pc' := 204) rfl rfl ?_
  refine eN_iload (M := ML_collects) dL_collects_204 (pc' := 206) rfl rfl ?_
  refine (ev_cV1 (M := ML_collects) (kk := 8) dL_collects_206 c_9_84 mX6_isStored rfl rfl (by decide) rfl (pc' := 209) rfl).mpr ⟨(by assumption), (Nat.le_of_ble_eq_true rfl), eN_c c1 (by first | rfl | (simp (disch := omega) only [nI_add, i_sub]) | (simp only [*])) ?_⟩
  refine (ev_if_eq (M := ML_collects) (t := 232) dL_collects_209 (by decide) (pc' := 212) rfl).mpr (ifF (by first | assumption | omega | rfl | exact fun q => q (by assumption) | exact fun q => q rfl | (simp (disch := omega) only [nle_t, nle_f, nlt_t, nlt_f, neq_t, neq_f, i_lt0, i_le0, i_0le, i_0lt, i_eq0, i_lt, i_le, i_eq, nI_add, i_sub, i_cl, i_m1a, i_m1b, i_m1c, i_m1d, i_m1e, i_am1, i_ite0, m1_le, m1_m1, m1_ge0, not_true_eq_false, not_false_eq_true, or_self, or_false, false_or, or_true, true_or, and_self, and_true, true_and])) ?_)
  refine eN_aload_n (M := ML_collects) (k := 0) rfl dL_collects_212 (pc' := 213) rfl rfl ?_
  refine eN_iload (M := ML_collects) dL_collects_213 (pc' := 215) rfl rfl ?_
  refine (ev_cV1 (M := ML_collects) (kk := 8) dL_collects_215 c_9_88 mX6_containerOf rfl rfl (by decide) rfl (pc' := 218) rfl).mpr ⟨(by assumption), (Nat.le_of_ble_eq_true rfl), eN_c c2 (by first | rfl | (simp (disch := omega) only [nI_add, i_sub]) | (simp only [*])) ?_⟩
  refine eN_iload (M := ML_collects) dL_collects_218 (pc' := 220) rfl rfl ?_
  refine (ev_icmp_ne (M := ML_collects) (t := 232) dL_collects_220 (by decide) (pc' := 223) rfl).mpr (ifT (by first | assumption | omega | rfl | exact fun q => q (by assumption) | exact fun q => q rfl | (simp (disch := omega) only [nle_t, nle_f, nlt_t, nlt_f, neq_t, neq_f, i_lt0, i_le0, i_0le, i_0lt, i_eq0, i_lt, i_le, i_eq, nI_add, i_sub, i_cl, i_m1a, i_m1b, i_m1c, i_m1d, i_m1e, i_am1, i_ite0, m1_le, m1_m1, m1_ge0, not_true_eq_false, not_false_eq_true, or_self, or_false, false_or, or_true, true_or, and_self, and_true, true_and])) ?_)
  refine (ev_iconst (M := ML_collects) (v := (nI 0)) rfl dL_collects_232 (pc' := 233) rfl).mpr ?_
  refine (ev_istore (M := ML_collects) dL_collects_233 (by decide) (pc' := 235) rfl).mpr ?_
  refine eN_iload (M := ML_collects) dL_collects_235 (pc' := 237) rfl rfl ?_
  refine eN_iload (M := ML_collects) dL_collects_237 (pc' := 239) rfl rfl ?_
  refine eN_iadd (M := ML_collects) dL_collects_239 (pc' := 240) rfl ?_
  refine (ev_istore (M := ML_collects) dL_collects_240 (by decide) (pc' := 242) rfl).mpr ?_
  refine eN_iload (M := ML_collects) dL_collects_242 (pc' := 244) rfl rfl ?_
  refine eN_iload (M := ML_collects) dL_collects_244 (pc' := 246) rfl rfl ?_
  refine (ev_if_le (M := ML_collects) (t := 263) dL_collects_246 (by decide) (pc' := 249) rfl).mpr (ifT (by first | assumption | omega | rfl | exact fun q => q (by assumption) | exact fun q => q rfl | (simp (disch := omega) only [nle_t, nle_f, nlt_t, nlt_f, neq_t, neq_f, i_lt0, i_le0, i_0le, i_0lt, i_eq0, i_lt, i_le, i_eq, nI_add, i_sub, i_cl, i_m1a, i_m1b, i_m1c, i_m1d, i_m1e, i_am1, i_ite0, m1_le, m1_m1, m1_ge0, not_true_eq_false, not_false_eq_true, or_self, or_false, false_or, or_true, true_or, and_self, and_true, true_and])) ?_)
  refine (ev_iconst (M := ML_collects) (v := (nI 0)) rfl dL_collects_263 (pc' := 264) rfl).mpr ?_
  refine eN_iadd (M := ML_collects) dL_collects_264 (pc' := 265) rfl ?_
  refine (ev_istore (M := ML_collects) dL_collects_265 (by decide) (pc' := 267) rfl).mpr ?_
  refine eN_iinc (M := ML_collects) (v := 1) rfl dL_collects_267 (by decide) (pc' := 270) rfl rfl ?_
  refine (ev_goto (M := ML_collects) (pc' := 192) dL_collects_270 (by decide)).mpr ?_
  exact ev_more (by repeat (first | exact trivial | refine ⟨rfl, ?_⟩)) (by exact rfl) (by exact rfl) hq
theorem Z_coa {u v : Nat} (k8 : tK T X = 8) (g1 : tK T G = 22) (g2 : tl T G = 7) (g3 : tJ T G 6 = jN N) (hN : N < 1000000) (hn : n < N) (hk : k < 1000000) (h1 : 1 ≤ l) (hl : l ≤ 32) (hu : u < 1000000) (hv : v = if u = 0 then l else 0) (c1 : Call (d + 6) 102 [.ref X, .int (nI n)] T (.inl (some (.int (nI 1)))) T) (c2 : Call (d + 6) 107 [.ref X, .int (nI n)] T (.inl (some (.int (nI k)))) T) (c3 : Call (d + 6) 104 [.ref X, .int (nI n)] T (.inl (some (.int (nI l)))) T) (c4 : Call (d + 6) 106 [.ref X, .int (nI n)] T (.inl (some (.int (nI u)))) T) (hq : Ev (d + 6) ML_collects [] 192 [(10, .int (nI (n + 1))), (9, .int (nI (r + v))), (8, .int (nI (y + l))), (7, .int (nI k)), (6, .int (nI 1)), (4, .int (nI o)), (0, .ref X), (1, .ref G)] [] T Q) : Ev (d + 6) ML_collects [] 192 [(10, .int (nI n)), (9, .int (nI r)), (8, .int (nI y)), (7, .int (nI k)), (6, .int (nI 1)), (4, .int (nI o)), (0, .ref X), (1, .ref G)] [] T Q := by
  have hlc : ¬ 0 ≤ lg_cmp (nI n).toInt64 (tJ T G 6) := by rw [g3, lj_ge (by omega) (by omega)]; omega
  by_cases e : u = 0
  · rw [if_pos e] at hv
    subst hv
    refine eN_iload (M := ML_collects) dL_collects_192 (pc' := 194) rfl rfl ?_
    refine (ev_i2l (M := ML_collects) dL_collects_194 (pc' := 195) rfl).mpr ?_
    refine eN_aload_n (M := ML_collects) (k := 1) rfl dL_collects_195 (pc' := 196) rfl rfl ?_
    refine (ev_bipush (M := ML_collects) (v := (nI 6)) rfl dL_collects_196 (pc' := 198) rfl).mpr ?_
    refine eN_laload (M := ML_collects) dL_collects_198 (pc' := 199) rfl (by assumption) (by assumption) (by omega) ?_
    refine (ev_lcmp (M := ML_collects) dL_collects_199 (pc' := 200) rfl).mpr ?_
    refine (ev_if_ge (M := ML_collects) (t := 273) dL_collects_200 (by decide) (pc' := 203) rfl).mpr (ifF (by first | assumption | omega | rfl | exact fun q => q (by assumption) | exact fun q => q rfl | (simp (disch := omega) only [nle_t, nle_f, nlt_t, nlt_f, neq_t, neq_f, i_lt0, i_le0, i_0le, i_0lt, i_eq0, i_lt, i_le, i_eq, nI_add, i_sub, i_cl, i_m1a, i_m1b, i_m1c, i_m1d, i_m1e, i_am1, i_ite0, m1_le, m1_m1, m1_ge0, not_true_eq_false, not_false_eq_true, or_self, or_false, false_or, or_true, true_or, and_self, and_true, true_and])) ?_)
    refine eN_aload_n (M := ML_collects) (k := 0) rfl dL_collects_203 (pc' := 204) rfl rfl ?_
    refine eN_iload (M := ML_collects) dL_collects_204 (pc' := 206) rfl rfl ?_
    refine (ev_cV1 (M := ML_collects) (kk := 8) dL_collects_206 c_9_84 mX6_isStored rfl rfl (by decide) rfl (pc' := 209) rfl).mpr ⟨(by assumption), (Nat.le_of_ble_eq_true rfl), eN_c c1 (by first | rfl | (simp (disch := omega) only [nI_add, i_sub]) | (simp only [*])) ?_⟩
    refine (ev_if_eq (M := ML_collects) (t := 232) dL_collects_209 (by decide) (pc' := 212) rfl).mpr (ifF (by first | assumption | omega | rfl | exact fun q => q (by assumption) | exact fun q => q rfl | (simp (disch := omega) only [nle_t, nle_f, nlt_t, nlt_f, neq_t, neq_f, i_lt0, i_le0, i_0le, i_0lt, i_eq0, i_lt, i_le, i_eq, nI_add, i_sub, i_cl, i_m1a, i_m1b, i_m1c, i_m1d, i_m1e, i_am1, i_ite0, m1_le, m1_m1, m1_ge0, not_true_eq_false, not_false_eq_true, or_self, or_false, false_or, or_true, true_or, and_self, and_true, true_and])) ?_)
    refine eN_aload_n (M := ML_collects) (k := 0) rfl dL_collects_212 (pc' := 213) rfl rfl ?_
    refine eN_iload (M := ML_collects) dL_collects_213 (pc' := 215) rfl rfl ?_
    refine (ev_cV1 (M := ML_collects) (kk := 8) dL_collects_215 c_9_88 mX6_containerOf rfl rfl (by decide) rfl (pc' := 218) rfl).mpr ⟨(by assumption), (Nat.le_of_ble_eq_true rfl), eN_c c2 (by first | rfl | (simp (disch := omega) only [nI_add, i_sub]) | (simp only [*])) ?_⟩
    refine eN_iload (M := ML_collects) dL_collects_218 (pc' := 220) rfl rfl ?_
    refine (ev_icmp_ne (M := ML_collects) (t := 232) dL_collects_220 (by decide) (pc' := 223) rfl).mpr (ifF (by first | assumption | omega | rfl | exact fun q => q (by assumption) | exact fun q => q rfl | (simp (disch := omega) only [nle_t, nle_f, nlt_t, nlt_f, neq_t, neq_f, i_lt0, i_le0, i_0le, i_0lt, i_eq0, i_lt, i_le, i_eq, nI_add, i_sub, i_cl, i_m1a, i_m1b, i_m1c, i_m1d, i_m1e, i_am1, i_ite0, m1_le, m1_m1, m1_ge0, not_true_eq_false, not_false_eq_true, or_self, or_false, false_or, or_true, true_or, and_self, and_true, true_and])) ?_)
    refine eN_aload_n (M := ML_collects) (k := 0) rfl dL_collects_223 (pc' := 224) rfl rfl ?_
    refine eN_iload (M := ML_collects) dL_collects_224 (pc' := 226) rfl rfl ?_
    refine (ev_cV1 (M := ML_collects) (kk := 8) dL_collects_226 c_9_35 mX6_chunkLength rfl rfl (by decide) rfl (pc' := 229) rfl).mpr ⟨(by assumption), (Nat.le_of_ble_eq_true rfl), eN_c c3 (by first | rfl | (simp (disch := omega) only [nI_add, i_sub]) | (simp only [*])) ?_⟩
    refine (ev_goto (M := ML_collects) (pc' := 233) dL_collects_229 (by decide)).mpr ?_
    refine (ev_istore (M := ML_collects) dL_collects_233 (by decide) (pc' := 235) rfl).mpr ?_
    refine eN_iload (M := ML_collects) dL_collects_235 (pc' := 237) rfl rfl ?_
    refine eN_iload (M := ML_collects) dL_collects_237 (pc' := 239) rfl rfl ?_
    refine eN_iadd (M := ML_collects) dL_collects_239 (pc' := 240) rfl ?_
    refine (ev_istore (M := ML_collects) dL_collects_240 (by decide) (pc' := 242) rfl).mpr ?_
    refine eN_iload (M := ML_collects) dL_collects_242 (pc' := 244) rfl rfl ?_
    refine eN_iload (M := ML_collects) dL_collects_244 (pc' := 246) rfl rfl ?_
    refine (ev_if_le (M := ML_collects) (t := 263) dL_collects_246 (by decide) (pc' := 249) rfl).mpr (ifF (by first | assumption | omega | rfl | exact fun q => q (by assumption) | exact fun q => q rfl | (simp (disch := omega) only [nle_t, nle_f, nlt_t, nlt_f, neq_t, neq_f, i_lt0, i_le0, i_0le, i_0lt, i_eq0, i_lt, i_le, i_eq, nI_add, i_sub, i_cl, i_m1a, i_m1b, i_m1c, i_m1d, i_m1e, i_am1, i_ite0, m1_le, m1_m1, m1_ge0, not_true_eq_false, not_false_eq_true, or_self, or_false, false_or, or_true, true_or, and_self, and_true, true_and])) ?_)
    refine eN_aload_n (M := ML_collects) (k := 0) rfl dL_collects_249 (pc' := 250) rfl rfl ?_
    refine eN_iload (M := ML_collects) dL_collects_250 (pc' := 252) rfl rfl ?_
    refine (ev_cV1 (M := ML_collects) (kk := 8) dL_collects_252 c_9_91 mX6_references rfl rfl (by decide) rfl (pc' := 255) rfl).mpr ⟨(by assumption), (Nat.le_of_ble_eq_true rfl), eN_c c4 (by first | rfl | (simp (disch := omega) only [nI_add, i_sub]) | (simp only [*])) ?_⟩
    refine (ev_if_ne (M := ML_collects) (t := 263) dL_collects_255 (by decide) (pc' := 258) rfl).mpr (ifF (by first | assumption | omega | rfl | exact fun q => q (by assumption) | exact fun q => q rfl | (simp (disch := omega) only [nle_t, nle_f, nlt_t, nlt_f, neq_t, neq_f, i_lt0, i_le0, i_0le, i_0lt, i_eq0, i_lt, i_le, i_eq, nI_add, i_sub, i_cl, i_m1a, i_m1b, i_m1c, i_m1d, i_m1e, i_am1, i_ite0, m1_le, m1_m1, m1_ge0, not_true_eq_false, not_false_eq_true, or_self, or_false, false_or, or_true, true_or, and_self, and_true, true_and])) ?_)
    refine eN_iload (M := ML_collects) dL_collects_258 (pc' := 260) rfl rfl ?_
    refine (ev_goto (M := ML_collects) (pc' := 264) dL_collects_260 (by decide)).mpr ?_
    refine eN_iadd (M := ML_collects) dL_collects_264 (pc' := 265) rfl ?_
    refine (ev_istore (M := ML_collects) dL_collects_265 (by decide) (pc' := 267) rfl).mpr ?_
    refine eN_iinc (M := ML_collects) (v := 1) rfl dL_collects_267 (by decide) (pc' := 270) rfl rfl ?_
    refine (ev_goto (M := ML_collects) (pc' := 192) dL_collects_270 (by decide)).mpr ?_
    exact ev_more (by repeat (first | exact trivial | refine ⟨rfl, ?_⟩)) (by exact rfl) (by exact rfl) hq
  · rw [if_neg e] at hv
    subst hv
    refine eN_iload (M := ML_collects) dL_collects_192 (pc' := 194) rfl rfl ?_
    refine (ev_i2l (M := ML_collects) dL_collects_194 (pc' := 195) rfl).mpr ?_
    refine eN_aload_n (M := ML_collects) (k := 1) rfl dL_collects_195 (pc' := 196) rfl rfl ?_
    refine (ev_bipush (M := ML_collects) (v := (nI 6)) rfl dL_collects_196 (pc' := 198) rfl).mpr ?_
    refine eN_laload (M := ML_collects) dL_collects_198 (pc' := 199) rfl (by assumption) (by assumption) (by omega) ?_
    refine (ev_lcmp (M := ML_collects) dL_collects_199 (pc' := 200) rfl).mpr ?_
    refine (ev_if_ge (M := ML_collects) (t := 273) dL_collects_200 (by decide) (pc' := 203) rfl).mpr (ifF (by first | assumption | omega | rfl | exact fun q => q (by assumption) | exact fun q => q rfl | (simp (disch := omega) only [nle_t, nle_f, nlt_t, nlt_f, neq_t, neq_f, i_lt0, i_le0, i_0le, i_0lt, i_eq0, i_lt, i_le, i_eq, nI_add, i_sub, i_cl, i_m1a, i_m1b, i_m1c, i_m1d, i_m1e, i_am1, i_ite0, m1_le, m1_m1, m1_ge0, not_true_eq_false, not_false_eq_true, or_self, or_false, false_or, or_true, true_or, and_self, and_true, true_and])) ?_)
    refine eN_aload_n (M := ML_collects) (k := 0) rfl dL_collects_203 (pc' := 204) rfl rfl ?_
    refine eN_iload (M := ML_collects) dL_collects_204 (pc' := 206) rfl rfl ?_
    refine (ev_cV1 (M := ML_collects) (kk := 8) dL_collects_206 c_9_84 mX6_isStored rfl rfl (by decide) rfl (pc' := 209) rfl).mpr ⟨(by assumption), (Nat.le_of_ble_eq_true rfl), eN_c c1 (by first | rfl | (simp (disch := omega) only [nI_add, i_sub]) | (simp only [*])) ?_⟩
    refine (ev_if_eq (M := ML_collects) (t := 232) dL_collects_209 (by decide) (pc' := 212) rfl).mpr (ifF (by first | assumption | omega | rfl | exact fun q => q (by assumption) | exact fun q => q rfl | (simp (disch := omega) only [nle_t, nle_f, nlt_t, nlt_f, neq_t, neq_f, i_lt0, i_le0, i_0le, i_0lt, i_eq0, i_lt, i_le, i_eq, nI_add, i_sub, i_cl, i_m1a, i_m1b, i_m1c, i_m1d, i_m1e, i_am1, i_ite0, m1_le, m1_m1, m1_ge0, not_true_eq_false, not_false_eq_true, or_self, or_false, false_or, or_true, true_or, and_self, and_true, true_and])) ?_)
    refine eN_aload_n (M := ML_collects) (k := 0) rfl dL_collects_212 (pc' := 213) rfl rfl ?_
    refine eN_iload (M := ML_collects) dL_collects_213 (pc' := 215) rfl rfl ?_
    refine (ev_cV1 (M := ML_collects) (kk := 8) dL_collects_215 c_9_88 mX6_containerOf rfl rfl (by decide) rfl (pc' := 218) rfl).mpr ⟨(by assumption), (Nat.le_of_ble_eq_true rfl), eN_c c2 (by first | rfl | (simp (disch := omega) only [nI_add, i_sub]) | (simp only [*])) ?_⟩
    refine eN_iload (M := ML_collects) dL_collects_218 (pc' := 220) rfl rfl ?_
    refine (ev_icmp_ne (M := ML_collects) (t := 232) dL_collects_220 (by decide) (pc' := 223) rfl).mpr (ifF (by first | assumption | omega | rfl | exact fun q => q (by assumption) | exact fun q => q rfl | (simp (disch := omega) only [nle_t, nle_f, nlt_t, nlt_f, neq_t, neq_f, i_lt0, i_le0, i_0le, i_0lt, i_eq0, i_lt, i_le, i_eq, nI_add, i_sub, i_cl, i_m1a, i_m1b, i_m1c, i_m1d, i_m1e, i_am1, i_ite0, m1_le, m1_m1, m1_ge0, not_true_eq_false, not_false_eq_true, or_self, or_false, false_or, or_true, true_or, and_self, and_true, true_and])) ?_)
    refine eN_aload_n (M := ML_collects) (k := 0) rfl dL_collects_223 (pc' := 224) rfl rfl ?_
    refine eN_iload (M := ML_collects) dL_collects_224 (pc' := 226) rfl rfl ?_
    refine (ev_cV1 (M := ML_collects) (kk := 8) dL_collects_226 c_9_35 mX6_chunkLength rfl rfl (by decide) rfl (pc' := 229) rfl).mpr ⟨(by assumption), (Nat.le_of_ble_eq_true rfl), eN_c c3 (by first | rfl | (simp (disch := omega) only [nI_add, i_sub]) | (simp only [*])) ?_⟩
    refine (ev_goto (M := ML_collects) (pc' := 233) dL_collects_229 (by decide)).mpr ?_
    refine (ev_istore (M := ML_collects) dL_collects_233 (by decide) (pc' := 235) rfl).mpr ?_
    refine eN_iload (M := ML_collects) dL_collects_235 (pc' := 237) rfl rfl ?_
    refine eN_iload (M := ML_collects) dL_collects_237 (pc' := 239) rfl rfl ?_
    refine eN_iadd (M := ML_collects) dL_collects_239 (pc' := 240) rfl ?_
    refine (ev_istore (M := ML_collects) dL_collects_240 (by decide) (pc' := 242) rfl).mpr ?_
    refine eN_iload (M := ML_collects) dL_collects_242 (pc' := 244) rfl rfl ?_
    refine eN_iload (M := ML_collects) dL_collects_244 (pc' := 246) rfl rfl ?_
    refine (ev_if_le (M := ML_collects) (t := 263) dL_collects_246 (by decide) (pc' := 249) rfl).mpr (ifF (by first | assumption | omega | rfl | exact fun q => q (by assumption) | exact fun q => q rfl | (simp (disch := omega) only [nle_t, nle_f, nlt_t, nlt_f, neq_t, neq_f, i_lt0, i_le0, i_0le, i_0lt, i_eq0, i_lt, i_le, i_eq, nI_add, i_sub, i_cl, i_m1a, i_m1b, i_m1c, i_m1d, i_m1e, i_am1, i_ite0, m1_le, m1_m1, m1_ge0, not_true_eq_false, not_false_eq_true, or_self, or_false, false_or, or_true, true_or, and_self, and_true, true_and])) ?_)
    refine eN_aload_n (M := ML_collects) (k := 0) rfl dL_collects_249 (pc' := 250) rfl rfl ?_
    refine eN_iload (M := ML_collects) dL_collects_250 (pc' := 252) rfl rfl ?_
    refine (ev_cV1 (M := ML_collects) (kk := 8) dL_collects_252 c_9_91 mX6_references rfl rfl (by decide) rfl (pc' := 255) rfl).mpr ⟨(by assumption), (Nat.le_of_ble_eq_true rfl), eN_c c4 (by first | rfl | (simp (disch := omega) only [nI_add, i_sub]) | (simp only [*])) ?_⟩
    refine (ev_if_ne (M := ML_collects) (t := 263) dL_collects_255 (by decide) (pc' := 258) rfl).mpr (ifT (by first | assumption | omega | rfl | exact fun q => q (by assumption) | exact fun q => q rfl | (simp (disch := omega) only [nle_t, nle_f, nlt_t, nlt_f, neq_t, neq_f, i_lt0, i_le0, i_0le, i_0lt, i_eq0, i_lt, i_le, i_eq, nI_add, i_sub, i_cl, i_m1a, i_m1b, i_m1c, i_m1d, i_m1e, i_am1, i_ite0, m1_le, m1_m1, m1_ge0, not_true_eq_false, not_false_eq_true, or_self, or_false, false_or, or_true, true_or, and_self, and_true, true_and])) ?_)
    refine (ev_iconst (M := ML_collects) (v := (nI 0)) rfl dL_collects_263 (pc' := 264) rfl).mpr ?_
    refine eN_iadd (M := ML_collects) dL_collects_264 (pc' := 265) rfl ?_
    refine (ev_istore (M := ML_collects) dL_collects_265 (by decide) (pc' := 267) rfl).mpr ?_
    refine eN_iinc (M := ML_collects) (v := 1) rfl dL_collects_267 (by decide) (pc' := 270) rfl rfl ?_
    refine (ev_goto (M := ML_collects) (pc' := 192) dL_collects_270 (by decide)).mpr ?_
    exact ev_more (by repeat (first | exact trivial | refine ⟨rfl, ?_⟩)) (by exact rfl) (by exact rfl) hq
theorem Z_cob (g1 : tK T G = 22) (g2 : tl T G = 7) (g3 : tJ T G 6 = jN N) (hN : N < 1000000) (hk : k < o) (ho : o < 1000000) (hr : 2 * r ≤ y) (hy : y < 1000000) (hq : Ev (d + 6) ML_collects [] 171 [(7, .int (nI (k + 1))), (6, .int (nI 1)), (4, .int (nI o)), (0, .ref X), (1, .ref G)] [] T Q) : Ev (d + 6) ML_collects [] 192 [(10, .int (nI N)), (9, .int (nI r)), (8, .int (nI y)), (7, .int (nI k)), (6, .int (nI 1)), (4, .int (nI o)), (0, .ref X), (1, .ref G)] [] T Q := by
  have hgc : 0 ≤ lg_cmp (nI N).toInt64 (tJ T G 6) := by rw [g3, lj_ge (by omega) (by omega)]; omega
  refine eN_iload (M := ML_collects) dL_collects_192 (pc' := 194) rfl rfl ?_
  refine (ev_i2l (M := ML_collects) dL_collects_194 (pc' := 195) rfl).mpr ?_
  refine eN_aload_n (M := ML_collects) (k := 1) rfl dL_collects_195 (pc' := 196) rfl rfl ?_
  refine (ev_bipush (M := ML_collects) (v := (nI 6)) rfl dL_collects_196 (pc' := 198) rfl).mpr ?_
  refine eN_laload (M := ML_collects) dL_collects_198 (pc' := 199) rfl (by assumption) (by assumption) (by omega) ?_
  refine (ev_lcmp (M := ML_collects) dL_collects_199 (pc' := 200) rfl).mpr ?_
  refine (ev_if_ge (M := ML_collects) (t := 273) dL_collects_200 (by decide) (pc' := 203) rfl).mpr (ifT (by first | assumption | omega | rfl | exact fun q => q (by assumption) | exact fun q => q rfl | (simp (disch := omega) only [nle_t, nle_f, nlt_t, nlt_f, neq_t, neq_f, i_lt0, i_le0, i_0le, i_0lt, i_eq0, i_lt, i_le, i_eq, nI_add, i_sub, i_cl, i_m1a, i_m1b, i_m1c, i_m1d, i_m1e, i_am1, i_ite0, m1_le, m1_m1, m1_ge0, not_true_eq_false, not_false_eq_true, or_self, or_false, false_or, or_true, true_or, and_self, and_true, true_and])) ?_)
  refine (ev_iconst (M := ML_collects) (v := (nI 2)) rfl dL_collects_273 (pc' := 274) rfl).mpr ?_
  refine eN_iload (M := ML_collects) dL_collects_274 (pc' := 276) rfl rfl ?_
  refine eN_imul (M := ML_collects) dL_collects_276 (pc' := 277) rfl ?_
  refine eN_iload (M := ML_collects) dL_collects_277 (pc' := 279) rfl rfl ?_
  refine (ev_icmp_gt (M := ML_collects) (t := 286) dL_collects_279 (by decide) (pc' := 282) rfl).mpr (ifF (by first | assumption | omega | rfl | exact fun q => q (by assumption) | exact fun q => q rfl | (simp (disch := omega) only [nle_t, nle_f, nlt_t, nlt_f, neq_t, neq_f, i_lt0, i_le0, i_0le, i_0lt, i_eq0, i_lt, i_le, i_eq, nI_add, i_sub, i_cl, i_m1a, i_m1b, i_m1c, i_m1d, i_m1e, i_am1, i_ite0, m1_le, m1_m1, m1_ge0, not_true_eq_false, not_false_eq_true, or_self, or_false, false_or, or_true, true_or, and_self, and_true, true_and])) ?_)
  refine (ev_iconst (M := ML_collects) (v := (nI 1)) rfl dL_collects_282 (pc' := 283) rfl).mpr ?_
  refine (ev_goto (M := ML_collects) (pc' := 287) dL_collects_283 (by decide)).mpr ?_
  refine (ev_istore (M := ML_collects) dL_collects_287 (by decide) (pc' := 289) rfl).mpr ?_
  refine eN_iinc (M := ML_collects) (v := 1) rfl dL_collects_289 (by decide) (pc' := 292) rfl rfl ?_
  refine (ev_goto (M := ML_collects) (pc' := 171) dL_collects_292 (by decide)).mpr ?_
  exact ev_more (by repeat (first | exact trivial | refine ⟨rfl, ?_⟩)) (by exact rfl) (by exact rfl) hq
theorem Z_coc (ho : o < 1000000) (hQ : Q (.inl (some (.int (nI 1)))) T) : Ev (d + 6) ML_collects [] 171 [(7, .int (nI o)), (6, .int (nI 1)), (4, .int (nI o)), (0, .ref X), (1, .ref G)] [] T Q := by
  refine eN_iload (M := ML_collects) dL_collects_171 (pc' := 173) rfl rfl ?_
  refine eN_iload (M := ML_collects) dL_collects_173 (pc' := 175) rfl rfl ?_
  refine (ev_icmp_ge (M := ML_collects) (t := 295) dL_collects_175 (by decide) (pc' := 178) rfl).mpr (ifT (by first | assumption | omega | rfl | exact fun q => q (by assumption) | exact fun q => q rfl | (simp (disch := omega) only [nle_t, nle_f, nlt_t, nlt_f, neq_t, neq_f, i_lt0, i_le0, i_0le, i_0lt, i_eq0, i_lt, i_le, i_eq, nI_add, i_sub, i_cl, i_m1a, i_m1b, i_m1c, i_m1d, i_m1e, i_am1, i_ite0, m1_le, m1_m1, m1_ge0, not_true_eq_false, not_false_eq_true, or_self, or_false, false_or, or_true, true_or, and_self, and_true, true_and])) ?_)
  refine eN_iload (M := ML_collects) dL_collects_295 (pc' := 297) rfl rfl ?_
  refine (ev_zretI (M := ML_collects) rfl dL_collects_297 (by omega)).mpr ?_
  exact hQ
end Z
/-- behind the call: the chunks of versions are there; no closed container is mostly garbage -/
theorem CO_tail {o : Nat} (h : LV T X va ba ca dr kl vf vn vb ve vp nx sv cb us bl co op cs hi re st rw bx ud) (hg : gR T G kl vf vn st) (ho : o ≤ op) (hh : ∀ k, k < o → bIn rw bx cb k = 0 ∨ bIn rw bx cb k ≤ 2 * lvR rw bx cb (uO kl ve) k) (hQ : Q (.inl (some (.int (nI 1)))) T) : Ev (d + 6) ML_collects [] 68 [(7, .int (nI 0)), (6, .int (nI 1)), (4, .int (nI o)), (0, .ref X), (1, .ref G)] [] T Q := by
  have k8 := h.k8
  obtain ⟨g1, g2, g3, -⟩ := id hg
  obtain ⟨hst, hrl⟩ := h.rwl
  obtain ⟨hop, hbl, hby, hrwl⟩ := h.bst
  have hS := h.2.2.1
  have hbx : ∀ n ∈ rw, bx n ≤ op := fun n hn => hS.1.2.2 n hn
  have h32 : ∀ n ∈ rw, 1 ≤ (cb n).length ∧ (cb n).length ≤ 32 := fun n hn => ⟨(hS.2.2.1 n hn).2.1, (hS.2.2.1 n hn).2.2.1⟩
  have no : ∀ n, n < 1000000 → n ∉ rw → ¬ ∃ m ∈ rw, nI m = nI n := fun n hn h1 ⟨m, hm, e⟩ => by
    have := hrl m hm
    rw [i_eq (by omega) (by omega)] at e
    exact h1 (e ▸ hm)
  have boxes : Ev (d + 6) ML_collects [] 171 [(7, .int (nI 0)), (6, .int (nI 1)), (4, .int (nI o)), (0, .ref X), (1, .ref G)] [] T Q := by
    refine lpX (fun k => [(7, .int (nI k)), (6, .int (nI 1)), (4, .int (nI o)), (0, .ref X), (1, .ref G)]) (fun _ => T) o rfl rfl ?_ ?_
    · intro k hk hq
      refine Z_co7 hk (by omega) ?_
      have eI : sm (fun n => if n ∈ rw then (fun n => if bx n = k then (cb n).length else 0) n else 0) st = bIn rw bx cb k := chu_in h (fun n => if bx n = k then (cb n).length else 0)
      have eJ : sm (fun n => if n ∈ rw then (fun n => if bx n = k then (if uO kl ve n = 0 then (cb n).length else 0) else 0) n else 0) st = gI rw bx (fun n => if uO kl ve n = 0 then (cb n).length else 0) k := chu_in h (fun n => if bx n = k then (if uO kl ve n = 0 then (cb n).length else 0) else 0)
      refine lpX (fun n => [(10, .int (nI n)), (9, .int (nI (sm (fun n => if n ∈ rw then (fun n => if bx n = k then (if uO kl ve n = 0 then (cb n).length else 0) else 0) n else 0) n))), (8, .int (nI (sm (fun n => if n ∈ rw then (fun n => if bx n = k then (cb n).length else 0) n else 0) n))), (7, .int (nI k)), (6, .int (nI 1)), (4, .int (nI o)), (0, .ref X), (1, .ref G)]) (fun _ => T) st rfl rfl ?_ ?_
      · intro n hn hq2
        have e3 : sm (fun n => if n ∈ rw then (fun n => if bx n = k then (cb n).length else 0) n else 0) (n + 1) = sm (fun n => if n ∈ rw then (fun n => if bx n = k then (cb n).length else 0) n else 0) n + (if n ∈ rw then (if bx n = k then (cb n).length else 0) else 0) := rfl
        have e4 : sm (fun n => if n ∈ rw then (fun n => if bx n = k then (if uO kl ve n = 0 then (cb n).length else 0) else 0) n else 0) (n + 1) = sm (fun n => if n ∈ rw then (fun n => if bx n = k then (if uO kl ve n = 0 then (cb n).length else 0) else 0) n else 0) n + (if n ∈ rw then (if bx n = k then (if uO kl ve n = 0 then (cb n).length else 0) else 0) else 0) := rfl
        rw [e3, e4] at hq2
        generalize sm (fun n => if n ∈ rw then (fun n => if bx n = k then (cb n).length else 0) n else 0) n = y at *
        generalize sm (fun n => if n ∈ rw then (fun n => if bx n = k then (if uO kl ve n = 0 then (cb n).length else 0) else 0) n else 0) n = r at *
        by_cases e : n ∈ rw
        · have hb9 := hbx n e
          rw [if_pos e, if_pos e] at hq2
          by_cases e4 : bx n = k
          · rw [if_pos e4, if_pos e4] at hq2
            have cc := h.containerOf (d := d + 1) e
            rw [e4] at cc
            have hu := uO_le (ve := ve) (n := n) h.2.1.1 h.2.1.2.1 (fun k hk => (h.lens hk).2)
            exact Z_coa k8 g1 g2 g3 hst hn (by omega) (h32 n e).1 (h32 n e).2 (by omega) rfl (h.isStored (d := d + 1) e) cc (h.chunkLength (d := d + 1) e) (h.references (d := d + 1) e) hq2
          · rw [if_neg e4, if_neg e4] at hq2
            exact Z_co9 k8 g1 g2 g3 hst hn (by omega) (by omega) e4 (h.isStored (d := d + 1) e) (h.containerOf (d := d + 1) e) hq2
        · rw [if_neg e, if_neg e] at hq2
          exact Z_co8 k8 g1 g2 g3 hst hn (h.notStored (d := d + 1) (no n (by omega) e)) hq2
      · rw [eI, eJ]
        have b1 := gar_box (cb := cb) (U := uO kl ve) rw bx k
        have b3 := hS.2.2.2.2.2.1 k
        have b4 := hh k hk
        exact Z_cob g1 g2 g3 hst hk (by omega) (by omega) (by omega) hq
    · exact Z_coc (by omega) hQ
  refine lpX (fun i => [(7, .int (nI i)), (6, .int (nI 1)), (4, .int (nI o)), (0, .ref X), (1, .ref G)]) (fun _ => T) 384 rfl rfl ?_ ?_
  · intro i hi9 hq
    have hbn := hg.bni h hi9
    by_cases e : i ∈ keyL kl vf vn
    · rw [if_pos e] at hbn
      obtain ⟨k, hk, rfl⟩ := List.mem_map.mp e
      have hb64 := h.b64 hk
      have e1 : key vf vn k / 64 = vf k := by unfold key; omega
      have e2 : key vf vn k % 64 = vn k := by unfold key; omega
      have c1 := h.chunksOf (d := d + 2) hk
      have c2 := fun j hj => h.chunkAt (d := d + 2) (j := j) hk hj
      rw [← e1, ← e2] at c1 c2
      refine Z_co3 k8 g1 g2 hi9 hbn c1 ?_
      refine lpX (fun j => [(9, .int (nI j)), (8, .int (nI (ve k).length)), (7, .int (nI (key vf vn k))), (6, .int (nI 1)), (4, .int (nI o)), (0, .ref X), (1, .ref G)]) (fun _ => T) (ve k).length rfl rfl ?_ ?_
      · intro j hj hq2
        exact Z_co4 k8 hi9 (h.lens hk).2 hj (c2 j hj) (h.isStored (d := d + 1) (h.ents hk _ (gD_mem hj))) hq2
      · exact Z_co5 (h.lens hk).2 hi9 hq
    · rw [if_neg e] at hbn
      exact Z_co2 g1 g2 hi9 hbn hq
  · exact Z_co6 boxes
theorem C_collects (h : VK S X G L n0 u0 c na T va ba ca dr kl vf vn vb ve vp nx sv cb us bl co op cs hi re st rw bx ud) (hc : c < 512) : CallQ (d + 7) 142 [.ref X, .ref G] T (fun q T' => q = .inl (some (.int (nI 1))) ∧ VE S X G L n0 u0 (c + 1) na nx T') := by
  have hRV := h.2.2.1
  have hC := h.2.1
  have hw : wf T := h.2.2.2.1
  have G0 : LG S G L na kl vf vn st T := h.2.2.2.2
  have L0 := h.1
  have hX := L0.1
  have hK := L0.2.1
  have hS := L0.2.2.1
  have hP := L0.2.2.2.1
  have hu := L0.2.2.2.2
  obtain ⟨f1, f2, f3, f4, f5, f6, f7, f8, f9, f10, f11⟩ := col_fin hS hu
  obtain ⟨s1, s2⟩ := col_sum hS hu
  have hhf := col_half (fun k hk => ⟨(f3 k hk).1, (f3 k hk).2.1⟩) op (Nat.le_refl _)
  have hcs := col_cs (cb := cb) (U := uO kl ve) (D0 := (rw, bx, op, cs, 0)) hP.2.2.2.1 op
  obtain ⟨_, T1, c1, rfl, ba1, x1, ⟨n, u, F⟩, A⟩ := X_collect (d := d) hw hX f1 f2 (fun k hk n hn => by
    have h0 := f11 n ((hK.2.2.2.2.2.2 k hk).1 n hn) (uO_pos hK.1 hK.2.1 hk hn)
    exact ⟨_, f4.1.at h0⟩)
  have g1 := hS.1.len
  have g2 := f4.1.len
  dsimp only at g1 g2
  have hgar := col_gar (cb := cb) (U := uO kl ve) hS.2.1 f4.2.1 (fun n hn => (hS.2.2.1 n hn).1) s2 f11 s1
  rw [f6] at hcs
  rw [f7] at s1 hgar
  have L1 : LV T1 X va ba1 ca dr kl vf vn vb ve vp nx sv cb us (cSn cb us (bl, co, op, cs, 0, 0) (bl.length - 1)).1 (cSn cb us (bl, co, op, cs, 0, 0) (bl.length - 1)).2.1 (cSn cb us (bl, co, op, cs, 0, 0) (bl.length - 1)).2.2.1 (cSn cb us (bl, co, op, cs, 0, 0) (bl.length - 1)).2.2.2.1 hi re st (cRn cb (uO kl ve) (rw, bx, op, cs, 0) op).1 (cRn cb (uO kl ve) (rw, bx, op, cs, 0) op).2.1 ud := ⟨x1, hK.rows f11, f4, ⟨hP.1, hP.2.1, hP.2.2.1, hcs, hP.2.2.2.2⟩, hu⟩
  have G1 := G0.keep hX F (fun a q => by
    refine Or.inr (Or.inr (Or.inr (Or.inr (Or.inr (Or.inr ?_)))))
    rcases q with q | q | q | ⟨k, hk, q | q | ⟨n, hn, q⟩⟩
    · exact Or.inl q
    · exact Or.inr (Or.inl q)
    · exact Or.inr (Or.inr (Or.inl q))
    · exact Or.inr (Or.inr (Or.inr (Or.inr ⟨k, hk, Or.inl q⟩)))
    · exact Or.inr (Or.inr (Or.inr (Or.inr ⟨k, hk, Or.inr (Or.inl q)⟩)))
    · exact Or.inr (Or.inr (Or.inr (Or.inr ⟨k, hk, Or.inr (Or.inr ⟨n, hn, Or.inl q⟩)⟩))))
  have hRV' := hRV.am A (bl' := (cSn cb us (bl, co, op, cs, 0, 0) (bl.length - 1)).1) (by omega) (by omega)
  have e1 := L0.storedBytes (d := d + 2)
  have e2 := L0.garbage (d := d + 2)
  rw [← s1] at e1
  rw [← hgar] at e2
  have hop := L1.bst.1
  have hb0 := L0.bst.2.2.1
  have hb1 := L1.bst.2.2.1
  have hg1 := gar_le (rw := (cRn cb (uO kl ve) (rw, bx, op, cs, 0) op).1) (cb := cb) (U := uO kl ve)
  have c3 := R_openContainer (d := d + 2) hX
  have c7 := R_openContainer (d := d + 2) L1.1
  have c5 := L1.storedBytes (d := d + 2)
  have c6 := L1.garbage (d := d + 2)
  have fin : (fun q T' => q = .inl (some (.int (nI 1))) ∧ VE S X G L n0 u0 (c + 1) na nx T' : Post) (.inl (some (.int (nI 1)))) T1 := ⟨rfl, _, _, _, _, _, _, _, _, _, _, _, _, _, _, _, _, _, _, _, _, _, _, _, L1, hC.next hc, hRV', F.ok, G1.1, G1.2.1, G1.2.2⟩
  have tail := CO_tail (d := d) (Q := fun q T' => q = .inl (some (.int (nI 1))) ∧ VE S X G L n0 u0 (c + 1) na nx T') (o := op) L1 G1.1 f8 (fun k hk => hhf k hk) fin
  rw [uL_collects]
  exact Z_co1 L0.k8 L1.k8 (by omega) (by omega) (by omega) f8 (by omega) e1 e2 c3 c1 c5 c6 c7 tail
end CLS
