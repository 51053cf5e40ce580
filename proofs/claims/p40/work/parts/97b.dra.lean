/-! drafts: the draft is changed, and changed back -/
section DRA
variable {d S X G L n0 u0 c : Nat} {va ba ca : Nat → Nat} {dr kl : List Nat} {vf vn : Nat → Nat} {vb ve : Nat → List Nat} {vp : Nat → Option Nat} {nx na : Nat → Nat} {sv : Nat} {cb : Nat → List Nat} {us : Nat → Nat} {bl cs : List Nat} {co : Nat → List Nat} {op hi re st : Nat} {rw : List Nat} {bx : Nat → Nat} {ud : Nat} {T T' T1 : TS}
theorem R_dAt {j : Nat} (h : XR T X va ba ca dr kl vf vn vb ve vp nx sv cb us bl co op cs hi re st) (hj : j < dr.length) : Call (d + 2) 86 [.ref X, .int (nI j)] T (.inl (some (.int (nI (dr.getD j 0))))) T := by
  have c := R_draftAt (d := d) (nI j) h
  have hl := h.2.1.1.2.2.2.2.2.1
  rw [inR_at hj (by omega), Option.map_some] at c
  exact c
section Z
variable {x y l m s t e a b p n v : Nat} {w : Int32} {Q : Post}
theorem Z_dr1 (k8 : tK T X = 8) (hl : l ≤ 240) (hx : x < 2147483648) (hy : y < 2147483648) (h : y % 3 = 0) (c1 : Call (d + 4) 85 [.ref X] T (.inl (some (.int (nI l)))) T) (hq : Ev (d + 4) ML_drafts [] 51 [(8, .int (nI (y / 3 % 256))), (7, .int (nI (x / 64 % 256))), (6, .int (nI (1 + x % 64))), (5, .int (nI l)), (0, .ref X)] [] T Q) : Ev (d + 4) ML_drafts [] 0 [(0, .ref X), (1, .int (nI 0)), (2, .int (nI x)), (3, .int (nI y)), (4, .ref G)] [] T Q := by
  refine eN_aload_n (M := ML_drafts) (k := 0) rfl dL_drafts_0 (pc' := 1) rfl rfl ?_
  refine (ev_cV0 (M := ML_drafts) (kk := 8) dL_drafts_1 c_9_129 mX6_draftLength rfl rfl (by decide) rfl (pc' := 4) rfl).mpr ⟨(by assumption), (Nat.le_of_ble_eq_true rfl), eN_c c1 (by first | rfl | (simp (disch := omega) only [nI_add, i_sub]) | (simp only [*])) ?_⟩
  refine (ev_istore (M := ML_drafts) dL_drafts_4 (by decide) (pc' := 6) rfl).mpr ?_
  refine eN_iload_n (M := ML_drafts) (k := 1) rfl dL_drafts_6 (pc' := 7) rfl rfl ?_
  refine (ev_if_ne (M := ML_drafts) (t := 125) dL_drafts_7 (by decide) (pc' := 10) rfl).mpr (ifF (by first | assumption | omega | rfl | exact fun q => q (by assumption) | exact fun q => q rfl | (simp (disch := omega) only [nle_t, nle_f, nlt_t, nlt_f, neq_t, neq_f, i_lt0, i_le0, i_0le, i_0lt, i_eq0, i_lt, i_le, i_eq, nI_add, i_sub, i_cl, i_m1a, i_m1b, i_m1c, i_m1d, i_m1e, i_am1, i_ite0, m1_le, m1_m1, m1_ge0, not_true_eq_false, not_false_eq_true, or_self, or_false, false_or, or_true, true_or, and_self, and_true, true_and])) ?_)
  refine (ev_iconst (M := ML_drafts) (v := (nI 1)) rfl dL_drafts_10 (pc' := 11) rfl).mpr ?_
  refine eN_iload_n (M := ML_drafts) (k := 2) rfl dL_drafts_11 (pc' := 12) rfl rfl ?_
  refine (ev_bipush (M := ML_drafts) (v := (nI 64)) rfl dL_drafts_12 (pc' := 14) rfl).mpr ?_
  refine eN_irem (M := ML_drafts) dL_drafts_14 (pc' := 15) rfl (by omega) ?_
  refine eN_iadd (M := ML_drafts) dL_drafts_15 (pc' := 16) rfl ?_
  refine (ev_istore (M := ML_drafts) dL_drafts_16 (by decide) (pc' := 18) rfl).mpr ?_
  refine eN_iload_n (M := ML_drafts) (k := 2) rfl dL_drafts_18 (pc' := 19) rfl rfl ?_
  refine (ev_bipush (M := ML_drafts) (v := (nI 64)) rfl dL_drafts_19 (pc' := 21) rfl).mpr ?_
  refine eN_idiv (M := ML_drafts) dL_drafts_21 (pc' := 22) rfl (by omega) ?_
  refine (ev_sipush (M := ML_drafts) (v := (nI 256)) rfl dL_drafts_22 (pc' := 25) rfl).mpr ?_
  refine eN_irem (M := ML_drafts) dL_drafts_25 (pc' := 26) rfl (by omega) ?_
  refine (ev_istore (M := ML_drafts) dL_drafts_26 (by decide) (pc' := 28) rfl).mpr ?_
  refine eN_iload_n (M := ML_drafts) (k := 3) rfl dL_drafts_28 (pc' := 29) rfl rfl ?_
  refine (ev_iconst (M := ML_drafts) (v := (nI 3)) rfl dL_drafts_29 (pc' := 30) rfl).mpr ?_
  refine eN_irem (M := ML_drafts) dL_drafts_30 (pc' := 31) rfl (by omega) ?_
  refine (ev_if_ne (M := ML_drafts) (t := 44) dL_drafts_31 (by decide) (pc' := 34) rfl).mpr (ifF (by first | assumption | omega | rfl | exact fun q => q (by assumption) | exact fun q => q rfl | (simp (disch := omega) only [nle_t, nle_f, nlt_t, nlt_f, neq_t, neq_f, i_lt0, i_le0, i_0le, i_0lt, i_eq0, i_lt, i_le, i_eq, nI_add, i_sub, i_cl, i_m1a, i_m1b, i_m1c, i_m1d, i_m1e, i_am1, i_ite0, m1_le, m1_m1, m1_ge0, not_true_eq_false, not_false_eq_true, or_self, or_false, false_or, or_true, true_or, and_self, and_true, true_and])) ?_)
  refine eN_iload_n (M := ML_drafts) (k := 3) rfl dL_drafts_34 (pc' := 35) rfl rfl ?_
  refine (ev_iconst (M := ML_drafts) (v := (nI 3)) rfl dL_drafts_35 (pc' := 36) rfl).mpr ?_
  refine eN_idiv (M := ML_drafts) dL_drafts_36 (pc' := 37) rfl (by omega) ?_
  refine (ev_sipush (M := ML_drafts) (v := (nI 256)) rfl dL_drafts_37 (pc' := 40) rfl).mpr ?_
  refine eN_irem (M := ML_drafts) dL_drafts_40 (pc' := 41) rfl (by omega) ?_
  refine (ev_goto (M := ML_drafts) (pc' := 49) dL_drafts_41 (by decide)).mpr ?_
  refine (ev_istore (M := ML_drafts) dL_drafts_49 (by decide) (pc' := 51) rfl).mpr ?_
  exact ev_more (by repeat (first | exact trivial | refine ⟨rfl, ?_⟩)) (by exact rfl) (by exact rfl) hq
theorem Z_dr2 (k8 : tK T X = 8) (hl : l ≤ 240) (hx : x < 2147483648) (hy : y < 2147483648) (h : ¬ y % 3 = 0) (c1 : Call (d + 4) 85 [.ref X] T (.inl (some (.int (nI l)))) T) (hq : Ev (d + 4) ML_drafts [] 51 [(8, .int (nI (y % 3 - 1))), (7, .int (nI (x / 64 % 256))), (6, .int (nI (1 + x % 64))), (5, .int (nI l)), (0, .ref X)] [] T Q) : Ev (d + 4) ML_drafts [] 0 [(0, .ref X), (1, .int (nI 0)), (2, .int (nI x)), (3, .int (nI y)), (4, .ref G)] [] T Q := by
  refine eN_aload_n (M := ML_drafts) (k := 0) rfl dL_drafts_0 (pc' := 1) rfl rfl ?_
  refine (ev_cV0 (M := ML_drafts) (kk := 8) dL_drafts_1 c_9_129 mX6_draftLength rfl rfl (by decide) rfl (pc' := 4) rfl).mpr ⟨(by assumption), (Nat.le_of_ble_eq_true rfl), eN_c c1 (by first | rfl | (simp (disch := omega) only [nI_add, i_sub]) | (simp only [*])) ?_⟩
  refine (ev_istore (M := ML_drafts) dL_drafts_4 (by decide) (pc' := 6) rfl).mpr ?_
  refine eN_iload_n (M := ML_drafts) (k := 1) rfl dL_drafts_6 (pc' := 7) rfl rfl ?_
  refine (ev_if_ne (M := ML_drafts) (t := 125) dL_drafts_7 (by decide) (pc' := 10) rfl).mpr (ifF (by first | assumption | omega | rfl | exact fun q => q (by assumption) | exact fun q => q rfl | (simp (disch := omega) only [nle_t, nle_f, nlt_t, nlt_f, neq_t, neq_f, i_lt0, i_le0, i_0le, i_0lt, i_eq0, i_lt, i_le, i_eq, nI_add, i_sub, i_cl, i_m1a, i_m1b, i_m1c, i_m1d, i_m1e, i_am1, i_ite0, m1_le, m1_m1, m1_ge0, not_true_eq_false, not_false_eq_true, or_self, or_false, false_or, or_true, true_or, and_self, and_true, true_and])) ?_)
  refine (ev_iconst (M := ML_drafts) (v := (nI 1)) rfl dL_drafts_10 (pc' := 11) rfl).mpr ?_
  refine eN_iload_n (M := ML_drafts) (k := 2) rfl dL_drafts_11 (pc' := 12) rfl rfl ?_
  refine (ev_bipush (M := ML_drafts) (v := (nI 64)) rfl dL_drafts_12 (pc' := 14) rfl).mpr ?_
  refine eN_irem (M := ML_drafts) dL_drafts_14 (pc' := 15) rfl (by omega) ?_
  refine eN_iadd (M := ML_drafts) dL_drafts_15 (pc' := 16) rfl ?_
  refine (ev_istore (M := ML_drafts) dL_drafts_16 (by decide) (pc' := 18) rfl).mpr ?_
  refine eN_iload_n (M := ML_drafts) (k := 2) rfl dL_drafts_18 (pc' := 19) rfl rfl ?_
  refine (ev_bipush (M := ML_drafts) (v := (nI 64)) rfl dL_drafts_19 (pc' := 21) rfl).mpr ?_
  refine eN_idiv (M := ML_drafts) dL_drafts_21 (pc' := 22) rfl (by omega) ?_
  refine (ev_sipush (M := ML_drafts) (v := (nI 256)) rfl dL_drafts_22 (pc' := 25) rfl).mpr ?_
  refine eN_irem (M := ML_drafts) dL_drafts_25 (pc' := 26) rfl (by omega) ?_
  refine (ev_istore (M := ML_drafts) dL_drafts_26 (by decide) (pc' := 28) rfl).mpr ?_
  refine eN_iload_n (M := ML_drafts) (k := 3) rfl dL_drafts_28 (pc' := 29) rfl rfl ?_
  refine (ev_iconst (M := ML_drafts) (v := (nI 3)) rfl dL_drafts_29 (pc' := 30) rfl).mpr ?_
  refine eN_irem (M := ML_drafts) dL_drafts_30 (pc' := 31) rfl (by omega) ?_
  refine (ev_if_ne (M := ML_drafts) (t := 44) dL_drafts_31 (by decide) (pc' := 34) rfl).mpr (ifT (by first | assumption | omega | rfl | exact fun q => q (by assumption) | exact fun q => q rfl | (simp (disch := omega) only [nle_t, nle_f, nlt_t, nlt_f, neq_t, neq_f, i_lt0, i_le0, i_0le, i_0lt, i_eq0, i_lt, i_le, i_eq, nI_add, i_sub, i_cl, i_m1a, i_m1b, i_m1c, i_m1d, i_m1e, i_am1, i_ite0, m1_le, m1_m1, m1_ge0, not_true_eq_false, not_false_eq_true, or_self, or_false, false_or, or_true, true_or, and_self, and_true, true_and])) ?_)
  refine eN_iload_n (M := ML_drafts) (k := 3) rfl dL_drafts_44 (pc' := 45) rfl rfl ?_
  refine (ev_iconst (M := ML_drafts) (v := (nI 3)) rfl dL_drafts_45 (pc' := 46) rfl).mpr ?_
  refine eN_irem (M := ML_drafts) dL_drafts_46 (pc' := 47) rfl (by omega) ?_
  refine (ev_iconst (M := ML_drafts) (v := (nI 1)) rfl dL_drafts_47 (pc' := 48) rfl).mpr ?_
  refine eN_isub (M := ML_drafts) dL_drafts_48 (pc' := 49) rfl (by omega) ?_
  refine (ev_istore (M := ML_drafts) dL_drafts_49 (by decide) (pc' := 51) rfl).mpr ?_
  exact ev_more (by repeat (first | exact trivial | refine ⟨rfl, ?_⟩)) (by exact rfl) (by exact rfl) hq
theorem Z_dr3 (hl : l ≤ 240) (hm : m ≤ 64) (h : 240 < l + m) (hQ : Q (.inl (some (.int (nI 1)))) T) : Ev (d + 4) ML_drafts [] 51 [(8, .int (nI t)), (7, .int (nI s)), (6, .int (nI m)), (5, .int (nI l)), (0, .ref X)] [] T Q := by
  refine eN_iload (M := ML_drafts) dL_drafts_51 (pc' := 53) rfl rfl ?_
  refine eN_iload (M := ML_drafts) dL_drafts_53 (pc' := 55) rfl rfl ?_
  refine eN_iadd (M := ML_drafts) dL_drafts_55 (pc' := 56) rfl ?_
  refine (ev_sipush (M := ML_drafts) (v := (nI 240)) rfl dL_drafts_56 (pc' := 59) rfl).mpr ?_
  refine (ev_icmp_gt (M := ML_drafts) (t := 119) dL_drafts_59 (by decide) (pc' := 62) rfl).mpr (ifT (by first | assumption | omega | rfl | exact fun q => q (by assumption) | exact fun q => q rfl | (simp (disch := omega) only [nle_t, nle_f, nlt_t, nlt_f, neq_t, neq_f, i_lt0, i_le0, i_0le, i_0lt, i_eq0, i_lt, i_le, i_eq, nI_add, i_sub, i_cl, i_m1a, i_m1b, i_m1c, i_m1d, i_m1e, i_am1, i_ite0, m1_le, m1_m1, m1_ge0, not_true_eq_false, not_false_eq_true, or_self, or_false, false_or, or_true, true_or, and_self, and_true, true_and])) ?_)
  refine (ev_iconst (M := ML_drafts) (v := (nI 1)) rfl dL_drafts_119 (pc' := 120) rfl).mpr ?_
  refine (ev_goto (M := ML_drafts) (pc' := 124) dL_drafts_120 (by decide)).mpr ?_
  refine (ev_zretI (M := ML_drafts) rfl dL_drafts_124 (by omega)).mpr ?_
  exact hQ
theorem Z_dr4 (k8 : tK T X = 8) (k8' : tK T' X = 8) (h1 : 1 ≤ m) (h : l + m ≤ 240) (hs : s < 256) (hp : t * (m - 1) ≤ 16065) (c1 : Call (d + 4) 80 [.ref X, .int (nI s), .int (nI t), .int (nI m)] T (.inl (some (.int (nI (l + m))))) T') (c2 : Call (d + 4) 86 [.ref X, .int (nI l)] T' (.inl (some (.int (nI s)))) T') (c3 : Call (d + 4) 86 [.ref X, .int (nI (l + m - 1))] T' (.inl (some (.int (nI ((s + t * (m - 1)) % 256))))) T') (hQ : Q (.inl (some (.int (nI 1)))) T') : Ev (d + 4) ML_drafts [] 51 [(8, .int (nI t)), (7, .int (nI s)), (6, .int (nI m)), (5, .int (nI l)), (0, .ref X)] [] T Q := by
  refine eN_iload (M := ML_drafts) dL_drafts_51 (pc' := 53) rfl rfl ?_
  refine eN_iload (M := ML_drafts) dL_drafts_53 (pc' := 55) rfl rfl ?_
  refine eN_iadd (M := ML_drafts) dL_drafts_55 (pc' := 56) rfl ?_
  refine (ev_sipush (M := ML_drafts) (v := (nI 240)) rfl dL_drafts_56 (pc' := 59) rfl).mpr ?_
  refine (ev_icmp_gt (M := ML_drafts) (t := 119) dL_drafts_59 (by decide) (pc' := 62) rfl).mpr (ifF (by first | assumption | omega | rfl | exact fun q => q (by assumption) | exact fun q => q rfl | (simp (disch := omega) only [nle_t, nle_f, nlt_t, nlt_f, neq_t, neq_f, i_lt0, i_le0, i_0le, i_0lt, i_eq0, i_lt, i_le, i_eq, nI_add, i_sub, i_cl, i_m1a, i_m1b, i_m1c, i_m1d, i_m1e, i_am1, i_ite0, m1_le, m1_m1, m1_ge0, not_true_eq_false, not_false_eq_true, or_self, or_false, false_or, or_true, true_or, and_self, and_true, true_and])) ?_)
  refine eN_aload_n (M := ML_drafts) (k := 0) rfl dL_drafts_62 (pc' := 63) rfl rfl ?_
  refine eN_iload (M := ML_drafts) dL_drafts_63 (pc' := 65) rfl rfl ?_
  refine eN_iload (M := ML_drafts) dL_drafts_65 (pc' := 67) rfl rfl ?_
  refine eN_iload (M := ML_drafts) dL_drafts_67 (pc' := 69) rfl rfl ?_
  refine (ev_cV3 (M := ML_drafts) (kk := 8) dL_drafts_69 c_9_147 mX6_append rfl rfl (by decide) rfl (pc' := 72) rfl).mpr ⟨(by assumption), (Nat.le_of_ble_eq_true rfl), eN_c c1 (by first | rfl | (simp (disch := omega) only [nI_add, i_sub]) | (simp only [*])) ?_⟩
  refine eN_iload (M := ML_drafts) dL_drafts_72 (pc' := 74) rfl rfl ?_
  refine eN_iload (M := ML_drafts) dL_drafts_74 (pc' := 76) rfl rfl ?_
  refine eN_iadd (M := ML_drafts) dL_drafts_76 (pc' := 77) rfl ?_
  refine (ev_icmp_ne (M := ML_drafts) (t := 123) dL_drafts_77 (by decide) (pc' := 80) rfl).mpr (ifF (by first | assumption | omega | rfl | exact fun q => q (by assumption) | exact fun q => q rfl | (simp (disch := omega) only [nle_t, nle_f, nlt_t, nlt_f, neq_t, neq_f, i_lt0, i_le0, i_0le, i_0lt, i_eq0, i_lt, i_le, i_eq, nI_add, i_sub, i_cl, i_m1a, i_m1b, i_m1c, i_m1d, i_m1e, i_am1, i_ite0, m1_le, m1_m1, m1_ge0, not_true_eq_false, not_false_eq_true, or_self, or_false, false_or, or_true, true_or, and_self, and_true, true_and])) ?_)
  refine eN_aload_n (M := ML_drafts) (k := 0) rfl dL_drafts_80 (pc' := 81) rfl rfl ?_
  refine eN_iload (M := ML_drafts) dL_drafts_81 (pc' := 83) rfl rfl ?_
  refine (ev_cV1 (M := ML_drafts) (kk := 8) dL_drafts_83 c_9_132 mX6_draftAt rfl rfl (by decide) rfl (pc' := 86) rfl).mpr ⟨(by assumption), (Nat.le_of_ble_eq_true rfl), eN_c c2 (by first | rfl | (simp (disch := omega) only [nI_add, i_sub]) | (simp only [*])) ?_⟩
  refine eN_iload (M := ML_drafts) dL_drafts_86 (pc' := 88) rfl rfl ?_
  refine (ev_icmp_ne (M := ML_drafts) (t := 123) dL_drafts_88 (by decide) (pc' := 91) rfl).mpr (ifF (by first | assumption | omega | rfl | exact fun q => q (by assumption) | exact fun q => q rfl | (simp (disch := omega) only [nle_t, nle_f, nlt_t, nlt_f, neq_t, neq_f, i_lt0, i_le0, i_0le, i_0lt, i_eq0, i_lt, i_le, i_eq, nI_add, i_sub, i_cl, i_m1a, i_m1b, i_m1c, i_m1d, i_m1e, i_am1, i_ite0, m1_le, m1_m1, m1_ge0, not_true_eq_false, not_false_eq_true, or_self, or_false, false_or, or_true, true_or, and_self, and_true, true_and])) ?_)
  refine eN_aload_n (M := ML_drafts) (k := 0) rfl dL_drafts_91 (pc' := 92) rfl rfl ?_
  refine eN_iload (M := ML_drafts) dL_drafts_92 (pc' := 94) rfl rfl ?_
  refine eN_iload (M := ML_drafts) dL_drafts_94 (pc' := 96) rfl rfl ?_
  refine eN_iadd (M := ML_drafts) dL_drafts_96 (pc' := 97) rfl ?_
  refine (ev_iconst (M := ML_drafts) (v := (nI 1)) rfl dL_drafts_97 (pc' := 98) rfl).mpr ?_
  refine eN_isub (M := ML_drafts) dL_drafts_98 (pc' := 99) rfl (by omega) ?_
  refine (ev_cV1 (M := ML_drafts) (kk := 8) dL_drafts_99 c_9_132 mX6_draftAt rfl rfl (by decide) rfl (pc' := 102) rfl).mpr ⟨(by assumption), (Nat.le_of_ble_eq_true rfl), eN_c c3 (by first | rfl | (simp (disch := omega) only [nI_add, i_sub]) | (simp only [*])) ?_⟩
  refine eN_iload (M := ML_drafts) dL_drafts_102 (pc' := 104) rfl rfl ?_
  refine eN_iload (M := ML_drafts) dL_drafts_104 (pc' := 106) rfl rfl ?_
  refine eN_iload (M := ML_drafts) dL_drafts_106 (pc' := 108) rfl rfl ?_
  refine (ev_iconst (M := ML_drafts) (v := (nI 1)) rfl dL_drafts_108 (pc' := 109) rfl).mpr ?_
  refine eN_isub (M := ML_drafts) dL_drafts_109 (pc' := 110) rfl (by omega) ?_
  refine eN_imul (M := ML_drafts) dL_drafts_110 (pc' := 111) rfl ?_
  refine eN_iadd (M := ML_drafts) dL_drafts_111 (pc' := 112) rfl ?_
  refine (ev_sipush (M := ML_drafts) (v := (nI 256)) rfl dL_drafts_112 (pc' := 115) rfl).mpr ?_
  refine eN_irem (M := ML_drafts) dL_drafts_115 (pc' := 116) rfl (by omega) ?_
  refine (ev_icmp_ne (M := ML_drafts) (t := 123) dL_drafts_116 (by decide) (pc' := 119) rfl).mpr (ifF (by first | assumption | omega | rfl | exact fun q => q (by assumption) | exact fun q => q rfl | (simp (disch := omega) only [nle_t, nle_f, nlt_t, nlt_f, neq_t, neq_f, i_lt0, i_le0, i_0le, i_0lt, i_eq0, i_lt, i_le, i_eq, nI_add, i_sub, i_cl, i_m1a, i_m1b, i_m1c, i_m1d, i_m1e, i_am1, i_ite0, m1_le, m1_m1, m1_ge0, not_true_eq_false, not_false_eq_true, or_self, or_false, false_or, or_true, true_or, and_self, and_true, true_and])) ?_)
  refine (ev_iconst (M := ML_drafts) (v := (nI 1)) rfl dL_drafts_119 (pc' := 120) rfl).mpr ?_
  refine (ev_goto (M := ML_drafts) (pc' := 124) dL_drafts_120 (by decide)).mpr ?_
  refine (ev_zretI (M := ML_drafts) rfl dL_drafts_124 (by omega)).mpr ?_
  exact hQ
/-- a copy -/
theorem Z_dr5 (k8 : tK T X = 8) (hl : l ≤ 240) (hx : x < 2147483648) (hy : y < 2147483648) (c1 : Call (d + 4) 85 [.ref X] T (.inl (some (.int (nI l)))) T) (c2 : Call (d + 4) 132 [.ref G, .int (nI (x % 6)), .int (nI (y % 64))] T (.inl (some (.int (-1)))) T) (hQ : Q (.inl (some (.int (nI 1)))) T) : Ev (d + 4) ML_drafts [] 0 [(0, .ref X), (1, .int (nI 1)), (2, .int (nI x)), (3, .int (nI y)), (4, .ref G)] [] T Q := by
  refine eN_aload_n (M := ML_drafts) (k := 0) rfl dL_drafts_0 (pc' := 1) rfl rfl ?_
  refine (ev_cV0 (M := ML_drafts) (kk := 8) dL_drafts_1 c_9_129 mX6_draftLength rfl rfl (by decide) rfl (pc' := 4) rfl).mpr ⟨(by assumption), (Nat.le_of_ble_eq_true rfl), eN_c c1 (by first | rfl | (simp (disch := omega) only [nI_add, i_sub]) | (simp only [*])) ?_⟩
  refine (ev_istore (M := ML_drafts) dL_drafts_4 (by decide) (pc' := 6) rfl).mpr ?_
  refine eN_iload_n (M := ML_drafts) (k := 1) rfl dL_drafts_6 (pc' := 7) rfl rfl ?_
  refine (ev_if_ne (M := ML_drafts) (t := 125) dL_drafts_7 (by decide) (pc' := 10) rfl).mpr (ifT (by first | assumption | omega | rfl | exact fun q => q (by assumption) | exact fun q => q rfl | (simp (disch := omega) only [nle_t, nle_f, nlt_t, nlt_f, neq_t, neq_f, i_lt0, i_le0, i_0le, i_0lt, i_eq0, i_lt, i_le, i_eq, nI_add, i_sub, i_cl, i_m1a, i_m1b, i_m1c, i_m1d, i_m1e, i_am1, i_ite0, m1_le, m1_m1, m1_ge0, not_true_eq_false, not_false_eq_true, or_self, or_false, false_or, or_true, true_or, and_self, and_true, true_and])) ?_)
  refine eN_iload_n (M := ML_drafts) (k := 1) rfl dL_drafts_125 (pc' := 126) rfl rfl ?_
  refine (ev_iconst (M := ML_drafts) (v := (nI 1)) rfl dL_drafts_126 (pc' := 127) rfl).mpr ?_
  refine (ev_icmp_ne (M := ML_drafts) (t := 285) dL_drafts_127 (by decide) (pc' := 130) rfl).mpr (ifF (by first | assumption | omega | rfl | exact fun q => q (by assumption) | exact fun q => q rfl | (simp (disch := omega) only [nle_t, nle_f, nlt_t, nlt_f, neq_t, neq_f, i_lt0, i_le0, i_0le, i_0lt, i_eq0, i_lt, i_le, i_eq, nI_add, i_sub, i_cl, i_m1a, i_m1b, i_m1c, i_m1d, i_m1e, i_am1, i_ite0, m1_le, m1_m1, m1_ge0, not_true_eq_false, not_false_eq_true, or_self, or_false, false_or, or_true, true_or, and_self, and_true, true_and])) ?_)
  refine eN_iload_n (M := ML_drafts) (k := 2) rfl dL_drafts_130 (pc' := 131) rfl rfl ?_
  refine (ev_bipush (M := ML_drafts) (v := (nI 6)) rfl dL_drafts_131 (pc' := 133) rfl).mpr ?_
  refine eN_irem (M := ML_drafts) dL_drafts_133 (pc' := 134) rfl (by omega) ?_
  refine (ev_istore (M := ML_drafts) dL_drafts_134 (by decide) (pc' := 136) rfl).mpr ?_
  refine eN_aload (M := ML_drafts) dL_drafts_136 (pc' := 138) rfl rfl ?_
  refine eN_iload (M := ML_drafts) dL_drafts_138 (pc' := 140) rfl rfl ?_
  refine eN_iload_n (M := ML_drafts) (k := 3) rfl dL_drafts_140 (pc' := 141) rfl rfl ?_
  refine (ev_bipush (M := ML_drafts) (v := (nI 64)) rfl dL_drafts_141 (pc' := 143) rfl).mpr ?_
  refine eN_irem (M := ML_drafts) dL_drafts_143 (pc' := 144) rfl (by omega) ?_
  refine (ev_cS3 (M := ML_drafts) dL_drafts_144 c_9_62 (by decide) mL_kept rfl rfl (pc' := 147) rfl).mpr ⟨(Nat.le_of_ble_eq_true rfl), eN_c c2 (by first | rfl | (simp (disch := omega) only [nI_add, i_sub]) | (simp only [*])) ?_⟩
  refine (ev_istore (M := ML_drafts) dL_drafts_147 (by decide) (pc' := 149) rfl).mpr ?_
  refine eN_iload (M := ML_drafts) dL_drafts_149 (pc' := 151) rfl rfl ?_
  refine (ev_if_ge (M := ML_drafts) (t := 158) dL_drafts_151 (by decide) (pc' := 154) rfl).mpr (ifF (by first | assumption | omega | rfl | exact fun q => q (by assumption) | exact fun q => q rfl | (simp (disch := omega) only [nle_t, nle_f, nlt_t, nlt_f, neq_t, neq_f, i_lt0, i_le0, i_0le, i_0lt, i_eq0, i_lt, i_le, i_eq, nI_add, i_sub, i_cl, i_m1a, i_m1b, i_m1c, i_m1d, i_m1e, i_am1, i_ite0, m1_le, m1_m1, m1_ge0, not_true_eq_false, not_false_eq_true, or_self, or_false, false_or, or_true, true_or, and_self, and_true, true_and])) ?_)
  refine (ev_iconst (M := ML_drafts) (v := (nI 0)) rfl dL_drafts_154 (pc' := 155) rfl).mpr ?_
  refine (ev_goto (M := ML_drafts) (pc' := 166) dL_drafts_155 (by decide)).mpr ?_
  refine (ev_istore (M := ML_drafts) dL_drafts_166 (by decide) (pc' := 168) rfl).mpr ?_
  refine eN_iload (M := ML_drafts) dL_drafts_168 (pc' := 170) rfl rfl ?_
  refine (ev_if_ne (M := ML_drafts) (t := 177) dL_drafts_170 (by decide) (pc' := 173) rfl).mpr (ifF (by first | assumption | omega | rfl | exact fun q => q (by assumption) | exact fun q => q rfl | (simp (disch := omega) only [nle_t, nle_f, nlt_t, nlt_f, neq_t, neq_f, i_lt0, i_le0, i_0le, i_0lt, i_eq0, i_lt, i_le, i_eq, nI_add, i_sub, i_cl, i_m1a, i_m1b, i_m1c, i_m1d, i_m1e, i_am1, i_ite0, m1_le, m1_m1, m1_ge0, not_true_eq_false, not_false_eq_true, or_self, or_false, false_or, or_true, true_or, and_self, and_true, true_and])) ?_)
  refine (ev_iconst (M := ML_drafts) (v := (nI 0)) rfl dL_drafts_173 (pc' := 174) rfl).mpr ?_
  refine (ev_goto (M := ML_drafts) (pc' := 184) dL_drafts_174 (by decide)).mpr ?_
  refine (ev_istore (M := ML_drafts) dL_drafts_184 (by decide) (pc' := 186) rfl).mpr ?_
  refine eN_iload (M := ML_drafts) dL_drafts_186 (pc' := 188) rfl rfl ?_
  refine (ev_if_ne (M := ML_drafts) (t := 195) dL_drafts_188 (by decide) (pc' := 191) rfl).mpr (ifF (by first | assumption | omega | rfl | exact fun q => q (by assumption) | exact fun q => q rfl | (simp (disch := omega) only [nle_t, nle_f, nlt_t, nlt_f, neq_t, neq_f, i_lt0, i_le0, i_0le, i_0lt, i_eq0, i_lt, i_le, i_eq, nI_add, i_sub, i_cl, i_m1a, i_m1b, i_m1c, i_m1d, i_m1e, i_am1, i_ite0, m1_le, m1_m1, m1_ge0, not_true_eq_false, not_false_eq_true, or_self, or_false, false_or, or_true, true_or, and_self, and_true, true_and])) ?_)
  refine (ev_iconst (M := ML_drafts) (v := (nI 0)) rfl dL_drafts_191 (pc' := 192) rfl).mpr ?_
  refine (ev_goto (M := ML_drafts) (pc' := 207) dL_drafts_192 (by decide)).mpr ?_
  refine (ev_istore (M := ML_drafts) dL_drafts_207 (by decide) (pc' := 209) rfl).mpr ?_
  refine eN_iload (M := ML_drafts) dL_drafts_209 (pc' := 211) rfl rfl ?_
  refine (ev_if_lt (M := ML_drafts) (t := 279) dL_drafts_211 (by decide) (pc' := 214) rfl).mpr (ifT (by first | assumption | omega | rfl | exact fun q => q (by assumption) | exact fun q => q rfl | (simp (disch := omega) only [nle_t, nle_f, nlt_t, nlt_f, neq_t, neq_f, i_lt0, i_le0, i_0le, i_0lt, i_eq0, i_lt, i_le, i_eq, nI_add, i_sub, i_cl, i_m1a, i_m1b, i_m1c, i_m1d, i_m1e, i_am1, i_ite0, m1_le, m1_m1, m1_ge0, not_true_eq_false, not_false_eq_true, or_self, or_false, false_or, or_true, true_or, and_self, and_true, true_and])) ?_)
  refine (ev_iconst (M := ML_drafts) (v := (nI 1)) rfl dL_drafts_279 (pc' := 280) rfl).mpr ?_
  refine (ev_goto (M := ML_drafts) (pc' := 284) dL_drafts_280 (by decide)).mpr ?_
  refine (ev_zretI (M := ML_drafts) rfl dL_drafts_284 (by omega)).mpr ?_
  exact hQ
theorem Z_dr6 (k8 : tK T X = 8) (hl : l ≤ 240) (hx : x < 2147483648) (hy : y < 2147483648) (hv : v < 64) (hn : n ≤ 240) (ha : a = if n = 0 then 0 else x / 6 % n) (hb : b = if n = 0 then 0 else y / 64 % (n - a + 1)) (c1 : Call (d + 4) 85 [.ref X] T (.inl (some (.int (nI l)))) T) (c2 : Call (d + 4) 132 [.ref G, .int (nI (x % 6)), .int (nI (y % 64))] T (.inl (some (.int (nI v)))) T) (c3 : Call (d + 4) 94 [.ref X, .int (nI (x % 6)), .int (nI v)] T (.inl (some (.int (nI n)))) T) (hq : Ev (d + 4) ML_drafts [] 209 [(10, .int (nI b)), (9, .int (nI a)), (8, .int (nI n)), (7, .int (nI v)), (6, .int (nI (x % 6))), (5, .int (nI l)), (0, .ref X)] [] T Q) : Ev (d + 4) ML_drafts [] 0 [(0, .ref X), (1, .int (nI 1)), (2, .int (nI x)), (3, .int (nI y)), (4, .ref G)] [] T Q := by
  by_cases h : n = 0
  · rw [if_pos h] at ha hb
    subst ha
    subst hb
    refine eN_aload_n (M := ML_drafts) (k := 0) rfl dL_drafts_0 (pc' := 1) rfl rfl ?_
    refine (ev_cV0 (M := ML_drafts) (kk := 8) dL_drafts_1 c_9_129 mX6_draftLength rfl rfl (by decide) rfl (pc' := 4) rfl).mpr ⟨(by assumption), (Nat.le_of_ble_eq_true rfl), eN_c c1 (by first | rfl | (simp (disch := omega) only [nI_add, i_sub]) | (simp only [*])) ?_⟩
    refine (ev_istore (M := ML_drafts) dL_drafts_4 (by decide) (pc' := 6) rfl).mpr ?_
    refine eN_iload_n (M := ML_drafts) (k := 1) rfl dL_drafts_6 (pc' := 7) rfl rfl ?_
    refine (ev_if_ne (M := ML_drafts) (t := 125) dL_drafts_7 (by decide) (pc' := 10) rfl).mpr (ifT (by first | assumption | omega | rfl | exact fun q => q (by assumption) | exact fun q => q rfl | (simp (disch := omega) only [nle_t, nle_f, nlt_t, nlt_f, neq_t, neq_f, i_lt0, i_le0, i_0le, i_0lt, i_eq0, i_lt, i_le, i_eq, nI_add, i_sub, i_cl, i_m1a, i_m1b, i_m1c, i_m1d, i_m1e, i_am1, i_ite0, m1_le, m1_m1, m1_ge0, not_true_eq_false, not_false_eq_true, or_self, or_false, false_or, or_true, true_or, and_self, and_true, true_and])) ?_)
    refine eN_iload_n (M := ML_drafts) (k := 1) rfl dL_drafts_125 (pc' := 126) rfl rfl ?_
    refine (ev_iconst (M := ML_drafts) (v := (nI 1)) rfl dL_drafts_126 (pc' := 127) rfl).mpr ?_
    refine (ev_icmp_ne (M := ML_drafts) (t := 285) dL_drafts_127 (by decide) (pc' := 130) rfl).mpr (ifF (by first | assumption | omega | rfl | exact fun q => q (by assumption) | exact fun q => q rfl | (simp (disch := omega) only [nle_t, nle_f, nlt_t, nlt_f, neq_t, neq_f, i_lt0, i_le0, i_0le, i_0lt, i_eq0, i_lt, i_le, i_eq, nI_add, i_sub, i_cl, i_m1a, i_m1b, i_m1c, i_m1d, i_m1e, i_am1, i_ite0, m1_le, m1_m1, m1_ge0, not_true_eq_false, not_false_eq_true, or_self, or_false, false_or, or_true, true_or, and_self, and_true, true_and])) ?_)
    refine eN_iload_n (M := ML_drafts) (k := 2) rfl dL_drafts_130 (pc' := 131) rfl rfl ?_
    refine (ev_bipush (M := ML_drafts) (v := (nI 6)) rfl dL_drafts_131 (pc' := 133) rfl).mpr ?_
    refine eN_irem (M := ML_drafts) dL_drafts_133 (pc' := 134) rfl (by omega) ?_
    refine (ev_istore (M := ML_drafts) dL_drafts_134 (by decide) (pc' := 136) rfl).mpr ?_
    refine eN_aload (M := ML_drafts) dL_drafts_136 (pc' := 138) rfl rfl ?_
    refine eN_iload (M := ML_drafts) dL_drafts_138 (pc' := 140) rfl rfl ?_
    refine eN_iload_n (M := ML_drafts) (k := 3) rfl dL_drafts_140 (pc' := 141) rfl rfl ?_
    refine (ev_bipush (M := ML_drafts) (v := (nI 64)) rfl dL_drafts_141 (pc' := 143) rfl).mpr ?_
    refine eN_irem (M := ML_drafts) dL_drafts_143 (pc' := 144) rfl (by omega) ?_
    refine (ev_cS3 (M := ML_drafts) dL_drafts_144 c_9_62 (by decide) mL_kept rfl rfl (pc' := 147) rfl).mpr ⟨(Nat.le_of_ble_eq_true rfl), eN_c c2 (by first | rfl | (simp (disch := omega) only [nI_add, i_sub]) | (simp only [*])) ?_⟩
    refine (ev_istore (M := ML_drafts) dL_drafts_147 (by decide) (pc' := 149) rfl).mpr ?_
    refine eN_iload (M := ML_drafts) dL_drafts_149 (pc' := 151) rfl rfl ?_
    refine (ev_if_ge (M := ML_drafts) (t := 158) dL_drafts_151 (by decide) (pc' := 154) rfl).mpr (ifT (by first | assumption | omega | rfl | exact fun q => q (by assumption) | exact fun q => q rfl | (simp (disch := omega) only [nle_t, nle_f, nlt_t, nlt_f, neq_t, neq_f, i_lt0, i_le0, i_0le, i_0lt, i_eq0, i_lt, i_le, i_eq, nI_add, i_sub, i_cl, i_m1a, i_m1b, i_m1c, i_m1d, i_m1e, i_am1, i_ite0, m1_le, m1_m1, m1_ge0, not_true_eq_false, not_false_eq_true, or_self, or_false, false_or, or_true, true_or, and_self, and_true, true_and])) ?_)
    refine eN_aload_n (M := ML_drafts) (k := 0) rfl dL_drafts_158 (pc' := 159) rfl rfl ?_
    refine eN_iload (M := ML_drafts) dL_drafts_159 (pc' := 161) rfl rfl ?_
    refine eN_iload (M := ML_drafts) dL_drafts_161 (pc' := 163) rfl rfl ?_
    refine (ev_cV2 (M := ML_drafts) (kk := 8) dL_drafts_163 c_9_16 mX6_length rfl rfl (by decide) rfl (pc' := 166) rfl).mpr ⟨(by assumption), (Nat.le_of_ble_eq_true rfl), eN_c c3 (by first | rfl | (simp (disch := omega) only [nI_add, i_sub]) | (simp only [*])) ?_⟩
    refine (ev_istore (M := ML_drafts) dL_drafts_166 (by decide) (pc' := 168) rfl).mpr ?_
    refine eN_iload (M := ML_drafts) dL_drafts_168 (pc' := 170) rfl rfl ?_
    refine (ev_if_ne (M := ML_drafts) (t := 177) dL_drafts_170 (by decide) (pc' := 173) rfl).mpr (ifF (by first | assumption | omega | rfl | exact fun q => q (by assumption) | exact fun q => q rfl | (simp (disch := omega) only [nle_t, nle_f, nlt_t, nlt_f, neq_t, neq_f, i_lt0, i_le0, i_0le, i_0lt, i_eq0, i_lt, i_le, i_eq, nI_add, i_sub, i_cl, i_m1a, i_m1b, i_m1c, i_m1d, i_m1e, i_am1, i_ite0, m1_le, m1_m1, m1_ge0, not_true_eq_false, not_false_eq_true, or_self, or_false, false_or, or_true, true_or, and_self, and_true, true_and])) ?_)
    refine (ev_iconst (M := ML_drafts) (v := (nI 0)) rfl dL_drafts_173 (pc' := 174) rfl).mpr ?_
    refine (ev_goto (M := ML_drafts) (pc' := 184) dL_drafts_174 (by decide)).mpr ?_
    refine (ev_istore (M := ML_drafts) dL_drafts_184 (by decide) (pc' := 186) rfl).mpr ?_
    refine eN_iload (M := ML_drafts) dL_drafts_186 (pc' := 188) rfl rfl ?_
    refine (ev_if_ne (M := ML_drafts) (t := 195) dL_drafts_188 (by decide) (pc' := 191) rfl).mpr (ifF (by first | assumption | omega | rfl | exact fun q => q (by assumption) | exact fun q => q rfl | (simp (disch := omega) only [nle_t, nle_f, nlt_t, nlt_f, neq_t, neq_f, i_lt0, i_le0, i_0le, i_0lt, i_eq0, i_lt, i_le, i_eq, nI_add, i_sub, i_cl, i_m1a, i_m1b, i_m1c, i_m1d, i_m1e, i_am1, i_ite0, m1_le, m1_m1, m1_ge0, not_true_eq_false, not_false_eq_true, or_self, or_false, false_or, or_true, true_or, and_self, and_true, true_and])) ?_)
    refine (ev_iconst (M := ML_drafts) (v := (nI 0)) rfl dL_drafts_191 (pc' := 192) rfl).mpr ?_
    refine (ev_goto (M := ML_drafts) (pc' := 207) dL_drafts_192 (by decide)).mpr ?_
    refine (ev_istore (M := ML_drafts) dL_drafts_207 (by decide) (pc' := 209) rfl).mpr ?_
    exact ev_more (by repeat (first | exact trivial | refine ⟨rfl, ?_⟩)) (by exact rfl) (by exact rfl) hq
  · rw [if_neg h] at ha hb
    have h9 : x / 6 % n < n := Nat.mod_lt _ (by omega)
    subst ha
    subst hb
    refine eN_aload_n (M := ML_drafts) (k := 0) rfl dL_drafts_0 (pc' := 1) rfl rfl ?_
    refine (ev_cV0 (M := ML_drafts) (kk := 8) dL_drafts_1 c_9_129 mX6_draftLength rfl rfl (by decide) rfl (pc' := 4) rfl).mpr ⟨(by assumption), (Nat.le_of_ble_eq_true rfl), eN_c c1 (by first | rfl | (simp (disch := omega) only [nI_add, i_sub]) | (simp only [*])) ?_⟩
    refine (ev_istore (M := ML_drafts) dL_drafts_4 (by decide) (pc' := 6) rfl).mpr ?_
    refine eN_iload_n (M := ML_drafts) (k := 1) rfl dL_drafts_6 (pc' := 7) rfl rfl ?_
    refine (ev_if_ne (M := ML_drafts) (t := 125) dL_drafts_7 (by decide) (pc' := 10) rfl).mpr (ifT (by first | assumption | omega | rfl | exact fun q => q (by assumption) | exact fun q => q rfl | (simp (disch := omega) only [nle_t, nle_f, nlt_t, nlt_f, neq_t, neq_f, i_lt0, i_le0, i_0le, i_0lt, i_eq0, i_lt, i_le, i_eq, nI_add, i_sub, i_cl, i_m1a, i_m1b, i_m1c, i_m1d, i_m1e, i_am1, i_ite0, m1_le, m1_m1, m1_ge0, not_true_eq_false, not_false_eq_true, or_self, or_false, false_or, or_true, true_or, and_self, and_true, true_and])) ?_)
    refine eN_iload_n (M := ML_drafts) (k := 1) rfl dL_drafts_125 (pc' := 126) rfl rfl ?_
    refine (ev_iconst (M := ML_drafts) (v := (nI 1)) rfl dL_drafts_126 (pc' := 127) rfl).mpr ?_
    refine (ev_icmp_ne (M := ML_drafts) (t := 285) dL_drafts_127 (by decide) (pc' := 130) rfl).mpr (ifF (by first | assumption | omega | rfl | exact fun q => q (by assumption) | exact fun q => q rfl | (simp (disch := omega) only [nle_t, nle_f, nlt_t, nlt_f, neq_t, neq_f, i_lt0, i_le0, i_0le, i_0lt, i_eq0, i_lt, i_le, i_eq, nI_add, i_sub, i_cl, i_m1a, i_m1b, i_m1c, i_m1d, i_m1e, i_am1, i_ite0, m1_le, m1_m1, m1_ge0, not_true_eq_false, not_false_eq_true, or_self, or_false, false_or, or_true, true_or, and_self, and_true, true_and])) ?_)
    refine eN_iload_n (M := ML_drafts) (k := 2) rfl dL_drafts_130 (pc' := 131) rfl rfl ?_
    refine (ev_bipush (M := ML_drafts) (v := (nI 6)) rfl dL_drafts_131 (pc' := 133) rfl).mpr ?_
    refine eN_irem (M := ML_drafts) dL_drafts_133 (pc' := 134) rfl (by omega) ?_
    refine (ev_istore (M := ML_drafts) dL_drafts_134 (by decide) (pc' := 136) rfl).mpr ?_
    refine eN_aload (M := ML_drafts) dL_drafts_136 (pc' := 138) rfl rfl ?_
    refine eN_iload (M := ML_drafts) dL_drafts_138 (pc' := 140) rfl rfl ?_
    refine eN_iload_n (M := ML_drafts) (k := 3) rfl dL_drafts_140 (pc' := 141) rfl rfl ?_
    refine (ev_bipush (M := ML_drafts) (v := (nI 64)) rfl dL_drafts_141 (pc' := 143) rfl).mpr ?_
    refine eN_irem (M := ML_drafts) dL_drafts_143 (pc' := 144) rfl (by omega) ?_
    refine (ev_cS3 (M := ML_drafts) dL_drafts_144 c_9_62 (by decide) mL_kept rfl rfl (pc' := 147) rfl).mpr ⟨(Nat.le_of_ble_eq_true rfl), eN_c c2 (by first | rfl | (simp (disch := omega) only [nI_add, i_sub]) | (simp only [*])) ?_⟩
    refine (ev_istore (M := ML_drafts) dL_drafts_147 (by decide) (pc' := 149) rfl).mpr ?_
    refine eN_iload (M := ML_drafts) dL_drafts_149 (pc' := 151) rfl rfl ?_
    refine (ev_if_ge (M := ML_drafts) (t := 158) dL_drafts_151 (by decide) (pc' := 154) rfl).mpr (ifT (by first | assumption | omega | rfl | exact fun q => q (by assumption) | exact fun q => q rfl | (simp (disch := omega) only [nle_t, nle_f, nlt_t, nlt_f, neq_t, neq_f, i_lt0, i_le0, i_0le, i_0lt, i_eq0, i_lt, i_le, i_eq, nI_add, i_sub, i_cl, i_m1a, i_m1b, i_m1c, i_m1d, i_m1e, i_am1, i_ite0, m1_le, m1_m1, m1_ge0, not_true_eq_false, not_false_eq_true, or_self, or_false, false_or, or_true, true_or, and_self, and_true, true_and])) ?_)
    refine eN_aload_n (M := ML_drafts) (k := 0) rfl dL_drafts_158 (pc' := 159) rfl rfl ?_
    refine eN_iload (M := ML_drafts) dL_drafts_159 (pc' := 161) rfl rfl ?_
    refine eN_iload (M := ML_drafts) dL_drafts_161 (pc' := 163) rfl rfl ?_
    refine (ev_cV2 (M := ML_drafts) (kk := 8) dL_drafts_163 c_9_16 mX6_length rfl rfl (by decide) rfl (pc' := 166) rfl).mpr ⟨(by assumption), (Nat.le_of_ble_eq_true rfl), eN_c c3 (by first | rfl | (simp (disch := omega) only [nI_add, i_sub]) | (simp only [*])) ?_⟩
    refine (ev_istore (M := ML_drafts) dL_drafts_166 (by decide) (pc' := 168) rfl).mpr ?_
    refine eN_iload (M := ML_drafts) dL_drafts_168 (pc' := 170) rfl rfl ?_
    refine (ev_if_ne (M := ML_drafts) (t := 177) dL_drafts_170 (by decide) (pc' := 173) rfl).mpr (ifT (by first | assumption | omega | rfl | exact fun q => q (by assumption) | exact fun q => q rfl | (simp (disch := omega) only [nle_t, nle_f, nlt_t, nlt_f, neq_t, neq_f, i_lt0, i_le0, i_0le, i_0lt, i_eq0, i_lt, i_le, i_eq, nI_add, i_sub, i_cl, i_m1a, i_m1b, i_m1c, i_m1d, i_m1e, i_am1, i_ite0, m1_le, m1_m1, m1_ge0, not_true_eq_false, not_false_eq_true, or_self, or_false, false_or, or_true, true_or, and_self, and_true, true_and])) ?_)
    refine eN_iload_n (M := ML_drafts) (k := 2) rfl dL_drafts_177 (pc' := 178) rfl rfl ?_
    refine (ev_bipush (M := ML_drafts) (v := (nI 6)) rfl dL_drafts_178 (pc' := 180) rfl).mpr ?_
    refine eN_idiv (M := ML_drafts) dL_drafts_180 (pc' := 181) rfl (by omega) ?_
    refine eN_iload (M := ML_drafts) dL_drafts_181 (pc' := 183) rfl rfl ?_
    refine eN_irem (M := ML_drafts) dL_drafts_183 (pc' := 184) rfl (by omega) ?_
    refine (ev_istore (M := ML_drafts) dL_drafts_184 (by decide) (pc' := 186) rfl).mpr ?_
    refine eN_iload (M := ML_drafts) dL_drafts_186 (pc' := 188) rfl rfl ?_
    refine (ev_if_ne (M := ML_drafts) (t := 195) dL_drafts_188 (by decide) (pc' := 191) rfl).mpr (ifT (by first | assumption | omega | rfl | exact fun q => q (by assumption) | exact fun q => q rfl | (simp (disch := omega) only [nle_t, nle_f, nlt_t, nlt_f, neq_t, neq_f, i_lt0, i_le0, i_0le, i_0lt, i_eq0, i_lt, i_le, i_eq, nI_add, i_sub, i_cl, i_m1a, i_m1b, i_m1c, i_m1d, i_m1e, i_am1, i_ite0, m1_le, m1_m1, m1_ge0, not_true_eq_false, not_false_eq_true, or_self, or_false, false_or, or_true, true_or, and_self, and_true, true_and])) ?_)
    refine eN_iload_n (M := ML_drafts) (k := 3) rfl dL_drafts_195 (pc' := 196) rfl rfl ?_
    refine (ev_bipush (M := ML_drafts) (v := (nI 64)) rfl dL_drafts_196 (pc' := 198) rfl).mpr ?_
    refine eN_idiv (M := ML_drafts) dL_drafts_198 (pc' := 199) rfl (by omega) ?_
    refine eN_iload (M := ML_drafts) dL_drafts_199 (pc' := 201) rfl rfl ?_
    refine eN_iload (M := ML_drafts) dL_drafts_201 (pc' := 203) rfl rfl ?_
    refine eN_isub (M := ML_drafts) dL_drafts_203 (pc' := 204) rfl (by omega) ?_
    refine (ev_iconst (M := ML_drafts) (v := (nI 1)) rfl dL_drafts_204 (pc' := 205) rfl).mpr ?_
    refine eN_iadd (M := ML_drafts) dL_drafts_205 (pc' := 206) rfl ?_
    refine eN_irem (M := ML_drafts) dL_drafts_206 (pc' := 207) rfl (by omega) ?_
    refine (ev_istore (M := ML_drafts) dL_drafts_207 (by decide) (pc' := 209) rfl).mpr ?_
    exact ev_more (by repeat (first | exact trivial | refine ⟨rfl, ?_⟩)) (by exact rfl) (by exact rfl) hq
theorem Z_dr7 (hl : l ≤ 240) (hv : v < 64) (hb : b ≤ 240) (h : 240 < l + b) (hQ : Q (.inl (some (.int (nI 1)))) T) : Ev (d + 4) ML_drafts [] 209 [(10, .int (nI b)), (9, .int (nI a)), (8, .int (nI n)), (7, .int (nI v)), (6, .int (nI p)), (5, .int (nI l)), (0, .ref X)] [] T Q := by
  refine eN_iload (M := ML_drafts) dL_drafts_209 (pc' := 211) rfl rfl ?_
  refine (ev_if_lt (M := ML_drafts) (t := 279) dL_drafts_211 (by decide) (pc' := 214) rfl).mpr (ifF (by first | assumption | omega | rfl | exact fun q => q (by assumption) | exact fun q => q rfl | (simp (disch := omega) only [nle_t, nle_f, nlt_t, nlt_f, neq_t, neq_f, i_lt0, i_le0, i_0le, i_0lt, i_eq0, i_lt, i_le, i_eq, nI_add, i_sub, i_cl, i_m1a, i_m1b, i_m1c, i_m1d, i_m1e, i_am1, i_ite0, m1_le, m1_m1, m1_ge0, not_true_eq_false, not_false_eq_true, or_self, or_false, false_or, or_true, true_or, and_self, and_true, true_and])) ?_)
  refine eN_iload (M := ML_drafts) dL_drafts_214 (pc' := 216) rfl rfl ?_
  refine eN_iload (M := ML_drafts) dL_drafts_216 (pc' := 218) rfl rfl ?_
  refine eN_iadd (M := ML_drafts) dL_drafts_218 (pc' := 219) rfl ?_
  refine (ev_sipush (M := ML_drafts) (v := (nI 240)) rfl dL_drafts_219 (pc' := 222) rfl).mpr ?_
  refine (ev_icmp_gt (M := ML_drafts) (t := 279) dL_drafts_222 (by decide) (pc' := 225) rfl).mpr (ifT (by first | assumption | omega | rfl | exact fun q => q (by assumption) | exact fun q => q rfl | (simp (disch := omega) only [nle_t, nle_f, nlt_t, nlt_f, neq_t, neq_f, i_lt0, i_le0, i_0le, i_0lt, i_eq0, i_lt, i_le, i_eq, nI_add, i_sub, i_cl, i_m1a, i_m1b, i_m1c, i_m1d, i_m1e, i_am1, i_ite0, m1_le, m1_m1, m1_ge0, not_true_eq_false, not_false_eq_true, or_self, or_false, false_or, or_true, true_or, and_self, and_true, true_and])) ?_)
  refine (ev_iconst (M := ML_drafts) (v := (nI 1)) rfl dL_drafts_279 (pc' := 280) rfl).mpr ?_
  refine (ev_goto (M := ML_drafts) (pc' := 284) dL_drafts_280 (by decide)).mpr ?_
  refine (ev_zretI (M := ML_drafts) rfl dL_drafts_284 (by omega)).mpr ?_
  exact hQ
theorem Z_dr8 (k8 : tK T X = 8) (k8' : tK T' X = 8) (hv : v < 64) (h : l + b ≤ 240) (h0 : b = 0) (c1 : Call (d + 4) 81 [.ref X, .int (nI p), .int (nI v), .int (nI a), .int (nI b)] T (.inl (some (.int (nI (l + b))))) T') (hQ : Q (.inl (some (.int (nI 1)))) T') : Ev (d + 4) ML_drafts [] 209 [(10, .int (nI b)), (9, .int (nI a)), (8, .int (nI n)), (7, .int (nI v)), (6, .int (nI p)), (5, .int (nI l)), (0, .ref X)] [] T Q := by
  refine eN_iload (M := ML_drafts) dL_drafts_209 (pc' := 211) rfl rfl ?_
  refine (ev_if_lt (M := ML_drafts) (t := 279) dL_drafts_211 (by decide) (pc' := 214) rfl).mpr (ifF (by first | assumption | omega | rfl | exact fun q => q (by assumption) | exact fun q => q rfl | (simp (disch := omega) only [nle_t, nle_f, nlt_t, nlt_f, neq_t, neq_f, i_lt0, i_le0, i_0le, i_0lt, i_eq0, i_lt, i_le, i_eq, nI_add, i_sub, i_cl, i_m1a, i_m1b, i_m1c, i_m1d, i_m1e, i_am1, i_ite0, m1_le, m1_m1, m1_ge0, not_true_eq_false, not_false_eq_true, or_self, or_false, false_or, or_true, true_or, and_self, and_true, true_and])) ?_)
  refine eN_iload (M := ML_drafts) dL_drafts_214 (pc' := 216) rfl rfl ?_
  refine eN_iload (M := ML_drafts) dL_drafts_216 (pc' := 218) rfl rfl ?_
  refine eN_iadd (M := ML_drafts) dL_drafts_218 (pc' := 219) rfl ?_
  refine (ev_sipush (M := ML_drafts) (v := (nI 240)) rfl dL_drafts_219 (pc' := 222) rfl).mpr ?_
  refine (ev_icmp_gt (M := ML_drafts) (t := 279) dL_drafts_222 (by decide) (pc' := 225) rfl).mpr (ifF (by first | assumption | omega | rfl | exact fun q => q (by assumption) | exact fun q => q rfl | (simp (disch := omega) only [nle_t, nle_f, nlt_t, nlt_f, neq_t, neq_f, i_lt0, i_le0, i_0le, i_0lt, i_eq0, i_lt, i_le, i_eq, nI_add, i_sub, i_cl, i_m1a, i_m1b, i_m1c, i_m1d, i_m1e, i_am1, i_ite0, m1_le, m1_m1, m1_ge0, not_true_eq_false, not_false_eq_true, or_self, or_false, false_or, or_true, true_or, and_self, and_true, true_and])) ?_)
  refine eN_aload_n (M := ML_drafts) (k := 0) rfl dL_drafts_225 (pc' := 226) rfl rfl ?_
  refine eN_iload (M := ML_drafts) dL_drafts_226 (pc' := 228) rfl rfl ?_
  refine eN_iload (M := ML_drafts) dL_drafts_228 (pc' := 230) rfl rfl ?_
  refine eN_iload (M := ML_drafts) dL_drafts_230 (pc' := 232) rfl rfl ?_
  refine eN_iload (M := ML_drafts) dL_drafts_232 (pc' := 234) rfl rfl ?_
  refine (ev_cV4 (M := ML_drafts) (kk := 8) dL_drafts_234 c_9_150 mX6_appendCopy rfl rfl (by decide) rfl (pc' := 237) rfl).mpr ⟨(by assumption), (Nat.le_of_ble_eq_true rfl), eN_c c1 (by first | rfl | (simp (disch := omega) only [nI_add, i_sub]) | (simp only [*])) ?_⟩
  refine eN_iload (M := ML_drafts) dL_drafts_237 (pc' := 239) rfl rfl ?_
  refine eN_iload (M := ML_drafts) dL_drafts_239 (pc' := 241) rfl rfl ?_
  refine eN_iadd (M := ML_drafts) dL_drafts_241 (pc' := 242) rfl ?_
  refine (ev_icmp_ne (M := ML_drafts) (t := 283) dL_drafts_242 (by decide) (pc' := 245) rfl).mpr (ifF (by first | assumption | omega | rfl | exact fun q => q (by assumption) | exact fun q => q rfl | (simp (disch := omega) only [nle_t, nle_f, nlt_t, nlt_f, neq_t, neq_f, i_lt0, i_le0, i_0le, i_0lt, i_eq0, i_lt, i_le, i_eq, nI_add, i_sub, i_cl, i_m1a, i_m1b, i_m1c, i_m1d, i_m1e, i_am1, i_ite0, m1_le, m1_m1, m1_ge0, not_true_eq_false, not_false_eq_true, or_self, or_false, false_or, or_true, true_or, and_self, and_true, true_and])) ?_)
  refine eN_iload (M := ML_drafts) dL_drafts_245 (pc' := 247) rfl rfl ?_
  refine (ev_if_eq (M := ML_drafts) (t := 279) dL_drafts_247 (by decide) (pc' := 250) rfl).mpr (ifT (by first | assumption | omega | rfl | exact fun q => q (by assumption) | exact fun q => q rfl | (simp (disch := omega) only [nle_t, nle_f, nlt_t, nlt_f, neq_t, neq_f, i_lt0, i_le0, i_0le, i_0lt, i_eq0, i_lt, i_le, i_eq, nI_add, i_sub, i_cl, i_m1a, i_m1b, i_m1c, i_m1d, i_m1e, i_am1, i_ite0, m1_le, m1_m1, m1_ge0, not_true_eq_false, not_false_eq_true, or_self, or_false, false_or, or_true, true_or, and_self, and_true, true_and])) ?_)
  refine (ev_iconst (M := ML_drafts) (v := (nI 1)) rfl dL_drafts_279 (pc' := 280) rfl).mpr ?_
  refine (ev_goto (M := ML_drafts) (pc' := 284) dL_drafts_280 (by decide)).mpr ?_
  refine (ev_zretI (M := ML_drafts) rfl dL_drafts_284 (by omega)).mpr ?_
  exact hQ
theorem Z_dr9 (k8 : tK T X = 8) (k8' : tK T' X = 8) (hv : v < 64) (h : l + b ≤ 240) (h0 : 1 ≤ b) (ha : a ≤ 240) (he : e < 256) (c1 : Call (d + 4) 81 [.ref X, .int (nI p), .int (nI v), .int (nI a), .int (nI b)] T (.inl (some (.int (nI (l + b))))) T') (c2 : Call (d + 4) 86 [.ref X, .int (nI (l + b - 1))] T' (.inl (some (.int (nI e)))) T') (c3 : Call (d + 4) 95 [.ref X, .int (nI p), .int (nI v), .int (nI (a + b - 1))] T' (.inl (some (.int (nI e)))) T') (hQ : Q (.inl (some (.int (nI 1)))) T') : Ev (d + 4) ML_drafts [] 209 [(10, .int (nI b)), (9, .int (nI a)), (8, .int (nI n)), (7, .int (nI v)), (6, .int (nI p)), (5, .int (nI l)), (0, .ref X)] [] T Q := by
  refine eN_iload (M := ML_drafts) dL_drafts_209 (pc' := 211) rfl rfl ?_
  refine (ev_if_lt (M := ML_drafts) (t := 279) dL_drafts_211 (by decide) (pc' := 214) rfl).mpr (ifF (by first | assumption | omega | rfl | exact fun q => q (by assumption) | exact fun q => q rfl | (simp (disch := omega) only [nle_t, nle_f, nlt_t, nlt_f, neq_t, neq_f, i_lt0, i_le0, i_0le, i_0lt, i_eq0, i_lt, i_le, i_eq, nI_add, i_sub, i_cl, i_m1a, i_m1b, i_m1c, i_m1d, i_m1e, i_am1, i_ite0, m1_le, m1_m1, m1_ge0, not_true_eq_false, not_false_eq_true, or_self, or_false, false_or, or_true, true_or, and_self, and_true, true_and])) ?_)
  refine eN_iload (M := ML_drafts) dL_drafts_214 (pc' := 216) rfl rfl ?_
  refine eN_iload (M := ML_drafts) dL_drafts_216 (pc' := 218) rfl rfl ?_
  refine eN_iadd (M := ML_drafts) dL_drafts_218 (pc' := 219) rfl ?_
  refine (ev_sipush (M := ML_drafts) (v := (nI 240)) rfl dL_drafts_219 (pc' := 222) rfl).mpr ?_
  refine (ev_icmp_gt (M := ML_drafts) (t := 279) dL_drafts_222 (by decide) (pc' := 225) rfl).mpr (ifF (by first | assumption | omega | rfl | exact fun q => q (by assumption) | exact fun q => q rfl | (simp (disch := omega) only [nle_t, nle_f, nlt_t, nlt_f, neq_t, neq_f, i_lt0, i_le0, i_0le, i_0lt, i_eq0, i_lt, i_le, i_eq, nI_add, i_sub, i_cl, i_m1a, i_m1b, i_m1c, i_m1d, i_m1e, i_am1, i_ite0, m1_le, m1_m1, m1_ge0, not_true_eq_false, not_false_eq_true, or_self, or_false, false_or, or_true, true_or, and_self, and_true, true_and])) ?_)
  refine eN_aload_n (M := ML_drafts) (k := 0) rfl dL_drafts_225 (pc' := 226) rfl rfl ?_
  refine eN_iload (M := ML_drafts) dL_drafts_226 (pc' := 228) rfl rfl ?_
  refine eN_iload (M := ML_drafts) dL_drafts_228 (pc' := 230) rfl rfl ?_
  refine eN_iload (M := ML_drafts) dL_drafts_230 (pc' := 232) rfl rfl ?_
  refine eN_iload (M := ML_drafts) dL_drafts_232 (pc' := 234) rfl rfl ?_
  refine (ev_cV4 (M := ML_drafts) (kk := 8) dL_drafts_234 c_9_150 mX6_appendCopy rfl rfl (by decide) rfl (pc' := 237) rfl).mpr ⟨(by assumption), (Nat.le_of_ble_eq_true rfl), eN_c c1 (by first | rfl | (simp (disch := omega) only [nI_add, i_sub]) | (simp only [*])) ?_⟩
  refine eN_iload (M := ML_drafts) dL_drafts_237 (pc' := 239) rfl rfl ?_
  refine eN_iload (M := ML_drafts) dL_drafts_239 (pc' := 241) rfl rfl ?_
  refine eN_iadd (M := ML_drafts) dL_drafts_241 (pc' := 242) rfl ?_
  refine (ev_icmp_ne (M := ML_drafts) (t := 283) dL_drafts_242 (by decide) (pc' := 245) rfl).mpr (ifF (by first | assumption | omega | rfl | exact fun q => q (by assumption) | exact fun q => q rfl | (simp (disch := omega) only [nle_t, nle_f, nlt_t, nlt_f, neq_t, neq_f, i_lt0, i_le0, i_0le, i_0lt, i_eq0, i_lt, i_le, i_eq, nI_add, i_sub, i_cl, i_m1a, i_m1b, i_m1c, i_m1d, i_m1e, i_am1, i_ite0, m1_le, m1_m1, m1_ge0, not_true_eq_false, not_false_eq_true, or_self, or_false, false_or, or_true, true_or, and_self, and_true, true_and])) ?_)
  refine eN_iload (M := ML_drafts) dL_drafts_245 (pc' := 247) rfl rfl ?_
  refine (ev_if_eq (M := ML_drafts) (t := 279) dL_drafts_247 (by decide) (pc' := 250) rfl).mpr (ifF (by first | assumption | omega | rfl | exact fun q => q (by assumption) | exact fun q => q rfl | (simp (disch := omega) only [nle_t, nle_f, nlt_t, nlt_f, neq_t, neq_f, i_lt0, i_le0, i_0le, i_0lt, i_eq0, i_lt, i_le, i_eq, nI_add, i_sub, i_cl, i_m1a, i_m1b, i_m1c, i_m1d, i_m1e, i_am1, i_ite0, m1_le, m1_m1, m1_ge0, not_true_eq_false, not_false_eq_true, or_self, or_false, false_or, or_true, true_or, and_self, and_true, true_and])) ?_)
  refine eN_aload_n (M := ML_drafts) (k := 0) rfl dL_drafts_250 (pc' := 251) rfl rfl ?_
  refine eN_iload (M := ML_drafts) dL_drafts_251 (pc' := 253) rfl rfl ?_
  refine eN_iload (M := ML_drafts) dL_drafts_253 (pc' := 255) rfl rfl ?_
  refine eN_iadd (M := ML_drafts) dL_drafts_255 (pc' := 256) rfl ?_
  refine (ev_iconst (M := ML_drafts) (v := (nI 1)) rfl dL_drafts_256 (pc' := 257) rfl).mpr ?_
  refine eN_isub (M := ML_drafts) dL_drafts_257 (pc' := 258) rfl (by omega) ?_
  refine (ev_cV1 (M := ML_drafts) (kk := 8) dL_drafts_258 c_9_132 mX6_draftAt rfl rfl (by decide) rfl (pc' := 261) rfl).mpr ⟨(by assumption), (Nat.le_of_ble_eq_true rfl), eN_c c2 (by first | rfl | (simp (disch := omega) only [nI_add, i_sub]) | (simp only [*])) ?_⟩
  refine eN_aload_n (M := ML_drafts) (k := 0) rfl dL_drafts_261 (pc' := 262) rfl rfl ?_
  refine eN_iload (M := ML_drafts) dL_drafts_262 (pc' := 264) rfl rfl ?_
  refine eN_iload (M := ML_drafts) dL_drafts_264 (pc' := 266) rfl rfl ?_
  refine eN_iload (M := ML_drafts) dL_drafts_266 (pc' := 268) rfl rfl ?_
  refine eN_iload (M := ML_drafts) dL_drafts_268 (pc' := 270) rfl rfl ?_
  refine eN_iadd (M := ML_drafts) dL_drafts_270 (pc' := 271) rfl ?_
  refine (ev_iconst (M := ML_drafts) (v := (nI 1)) rfl dL_drafts_271 (pc' := 272) rfl).mpr ?_
  refine eN_isub (M := ML_drafts) dL_drafts_272 (pc' := 273) rfl (by omega) ?_
  refine (ev_cV3 (M := ML_drafts) (kk := 8) dL_drafts_273 c_9_22 mX6_byteAt rfl rfl (by decide) rfl (pc' := 276) rfl).mpr ⟨(by assumption), (Nat.le_of_ble_eq_true rfl), eN_c c3 (by first | rfl | (simp (disch := omega) only [nI_add, i_sub]) | (simp only [*])) ?_⟩
  refine (ev_icmp_ne (M := ML_drafts) (t := 283) dL_drafts_276 (by decide) (pc' := 279) rfl).mpr (ifF (by first | assumption | omega | rfl | exact fun q => q (by assumption) | exact fun q => q rfl | (simp (disch := omega) only [nle_t, nle_f, nlt_t, nlt_f, neq_t, neq_f, i_lt0, i_le0, i_0le, i_0lt, i_eq0, i_lt, i_le, i_eq, nI_add, i_sub, i_cl, i_m1a, i_m1b, i_m1c, i_m1d, i_m1e, i_am1, i_ite0, m1_le, m1_m1, m1_ge0, not_true_eq_false, not_false_eq_true, or_self, or_false, false_or, or_true, true_or, and_self, and_true, true_and])) ?_)
  refine (ev_iconst (M := ML_drafts) (v := (nI 1)) rfl dL_drafts_279 (pc' := 280) rfl).mpr ?_
  refine (ev_goto (M := ML_drafts) (pc' := 284) dL_drafts_280 (by decide)).mpr ?_
  refine (ev_zretI (M := ML_drafts) rfl dL_drafts_284 (by omega)).mpr ?_
  exact hQ
/-- one byte put in -/
theorem Z_dra (k8 : tK T X = 8) (hl : l < 240) (hx : x < 2147483648) (hy : y < 2147483648) (hp : p = x % (l + 1)) (hp2 : p < l) (he : e < 256) (k8' : tK T' X = 8) (c1 : Call (d + 4) 85 [.ref X] T (.inl (some (.int (nI l)))) T) (c2 : Call (d + 4) 86 [.ref X, .int (nI p)] T (.inl (some (.int (nI e)))) T) (c3 : Call (d + 4) 82 [.ref X, .int (nI p), .int (nI (y % 256))] T (.inl (some (.int (nI (l + 1))))) T') (c4 : Call (d + 4) 86 [.ref X, .int (nI p)] T' (.inl (some (.int (nI (y % 256))))) T') (c5 : Call (d + 4) 86 [.ref X, .int (nI (p + 1))] T' (.inl (some (.int (nI e)))) T') (hQ : Q (.inl (some (.int (nI 1)))) T') : Ev (d + 4) ML_drafts [] 0 [(0, .ref X), (1, .int (nI 2)), (2, .int (nI x)), (3, .int (nI y)), (4, .ref G)] [] T Q := by
  subst hp
  refine eN_aload_n (M := ML_drafts) (k := 0) rfl dL_drafts_0 (pc' := 1) rfl rfl ?_
  refine (ev_cV0 (M := ML_drafts) (kk := 8) dL_drafts_1 c_9_129 mX6_draftLength rfl rfl (by decide) rfl (pc' := 4) rfl).mpr ⟨(by assumption), (Nat.le_of_ble_eq_true rfl), eN_c c1 (by first | rfl | (simp (disch := omega) only [nI_add, i_sub]) | (simp only [*])) ?_⟩
  refine (ev_istore (M := ML_drafts) dL_drafts_4 (by decide) (pc' := 6) rfl).mpr ?_
  refine eN_iload_n (M := ML_drafts) (k := 1) rfl dL_drafts_6 (pc' := 7) rfl rfl ?_
  refine (ev_if_ne (M := ML_drafts) (t := 125) dL_drafts_7 (by decide) (pc' := 10) rfl).mpr (ifT (by first | assumption | omega | rfl | exact fun q => q (by assumption) | exact fun q => q rfl | (simp (disch := omega) only [nle_t, nle_f, nlt_t, nlt_f, neq_t, neq_f, i_lt0, i_le0, i_0le, i_0lt, i_eq0, i_lt, i_le, i_eq, nI_add, i_sub, i_cl, i_m1a, i_m1b, i_m1c, i_m1d, i_m1e, i_am1, i_ite0, m1_le, m1_m1, m1_ge0, not_true_eq_false, not_false_eq_true, or_self, or_false, false_or, or_true, true_or, and_self, and_true, true_and])) ?_)
  refine eN_iload_n (M := ML_drafts) (k := 1) rfl dL_drafts_125 (pc' := 126) rfl rfl ?_
  refine (ev_iconst (M := ML_drafts) (v := (nI 1)) rfl dL_drafts_126 (pc' := 127) rfl).mpr ?_
  refine (ev_icmp_ne (M := ML_drafts) (t := 285) dL_drafts_127 (by decide) (pc' := 130) rfl).mpr (ifT (by first | assumption | omega | rfl | exact fun q => q (by assumption) | exact fun q => q rfl | (simp (disch := omega) only [nle_t, nle_f, nlt_t, nlt_f, neq_t, neq_f, i_lt0, i_le0, i_0le, i_0lt, i_eq0, i_lt, i_le, i_eq, nI_add, i_sub, i_cl, i_m1a, i_m1b, i_m1c, i_m1d, i_m1e, i_am1, i_ite0, m1_le, m1_m1, m1_ge0, not_true_eq_false, not_false_eq_true, or_self, or_false, false_or, or_true, true_or, and_self, and_true, true_and])) ?_)
  refine eN_iload_n (M := ML_drafts) (k := 1) rfl dL_drafts_285 (pc' := 286) rfl rfl ?_
  refine (ev_iconst (M := ML_drafts) (v := (nI 2)) rfl dL_drafts_286 (pc' := 287) rfl).mpr ?_
  refine (ev_icmp_ne (M := ML_drafts) (t := 381) dL_drafts_287 (by decide) (pc' := 290) rfl).mpr (ifF (by first | assumption | omega | rfl | exact fun q => q (by assumption) | exact fun q => q rfl | (simp (disch := omega) only [nle_t, nle_f, nlt_t, nlt_f, neq_t, neq_f, i_lt0, i_le0, i_0le, i_0lt, i_eq0, i_lt, i_le, i_eq, nI_add, i_sub, i_cl, i_m1a, i_m1b, i_m1c, i_m1d, i_m1e, i_am1, i_ite0, m1_le, m1_m1, m1_ge0, not_true_eq_false, not_false_eq_true, or_self, or_false, false_or, or_true, true_or, and_self, and_true, true_and])) ?_)
  refine eN_iload_n (M := ML_drafts) (k := 2) rfl dL_drafts_290 (pc' := 291) rfl rfl ?_
  refine eN_iload (M := ML_drafts) dL_drafts_291 (pc' := 293) rfl rfl ?_
  refine (ev_iconst (M := ML_drafts) (v := (nI 1)) rfl dL_drafts_293 (pc' := 294) rfl).mpr ?_
  refine eN_iadd (M := ML_drafts) dL_drafts_294 (pc' := 295) rfl ?_
  refine eN_irem (M := ML_drafts) dL_drafts_295 (pc' := 296) rfl (by omega) ?_
  refine (ev_istore (M := ML_drafts) dL_drafts_296 (by decide) (pc' := 298) rfl).mpr ?_
  refine eN_iload (M := ML_drafts) dL_drafts_298 (pc' := 300) rfl rfl ?_
  refine eN_iload (M := ML_drafts) dL_drafts_300 (pc' := 302) rfl rfl ?_
  refine (ev_icmp_ge (M := ML_drafts) (t := 314) dL_drafts_302 (by decide) (pc' := 305) rfl).mpr (ifF (by first | assumption | omega | rfl | exact fun q => q (by assumption) | exact fun q => q rfl | (simp (disch := omega) only [nle_t, nle_f, nlt_t, nlt_f, neq_t, neq_f, i_lt0, i_le0, i_0le, i_0lt, i_eq0, i_lt, i_le, i_eq, nI_add, i_sub, i_cl, i_m1a, i_m1b, i_m1c, i_m1d, i_m1e, i_am1, i_ite0, m1_le, m1_m1, m1_ge0, not_true_eq_false, not_false_eq_true, or_self, or_false, false_or, or_true, true_or, and_self, and_true, true_and])) ?_)
  refine eN_aload_n (M := ML_drafts) (k := 0) rfl dL_drafts_305 (pc' := 306) rfl rfl ?_
  refine eN_iload (M := ML_drafts) dL_drafts_306 (pc' := 308) rfl rfl ?_
  refine (ev_cV1 (M := ML_drafts) (kk := 8) dL_drafts_308 c_9_132 mX6_draftAt rfl rfl (by decide) rfl (pc' := 311) rfl).mpr ⟨(by assumption), (Nat.le_of_ble_eq_true rfl), eN_c c2 (by first | rfl | (simp (disch := omega) only [nI_add, i_sub]) | (simp only [*])) ?_⟩
  refine (ev_goto (M := ML_drafts) (pc' := 315) dL_drafts_311 (by decide)).mpr ?_
  refine (ev_istore (M := ML_drafts) dL_drafts_315 (by decide) (pc' := 317) rfl).mpr ?_
  refine eN_iload (M := ML_drafts) dL_drafts_317 (pc' := 319) rfl rfl ?_
  refine (ev_sipush (M := ML_drafts) (v := (nI 240)) rfl dL_drafts_319 (pc' := 322) rfl).mpr ?_
  refine (ev_icmp_eq (M := ML_drafts) (t := 375) dL_drafts_322 (by decide) (pc' := 325) rfl).mpr (ifF (by first | assumption | omega | rfl | exact fun q => q (by assumption) | exact fun q => q rfl | (simp (disch := omega) only [nle_t, nle_f, nlt_t, nlt_f, neq_t, neq_f, i_lt0, i_le0, i_0le, i_0lt, i_eq0, i_lt, i_le, i_eq, nI_add, i_sub, i_cl, i_m1a, i_m1b, i_m1c, i_m1d, i_m1e, i_am1, i_ite0, m1_le, m1_m1, m1_ge0, not_true_eq_false, not_false_eq_true, or_self, or_false, false_or, or_true, true_or, and_self, and_true, true_and])) ?_)
  refine eN_aload_n (M := ML_drafts) (k := 0) rfl dL_drafts_325 (pc' := 326) rfl rfl ?_
  refine eN_iload (M := ML_drafts) dL_drafts_326 (pc' := 328) rfl rfl ?_
  refine eN_iload_n (M := ML_drafts) (k := 3) rfl dL_drafts_328 (pc' := 329) rfl rfl ?_
  refine (ev_sipush (M := ML_drafts) (v := (nI 256)) rfl dL_drafts_329 (pc' := 332) rfl).mpr ?_
  refine eN_irem (M := ML_drafts) dL_drafts_332 (pc' := 333) rfl (by omega) ?_
  refine (ev_cV2 (M := ML_drafts) (kk := 8) dL_drafts_333 c_9_154 mX6_insert rfl rfl (by decide) rfl (pc' := 336) rfl).mpr ⟨(by assumption), (Nat.le_of_ble_eq_true rfl), eN_c c3 (by first | rfl | (simp (disch := omega) only [nI_add, i_sub]) | (simp only [*])) ?_⟩
  refine eN_iload (M := ML_drafts) dL_drafts_336 (pc' := 338) rfl rfl ?_
  refine (ev_iconst (M := ML_drafts) (v := (nI 1)) rfl dL_drafts_338 (pc' := 339) rfl).mpr ?_
  refine eN_iadd (M := ML_drafts) dL_drafts_339 (pc' := 340) rfl ?_
  refine (ev_icmp_ne (M := ML_drafts) (t := 379) dL_drafts_340 (by decide) (pc' := 343) rfl).mpr (ifF (by first | assumption | omega | rfl | exact fun q => q (by assumption) | exact fun q => q rfl | (simp (disch := omega) only [nle_t, nle_f, nlt_t, nlt_f, neq_t, neq_f, i_lt0, i_le0, i_0le, i_0lt, i_eq0, i_lt, i_le, i_eq, nI_add, i_sub, i_cl, i_m1a, i_m1b, i_m1c, i_m1d, i_m1e, i_am1, i_ite0, m1_le, m1_m1, m1_ge0, not_true_eq_false, not_false_eq_true, or_self, or_false, false_or, or_true, true_or, and_self, and_true, true_and])) ?_)
  refine eN_aload_n (M := ML_drafts) (k := 0) rfl dL_drafts_343 (pc' := 344) rfl rfl ?_
  refine eN_iload (M := ML_drafts) dL_drafts_344 (pc' := 346) rfl rfl ?_
  refine (ev_cV1 (M := ML_drafts) (kk := 8) dL_drafts_346 c_9_132 mX6_draftAt rfl rfl (by decide) rfl (pc' := 349) rfl).mpr ⟨(by assumption), (Nat.le_of_ble_eq_true rfl), eN_c c4 (by first | rfl | (simp (disch := omega) only [nI_add, i_sub]) | (simp only [*])) ?_⟩
  refine eN_iload_n (M := ML_drafts) (k := 3) rfl dL_drafts_349 (pc' := 350) rfl rfl ?_
  refine (ev_sipush (M := ML_drafts) (v := (nI 256)) rfl dL_drafts_350 (pc' := 353) rfl).mpr ?_
  refine eN_irem (M := ML_drafts) dL_drafts_353 (pc' := 354) rfl (by omega) ?_
  refine (ev_icmp_ne (M := ML_drafts) (t := 379) dL_drafts_354 (by decide) (pc' := 357) rfl).mpr (ifF (by first | assumption | omega | rfl | exact fun q => q (by assumption) | exact fun q => q rfl | (simp (disch := omega) only [nle_t, nle_f, nlt_t, nlt_f, neq_t, neq_f, i_lt0, i_le0, i_0le, i_0lt, i_eq0, i_lt, i_le, i_eq, nI_add, i_sub, i_cl, i_m1a, i_m1b, i_m1c, i_m1d, i_m1e, i_am1, i_ite0, m1_le, m1_m1, m1_ge0, not_true_eq_false, not_false_eq_true, or_self, or_false, false_or, or_true, true_or, and_self, and_true, true_and])) ?_)
  refine eN_iload (M := ML_drafts) dL_drafts_357 (pc' := 359) rfl rfl ?_
  refine (ev_if_lt (M := ML_drafts) (t := 375) dL_drafts_359 (by decide) (pc' := 362) rfl).mpr (ifF (by first | assumption | omega | rfl | exact fun q => q (by assumption) | exact fun q => q rfl | (simp (disch := omega) only [nle_t, nle_f, nlt_t, nlt_f, neq_t, neq_f, i_lt0, i_le0, i_0le, i_0lt, i_eq0, i_lt, i_le, i_eq, nI_add, i_sub, i_cl, i_m1a, i_m1b, i_m1c, i_m1d, i_m1e, i_am1, i_ite0, m1_le, m1_m1, m1_ge0, not_true_eq_false, not_false_eq_true, or_self, or_false, false_or, or_true, true_or, and_self, and_true, true_and])) ?_)
  refine eN_aload_n (M := ML_drafts) (k := 0) rfl dL_drafts_362 (pc' := 363) rfl rfl ?_
  refine eN_iload (M := ML_drafts) dL_drafts_363 (pc' := 365) rfl rfl ?_
  refine (ev_iconst (M := ML_drafts) (v := (nI 1)) rfl dL_drafts_365 (pc' := 366) rfl).mpr ?_
  refine eN_iadd (M := ML_drafts) dL_drafts_366 (pc' := 367) rfl ?_
  refine (ev_cV1 (M := ML_drafts) (kk := 8) dL_drafts_367 c_9_132 mX6_draftAt rfl rfl (by decide) rfl (pc' := 370) rfl).mpr ⟨(by assumption), (Nat.le_of_ble_eq_true rfl), eN_c c5 (by first | rfl | (simp (disch := omega) only [nI_add, i_sub]) | (simp only [*])) ?_⟩
  refine eN_iload (M := ML_drafts) dL_drafts_370 (pc' := 372) rfl rfl ?_
  refine (ev_icmp_ne (M := ML_drafts) (t := 379) dL_drafts_372 (by decide) (pc' := 375) rfl).mpr (ifF (by first | assumption | omega | rfl | exact fun q => q (by assumption) | exact fun q => q rfl | (simp (disch := omega) only [nle_t, nle_f, nlt_t, nlt_f, neq_t, neq_f, i_lt0, i_le0, i_0le, i_0lt, i_eq0, i_lt, i_le, i_eq, nI_add, i_sub, i_cl, i_m1a, i_m1b, i_m1c, i_m1d, i_m1e, i_am1, i_ite0, m1_le, m1_m1, m1_ge0, not_true_eq_false, not_false_eq_true, or_self, or_false, false_or, or_true, true_or, and_self, and_true, true_and])) ?_)
  refine (ev_iconst (M := ML_drafts) (v := (nI 1)) rfl dL_drafts_375 (pc' := 376) rfl).mpr ?_
  refine (ev_goto (M := ML_drafts) (pc' := 380) dL_drafts_376 (by decide)).mpr ?_
  refine (ev_zretI (M := ML_drafts) rfl dL_drafts_380 (by omega)).mpr ?_
  exact hQ
theorem Z_drb (k8 : tK T X = 8) (hl : l < 240) (hx : x < 2147483648) (hy : y < 2147483648) (hp : p = x % (l + 1)) (hpl : p = l) (k8' : tK T' X = 8) (c1 : Call (d + 4) 85 [.ref X] T (.inl (some (.int (nI l)))) T) (c3 : Call (d + 4) 82 [.ref X, .int (nI p), .int (nI (y % 256))] T (.inl (some (.int (nI (l + 1))))) T') (c4 : Call (d + 4) 86 [.ref X, .int (nI p)] T' (.inl (some (.int (nI (y % 256))))) T') (hQ : Q (.inl (some (.int (nI 1)))) T') : Ev (d + 4) ML_drafts [] 0 [(0, .ref X), (1, .int (nI 2)), (2, .int (nI x)), (3, .int (nI y)), (4, .ref G)] [] T Q := by
  subst hp
  refine eN_aload_n (M := ML_drafts) (k := 0) rfl dL_drafts_0 (pc' := 1) rfl rfl ?_
  refine (ev_cV0 (M := ML_drafts) (kk := 8) dL_drafts_1 c_9_129 mX6_draftLength rfl rfl (by decide) rfl (pc' := 4) rfl).mpr ⟨(by assumption), (Nat.le_of_ble_eq_true rfl), eN_c c1 (by first | rfl | (simp (disch := omega) only [nI_add, i_sub]) | (simp only [*])) ?_⟩
  refine (ev_istore (M := ML_drafts) dL_drafts_4 (by decide) (pc' := 6) rfl).mpr ?_
  refine eN_iload_n (M := ML_drafts) (k := 1) rfl dL_drafts_6 (pc' := 7) rfl rfl ?_
  refine (ev_if_ne (M := ML_drafts) (t := 125) dL_drafts_7 (by decide) (pc' := 10) rfl).mpr (ifT (by first | assumption | omega | rfl | exact fun q => q (by assumption) | exact fun q => q rfl | (simp (disch := omega) only [nle_t, nle_f, nlt_t, nlt_f, neq_t, neq_f, i_lt0, i_le0, i_0le, i_0lt, i_eq0, i_lt, i_le, i_eq, nI_add, i_sub, i_cl, i_m1a, i_m1b, i_m1c, i_m1d, i_m1e, i_am1, i_ite0, m1_le, m1_m1, m1_ge0, not_true_eq_false, not_false_eq_true, or_self, or_false, false_or, or_true, true_or, and_self, and_true, true_and])) ?_)
  refine eN_iload_n (M := ML_drafts) (k := 1) rfl dL_drafts_125 (pc' := 126) rfl rfl ?_
  refine (ev_iconst (M := ML_drafts) (v := (nI 1)) rfl dL_drafts_126 (pc' := 127) rfl).mpr ?_
  refine (ev_icmp_ne (M := ML_drafts) (t := 285) dL_drafts_127 (by decide) (pc' := 130) rfl).mpr (ifT (by first | assumption | omega | rfl | exact fun q => q (by assumption) | exact fun q => q rfl | (simp (disch := omega) only [nle_t, nle_f, nlt_t, nlt_f, neq_t, neq_f, i_lt0, i_le0, i_0le, i_0lt, i_eq0, i_lt, i_le, i_eq, nI_add, i_sub, i_cl, i_m1a, i_m1b, i_m1c, i_m1d, i_m1e, i_am1, i_ite0, m1_le, m1_m1, m1_ge0, not_true_eq_false, not_false_eq_true, or_self, or_false, false_or, or_true, true_or, and_self, and_true, true_and])) ?_)
  refine eN_iload_n (M := ML_drafts) (k := 1) rfl dL_drafts_285 (pc' := 286) rfl rfl ?_
  refine (ev_iconst (M := ML_drafts) (v := (nI 2)) rfl dL_drafts_286 (pc' := 287) rfl).mpr ?_
  refine (ev_icmp_ne (M := ML_drafts) (t := 381) dL_drafts_287 (by decide) (pc' := 290) rfl).mpr (ifF (by first | assumption | omega | rfl | exact fun q => q (by assumption) | exact fun q => q rfl | (simp (disch := omega) only [nle_t, nle_f, nlt_t, nlt_f, neq_t, neq_f, i_lt0, i_le0, i_0le, i_0lt, i_eq0, i_lt, i_le, i_eq, nI_add, i_sub, i_cl, i_m1a, i_m1b, i_m1c, i_m1d, i_m1e, i_am1, i_ite0, m1_le, m1_m1, m1_ge0, not_true_eq_false, not_false_eq_true, or_self, or_false, false_or, or_true, true_or, and_self, and_true, true_and])) ?_)
  refine eN_iload_n (M := ML_drafts) (k := 2) rfl dL_drafts_290 (pc' := 291) rfl rfl ?_
  refine eN_iload (M := ML_drafts) dL_drafts_291 (pc' := 293) rfl rfl ?_
  refine (ev_iconst (M := ML_drafts) (v := (nI 1)) rfl dL_drafts_293 (pc' := 294) rfl).mpr ?_
  refine eN_iadd (M := ML_drafts) dL_drafts_294 (pc' := 295) rfl ?_
  refine eN_irem (M := ML_drafts) dL_drafts_295 (pc' := 296) rfl (by omega) ?_
  refine (ev_istore (M := ML_drafts) dL_drafts_296 (by decide) (pc' := 298) rfl).mpr ?_
  refine eN_iload (M := ML_drafts) dL_drafts_298 (pc' := 300) rfl rfl ?_
  refine eN_iload (M := ML_drafts) dL_drafts_300 (pc' := 302) rfl rfl ?_
  refine (ev_icmp_ge (M := ML_drafts) (t := 314) dL_drafts_302 (by decide) (pc' := 305) rfl).mpr (ifT (by first | assumption | omega | rfl | exact fun q => q (by assumption) | exact fun q => q rfl | (simp (disch := omega) only [nle_t, nle_f, nlt_t, nlt_f, neq_t, neq_f, i_lt0, i_le0, i_0le, i_0lt, i_eq0, i_lt, i_le, i_eq, nI_add, i_sub, i_cl, i_m1a, i_m1b, i_m1c, i_m1d, i_m1e, i_am1, i_ite0, m1_le, m1_m1, m1_ge0, not_true_eq_false, not_false_eq_true, or_self, or_false, false_or, or_true, true_or, and_self, and_true, true_and])) ?_)
  refine (ev_iconst (M := ML_drafts) (v := (-1)) rfl dL_drafts_314 (pc' := 315) rfl).mpr ?_
  refine (ev_istore (M := ML_drafts) dL_drafts_315 (by decide) (pc' := 317) rfl).mpr ?_
  refine eN_iload (M := ML_drafts) dL_drafts_317 (pc' := 319) rfl rfl ?_
  refine (ev_sipush (M := ML_drafts) (v := (nI 240)) rfl dL_drafts_319 (pc' := 322) rfl).mpr ?_
  refine (ev_icmp_eq (M := ML_drafts) (t := 375) dL_drafts_322 (by decide) (pc' := 325) rfl).mpr (ifF (by first | assumption | omega | rfl | exact fun q => q (by assumption) | exact fun q => q rfl | (simp (disch := omega) only [nle_t, nle_f, nlt_t, nlt_f, neq_t, neq_f, i_lt0, i_le0, i_0le, i_0lt, i_eq0, i_lt, i_le, i_eq, nI_add, i_sub, i_cl, i_m1a, i_m1b, i_m1c, i_m1d, i_m1e, i_am1, i_ite0, m1_le, m1_m1, m1_ge0, not_true_eq_false, not_false_eq_true, or_self, or_false, false_or, or_true, true_or, and_self, and_true, true_and])) ?_)
  refine eN_aload_n (M := ML_drafts) (k := 0) rfl dL_drafts_325 (pc' := 326) rfl rfl ?_
  refine eN_iload (M := ML_drafts) dL_drafts_326 (pc' := 328) rfl rfl ?_
  refine eN_iload_n (M := ML_drafts) (k := 3) rfl dL_drafts_328 (pc' := 329) rfl rfl ?_
  refine (ev_sipush (M := ML_drafts) (v := (nI 256)) rfl dL_drafts_329 (pc' := 332) rfl).mpr ?_
  refine eN_irem (M := ML_drafts) dL_drafts_332 (pc' := 333) rfl (by omega) ?_
  refine (ev_cV2 (M := ML_drafts) (kk := 8) dL_drafts_333 c_9_154 mX6_insert rfl rfl (by decide) rfl (pc' := 336) rfl).mpr ⟨(by assumption), (Nat.le_of_ble_eq_true rfl), eN_c c3 (by first | rfl | (simp (disch := omega) only [nI_add, i_sub]) | (simp only [*])) ?_⟩
  refine eN_iload (M := ML_drafts) dL_drafts_336 (pc' := 338) rfl rfl ?_
  refine (ev_iconst (M := ML_drafts) (v := (nI 1)) rfl dL_drafts_338 (pc' := 339) rfl).mpr ?_
  refine eN_iadd (M := ML_drafts) dL_drafts_339 (pc' := 340) rfl ?_
  refine (ev_icmp_ne (M := ML_drafts) (t := 379) dL_drafts_340 (by decide) (pc' := 343) rfl).mpr (ifF (by first | assumption | omega | rfl | exact fun q => q (by assumption) | exact fun q => q rfl | (simp (disch := omega) only [nle_t, nle_f, nlt_t, nlt_f, neq_t, neq_f, i_lt0, i_le0, i_0le, i_0lt, i_eq0, i_lt, i_le, i_eq, nI_add, i_sub, i_cl, i_m1a, i_m1b, i_m1c, i_m1d, i_m1e, i_am1, i_ite0, m1_le, m1_m1, m1_ge0, not_true_eq_false, not_false_eq_true, or_self, or_false, false_or, or_true, true_or, and_self, and_true, true_and])) ?_)
  refine eN_aload_n (M := ML_drafts) (k := 0) rfl dL_drafts_343 (pc' := 344) rfl rfl ?_
  refine eN_iload (M := ML_drafts) dL_drafts_344 (pc' := 346) rfl rfl ?_
  refine (ev_cV1 (M := ML_drafts) (kk := 8) dL_drafts_346 c_9_132 mX6_draftAt rfl rfl (by decide) rfl (pc' := 349) rfl).mpr ⟨(by assumption), (Nat.le_of_ble_eq_true rfl), eN_c c4 (by first | rfl | (simp (disch := omega) only [nI_add, i_sub]) | (simp only [*])) ?_⟩
  refine eN_iload_n (M := ML_drafts) (k := 3) rfl dL_drafts_349 (pc' := 350) rfl rfl ?_
  refine (ev_sipush (M := ML_drafts) (v := (nI 256)) rfl dL_drafts_350 (pc' := 353) rfl).mpr ?_
  refine eN_irem (M := ML_drafts) dL_drafts_353 (pc' := 354) rfl (by omega) ?_
  refine (ev_icmp_ne (M := ML_drafts) (t := 379) dL_drafts_354 (by decide) (pc' := 357) rfl).mpr (ifF (by first | assumption | omega | rfl | exact fun q => q (by assumption) | exact fun q => q rfl | (simp (disch := omega) only [nle_t, nle_f, nlt_t, nlt_f, neq_t, neq_f, i_lt0, i_le0, i_0le, i_0lt, i_eq0, i_lt, i_le, i_eq, nI_add, i_sub, i_cl, i_m1a, i_m1b, i_m1c, i_m1d, i_m1e, i_am1, i_ite0, m1_le, m1_m1, m1_ge0, not_true_eq_false, not_false_eq_true, or_self, or_false, false_or, or_true, true_or, and_self, and_true, true_and])) ?_)
  refine eN_iload (M := ML_drafts) dL_drafts_357 (pc' := 359) rfl rfl ?_
  refine (ev_if_lt (M := ML_drafts) (t := 375) dL_drafts_359 (by decide) (pc' := 362) rfl).mpr (ifT (by first | assumption | omega | rfl | exact fun q => q (by assumption) | exact fun q => q rfl | (simp (disch := omega) only [nle_t, nle_f, nlt_t, nlt_f, neq_t, neq_f, i_lt0, i_le0, i_0le, i_0lt, i_eq0, i_lt, i_le, i_eq, nI_add, i_sub, i_cl, i_m1a, i_m1b, i_m1c, i_m1d, i_m1e, i_am1, i_ite0, m1_le, m1_m1, m1_ge0, not_true_eq_false, not_false_eq_true, or_self, or_false, false_or, or_true, true_or, and_self, and_true, true_and])) ?_)
  refine (ev_iconst (M := ML_drafts) (v := (nI 1)) rfl dL_drafts_375 (pc' := 376) rfl).mpr ?_
  refine (ev_goto (M := ML_drafts) (pc' := 380) dL_drafts_376 (by decide)).mpr ?_
  refine (ev_zretI (M := ML_drafts) rfl dL_drafts_380 (by omega)).mpr ?_
  exact hQ
theorem Z_drc (k8 : tK T X = 8) (hx : x < 2147483648) (hy : y < 2147483648) (he : e < 256) (hp : p = x % 241) (c1 : Call (d + 4) 85 [.ref X] T (.inl (some (.int (nI 240)))) T) (c2 : p < 240 → Call (d + 4) 86 [.ref X, .int (nI p)] T (.inl (some (.int (nI e)))) T) (hQ : Q (.inl (some (.int (nI 1)))) T) : Ev (d + 4) ML_drafts [] 0 [(0, .ref X), (1, .int (nI 2)), (2, .int (nI x)), (3, .int (nI y)), (4, .ref G)] [] T Q := by
  subst hp
  by_cases h : x % 241 < 240
  · have c2 := c2 h
    refine eN_aload_n (M := ML_drafts) (k := 0) rfl dL_drafts_0 (pc' := 1) rfl rfl ?_
    refine (ev_cV0 (M := ML_drafts) (kk := 8) dL_drafts_1 c_9_129 mX6_draftLength rfl rfl (by decide) rfl (pc' := 4) rfl).mpr ⟨(by assumption), (Nat.le_of_ble_eq_true rfl), eN_c c1 (by first | rfl | (simp (disch := omega) only [nI_add, i_sub]) | (simp only [*])) ?_⟩
    refine (ev_istore (M := ML_drafts) dL_drafts_4 (by decide) (pc' := 6) rfl).mpr ?_
    refine eN_iload_n (M := ML_drafts) (k := 1) rfl dL_drafts_6 (pc' := 7) rfl rfl ?_
    refine (ev_if_ne (M := ML_drafts) (t := 125) dL_drafts_7 (by decide) (pc' := 10) rfl).mpr (ifT (by first | assumption | omega | rfl | exact fun q => q (by assumption) | exact fun q => q rfl | (simp (disch := omega) only [nle_t, nle_f, nlt_t, nlt_f, neq_t, neq_f, i_lt0, i_le0, i_0le, i_0lt, i_eq0, i_lt, i_le, i_eq, nI_add, i_sub, i_cl, i_m1a, i_m1b, i_m1c, i_m1d, i_m1e, i_am1, i_ite0, m1_le, m1_m1, m1_ge0, not_true_eq_false, not_false_eq_true, or_self, or_false, false_or, or_true, true_or, and_self, and_true, true_and])) ?_)
    refine eN_iload_n (M := ML_drafts) (k := 1) rfl dL_drafts_125 (pc' := 126) rfl rfl ?_
    refine (ev_iconst (M := ML_drafts) (v := (nI 1)) rfl dL_drafts_126 (pc' := 127) rfl).mpr ?_
    refine (ev_icmp_ne (M := ML_drafts) (t := 285) dL_drafts_127 (by decide) (pc' := 130) rfl).mpr (ifT (by first | assumption | omega | rfl | exact fun q => q (by assumption) | exact fun q => q rfl | (simp (disch := omega) only [nle_t, nle_f, nlt_t, nlt_f, neq_t, neq_f, i_lt0, i_le0, i_0le, i_0lt, i_eq0, i_lt, i_le, i_eq, nI_add, i_sub, i_cl, i_m1a, i_m1b, i_m1c, i_m1d, i_m1e, i_am1, i_ite0, m1_le, m1_m1, m1_ge0, not_true_eq_false, not_false_eq_true, or_self, or_false, false_or, or_true, true_or, and_self, and_true, true_and])) ?_)
    refine eN_iload_n (M := ML_drafts) (k := 1) rfl dL_drafts_285 (pc' := 286) rfl rfl ?_
    refine (ev_iconst (M := ML_drafts) (v := (nI 2)) rfl dL_drafts_286 (pc' := 287) rfl).mpr ?_
    refine (ev_icmp_ne (M := ML_drafts) (t := 381) dL_drafts_287 (by decide) (pc' := 290) rfl).mpr (ifF (by first | assumption | omega | rfl | exact fun q => q (by assumption) | exact fun q => q rfl | (simp (disch := omega) only [nle_t, nle_f, nlt_t, nlt_f, neq_t, neq_f, i_lt0, i_le0, i_0le, i_0lt, i_eq0, i_lt, i_le, i_eq, nI_add, i_sub, i_cl, i_m1a, i_m1b, i_m1c, i_m1d, i_m1e, i_am1, i_ite0, m1_le, m1_m1, m1_ge0, not_true_eq_false, not_false_eq_true, or_self, or_false, false_or, or_true, true_or, and_self, and_true, true_and])) ?_)
    refine eN_iload_n (M := ML_drafts) (k := 2) rfl dL_drafts_290 (pc' := 291) rfl rfl ?_
    refine eN_iload (M := ML_drafts) dL_drafts_291 (pc' := 293) rfl rfl ?_
    refine (ev_iconst (M := ML_drafts) (v := (nI 1)) rfl dL_drafts_293 (pc' := 294) rfl).mpr ?_
    refine eN_iadd (M := ML_drafts) dL_drafts_294 (pc' := 295) rfl ?_
    refine eN_irem (M := ML_drafts) dL_drafts_295 (pc' := 296) rfl (by omega) ?_
    refine (ev_istore (M := ML_drafts) dL_drafts_296 (by decide) (pc' := 298) rfl).mpr ?_
    refine eN_iload (M := ML_drafts) dL_drafts_298 (pc' := 300) rfl rfl ?_
    refine eN_iload (M := ML_drafts) dL_drafts_300 (pc' := 302) rfl rfl ?_
    refine (ev_icmp_ge (M := ML_drafts) (t := 314) dL_drafts_302 (by decide) (pc' := 305) rfl).mpr (ifF (by first | assumption | omega | rfl | exact fun q => q (by assumption) | exact fun q => q rfl | (simp (disch := omega) only [nle_t, nle_f, nlt_t, nlt_f, neq_t, neq_f, i_lt0, i_le0, i_0le, i_0lt, i_eq0, i_lt, i_le, i_eq, nI_add, i_sub, i_cl, i_m1a, i_m1b, i_m1c, i_m1d, i_m1e, i_am1, i_ite0, m1_le, m1_m1, m1_ge0, not_true_eq_false, not_false_eq_true, or_self, or_false, false_or, or_true, true_or, and_self, and_true, true_and])) ?_)
    refine eN_aload_n (M := ML_drafts) (k := 0) rfl dL_drafts_305 (pc' := 306) rfl rfl ?_
    refine eN_iload (M := ML_drafts) dL_drafts_306 (pc' := 308) rfl rfl ?_
    refine (ev_cV1 (M := ML_drafts) (kk := 8) dL_drafts_308 c_9_132 mX6_draftAt rfl rfl (by decide) rfl (pc' := 311) rfl).mpr ⟨(by assumption), (Nat.le_of_ble_eq_true rfl), eN_c c2 (by first | rfl | (simp (disch := omega) only [nI_add, i_sub]) | (simp only [*])) ?_⟩
    refine (ev_goto (M := ML_drafts) (pc' := 315) dL_drafts_311 (by decide)).mpr ?_
    refine (ev_istore (M := ML_drafts) dL_drafts_315 (by decide) (pc' := 317) rfl).mpr ?_
    refine eN_iload (M := ML_drafts) dL_drafts_317 (pc' := 319) rfl rfl ?_
    refine (ev_sipush (M := ML_drafts) (v := (nI 240)) rfl dL_drafts_319 (pc' := 322) rfl).mpr ?_
    refine (ev_icmp_eq (M := ML_drafts) (t := 375) dL_drafts_322 (by decide) (pc' := 325) rfl).mpr (ifT (by first | assumption | omega | rfl | exact fun q => q (by assumption) | exact fun q => q rfl | (simp (disch := omega) only [nle_t, nle_f, nlt_t, nlt_f, neq_t, neq_f, i_lt0, i_le0, i_0le, i_0lt, i_eq0, i_lt, i_le, i_eq, nI_add, i_sub, i_cl, i_m1a, i_m1b, i_m1c, i_m1d, i_m1e, i_am1, i_ite0, m1_le, m1_m1, m1_ge0, not_true_eq_false, not_false_eq_true, or_self, or_false, false_or, or_true, true_or, and_self, and_true, true_and])) ?_)
    refine (ev_iconst (M := ML_drafts) (v := (nI 1)) rfl dL_drafts_375 (pc' := 376) rfl).mpr ?_
    refine (ev_goto (M := ML_drafts) (pc' := 380) dL_drafts_376 (by decide)).mpr ?_
    refine (ev_zretI (M := ML_drafts) rfl dL_drafts_380 (by omega)).mpr ?_
    exact hQ
  · skip
    refine eN_aload_n (M := ML_drafts) (k := 0) rfl dL_drafts_0 (pc' := 1) rfl rfl ?_
    refine (ev_cV0 (M := ML_drafts) (kk := 8) dL_drafts_1 c_9_129 mX6_draftLength rfl rfl (by decide) rfl (pc' := 4) rfl).mpr ⟨(by assumption), (Nat.le_of_ble_eq_true rfl), eN_c c1 (by first | rfl | (simp (disch := omega) only [nI_add, i_sub]) | (simp only [*])) ?_⟩
    refine (ev_istore (M := ML_drafts) dL_drafts_4 (by decide) (pc' := 6) rfl).mpr ?_
    refine eN_iload_n (M := ML_drafts) (k := 1) rfl dL_drafts_6 (pc' := 7) rfl rfl ?_
    refine (ev_if_ne (M := ML_drafts) (t := 125) dL_drafts_7 (by decide) (pc' := 10) rfl).mpr (ifT (by first | assumption | omega | rfl | exact fun q => q (by assumption) | exact fun q => q rfl | (simp (disch := omega) only [nle_t, nle_f, nlt_t, nlt_f, neq_t, neq_f, i_lt0, i_le0, i_0le, i_0lt, i_eq0, i_lt, i_le, i_eq, nI_add, i_sub, i_cl, i_m1a, i_m1b, i_m1c, i_m1d, i_m1e, i_am1, i_ite0, m1_le, m1_m1, m1_ge0, not_true_eq_false, not_false_eq_true, or_self, or_false, false_or, or_true, true_or, and_self, and_true, true_and])) ?_)
    refine eN_iload_n (M := ML_drafts) (k := 1) rfl dL_drafts_125 (pc' := 126) rfl rfl ?_
    refine (ev_iconst (M := ML_drafts) (v := (nI 1)) rfl dL_drafts_126 (pc' := 127) rfl).mpr ?_
    refine (ev_icmp_ne (M := ML_drafts) (t := 285) dL_drafts_127 (by decide) (pc' := 130) rfl).mpr (ifT (by first | assumption | omega | rfl | exact fun q => q (by assumption) | exact fun q => q rfl | (simp (disch := omega) only [nle_t, nle_f, nlt_t, nlt_f, neq_t, neq_f, i_lt0, i_le0, i_0le, i_0lt, i_eq0, i_lt, i_le, i_eq, nI_add, i_sub, i_cl, i_m1a, i_m1b, i_m1c, i_m1d, i_m1e, i_am1, i_ite0, m1_le, m1_m1, m1_ge0, not_true_eq_false, not_false_eq_true, or_self, or_false, false_or, or_true, true_or, and_self, and_true, true_and])) ?_)
    refine eN_iload_n (M := ML_drafts) (k := 1) rfl dL_drafts_285 (pc' := 286) rfl rfl ?_
    refine (ev_iconst (M := ML_drafts) (v := (nI 2)) rfl dL_drafts_286 (pc' := 287) rfl).mpr ?_
    refine (ev_icmp_ne (M := ML_drafts) (t := 381) dL_drafts_287 (by decide) (pc' := 290) rfl).mpr (ifF (by first | assumption | omega | rfl | exact fun q => q (by assumption) | exact fun q => q rfl | (simp (disch := omega) only [nle_t, nle_f, nlt_t, nlt_f, neq_t, neq_f, i_lt0, i_le0, i_0le, i_0lt, i_eq0, i_lt, i_le, i_eq, nI_add, i_sub, i_cl, i_m1a, i_m1b, i_m1c, i_m1d, i_m1e, i_am1, i_ite0, m1_le, m1_m1, m1_ge0, not_true_eq_false, not_false_eq_true, or_self, or_false, false_or, or_true, true_or, and_self, and_true, true_and])) ?_)
    refine eN_iload_n (M := ML_drafts) (k := 2) rfl dL_drafts_290 (pc' := 291) rfl rfl ?_
    refine eN_iload (M := ML_drafts) dL_drafts_291 (pc' := 293) rfl rfl ?_
    refine (ev_iconst (M := ML_drafts) (v := (nI 1)) rfl dL_drafts_293 (pc' := 294) rfl).mpr ?_
    refine eN_iadd (M := ML_drafts) dL_drafts_294 (pc' := 295) rfl ?_
    refine eN_irem (M := ML_drafts) dL_drafts_295 (pc' := 296) rfl (by omega) ?_
    refine (ev_istore (M := ML_drafts) dL_drafts_296 (by decide) (pc' := 298) rfl).mpr ?_
    refine eN_iload (M := ML_drafts) dL_drafts_298 (pc' := 300) rfl rfl ?_
    refine eN_iload (M := ML_drafts) dL_drafts_300 (pc' := 302) rfl rfl ?_
    refine (ev_icmp_ge (M := ML_drafts) (t := 314) dL_drafts_302 (by decide) (pc' := 305) rfl).mpr (ifT (by first | assumption | omega | rfl | exact fun q => q (by assumption) | exact fun q => q rfl | (simp (disch := omega) only [nle_t, nle_f, nlt_t, nlt_f, neq_t, neq_f, i_lt0, i_le0, i_0le, i_0lt, i_eq0, i_lt, i_le, i_eq, nI_add, i_sub, i_cl, i_m1a, i_m1b, i_m1c, i_m1d, i_m1e, i_am1, i_ite0, m1_le, m1_m1, m1_ge0, not_true_eq_false, not_false_eq_true, or_self, or_false, false_or, or_true, true_or, and_self, and_true, true_and])) ?_)
    refine (ev_iconst (M := ML_drafts) (v := (-1)) rfl dL_drafts_314 (pc' := 315) rfl).mpr ?_
    refine (ev_istore (M := ML_drafts) dL_drafts_315 (by decide) (pc' := 317) rfl).mpr ?_
    refine eN_iload (M := ML_drafts) dL_drafts_317 (pc' := 319) rfl rfl ?_
    refine (ev_sipush (M := ML_drafts) (v := (nI 240)) rfl dL_drafts_319 (pc' := 322) rfl).mpr ?_
    refine (ev_icmp_eq (M := ML_drafts) (t := 375) dL_drafts_322 (by decide) (pc' := 325) rfl).mpr (ifT (by first | assumption | omega | rfl | exact fun q => q (by assumption) | exact fun q => q rfl | (simp (disch := omega) only [nle_t, nle_f, nlt_t, nlt_f, neq_t, neq_f, i_lt0, i_le0, i_0le, i_0lt, i_eq0, i_lt, i_le, i_eq, nI_add, i_sub, i_cl, i_m1a, i_m1b, i_m1c, i_m1d, i_m1e, i_am1, i_ite0, m1_le, m1_m1, m1_ge0, not_true_eq_false, not_false_eq_true, or_self, or_false, false_or, or_true, true_or, and_self, and_true, true_and])) ?_)
    refine (ev_iconst (M := ML_drafts) (v := (nI 1)) rfl dL_drafts_375 (pc' := 376) rfl).mpr ?_
    refine (ev_goto (M := ML_drafts) (pc' := 380) dL_drafts_376 (by decide)).mpr ?_
    refine (ev_zretI (M := ML_drafts) rfl dL_drafts_380 (by omega)).mpr ?_
    exact hQ
/-- bytes taken out -/
theorem Z_drd (k8 : tK T X = 8) (hl : l ≤ 240) (hx : x < 2147483648) (hy : y < 2147483648) (hp : p = if l = 0 then 0 else x % l) (hm : m = if y % 4 = 0 then y / 4 % (l - p + 1) else if l = 0 then 0 else 1) (c1 : Call (d + 4) 85 [.ref X] T (.inl (some (.int (nI l)))) T) (hq : Ev (d + 4) ML_drafts [] 428 [(7, .int (nI m)), (6, .int (nI p)), (5, .int (nI l)), (0, .ref X)] [] T Q) : Ev (d + 4) ML_drafts [] 0 [(0, .ref X), (1, .int (nI 3)), (2, .int (nI x)), (3, .int (nI y)), (4, .ref G)] [] T Q := by
  by_cases h : l = 0
  · rw [if_pos h] at hp
    subst hp
    by_cases h4 : y % 4 = 0
    · rw [if_pos h4] at hm
      subst hm
      refine eN_aload_n (M := ML_drafts) (k := 0) rfl dL_drafts_0 (pc' := 1) rfl rfl ?_
      refine (ev_cV0 (M := ML_drafts) (kk := 8) dL_drafts_1 c_9_129 mX6_draftLength rfl rfl (by decide) rfl (pc' := 4) rfl).mpr ⟨(by assumption), (Nat.le_of_ble_eq_true rfl), eN_c c1 (by first | rfl | (simp (disch := omega) only [nI_add, i_sub]) | (simp only [*])) ?_⟩
      refine (ev_istore (M := ML_drafts) dL_drafts_4 (by decide) (pc' := 6) rfl).mpr ?_
      refine eN_iload_n (M := ML_drafts) (k := 1) rfl dL_drafts_6 (pc' := 7) rfl rfl ?_
      refine (ev_if_ne (M := ML_drafts) (t := 125) dL_drafts_7 (by decide) (pc' := 10) rfl).mpr (ifT (by first | assumption | omega | rfl | exact fun q => q (by assumption) | exact fun q => q rfl | (simp (disch := omega) only [nle_t, nle_f, nlt_t, nlt_f, neq_t, neq_f, i_lt0, i_le0, i_0le, i_0lt, i_eq0, i_lt, i_le, i_eq, nI_add, i_sub, i_cl, i_m1a, i_m1b, i_m1c, i_m1d, i_m1e, i_am1, i_ite0, m1_le, m1_m1, m1_ge0, not_true_eq_false, not_false_eq_true, or_self, or_false, false_or, or_true, true_or, and_self, and_true, true_and])) ?_)
      refine eN_iload_n (M := ML_drafts) (k := 1) rfl dL_drafts_125 (pc' := 126) rfl rfl ?_
      refine (ev_iconst (M := ML_drafts) (v := (nI 1)) rfl dL_drafts_126 (pc' := 127) rfl).mpr ?_
      refine (ev_icmp_ne (M := ML_drafts) (t := 285) dL_drafts_127 (by decide) (pc' := 130) rfl).mpr (ifT (by first | assumption | omega | rfl | exact fun q => q (by assumption) | exact fun q => q rfl | (simp (disch := omega) only [nle_t, nle_f, nlt_t, nlt_f, neq_t, neq_f, i_lt0, i_le0, i_0le, i_0lt, i_eq0, i_lt, i_le, i_eq, nI_add, i_sub, i_cl, i_m1a, i_m1b, i_m1c, i_m1d, i_m1e, i_am1, i_ite0, m1_le, m1_m1, m1_ge0, not_true_eq_false, not_false_eq_true, or_self, or_false, false_or, or_true, true_or, and_self, and_true, true_and])) ?_)
      refine eN_iload_n (M := ML_drafts) (k := 1) rfl dL_drafts_285 (pc' := 286) rfl rfl ?_
      refine (ev_iconst (M := ML_drafts) (v := (nI 2)) rfl dL_drafts_286 (pc' := 287) rfl).mpr ?_
      refine (ev_icmp_ne (M := ML_drafts) (t := 381) dL_drafts_287 (by decide) (pc' := 290) rfl).mpr (ifT (by first | assumption | omega | rfl | exact fun q => q (by assumption) | exact fun q => q rfl | (simp (disch := omega) only [nle_t, nle_f, nlt_t, nlt_f, neq_t, neq_f, i_lt0, i_le0, i_0le, i_0lt, i_eq0, i_lt, i_le, i_eq, nI_add, i_sub, i_cl, i_m1a, i_m1b, i_m1c, i_m1d, i_m1e, i_am1, i_ite0, m1_le, m1_m1, m1_ge0, not_true_eq_false, not_false_eq_true, or_self, or_false, false_or, or_true, true_or, and_self, and_true, true_and])) ?_)
      refine eN_iload (M := ML_drafts) dL_drafts_381 (pc' := 383) rfl rfl ?_
      refine (ev_if_ne (M := ML_drafts) (t := 390) dL_drafts_383 (by decide) (pc' := 386) rfl).mpr (ifF (by first | assumption | omega | rfl | exact fun q => q (by assumption) | exact fun q => q rfl | (simp (disch := omega) only [nle_t, nle_f, nlt_t, nlt_f, neq_t, neq_f, i_lt0, i_le0, i_0le, i_0lt, i_eq0, i_lt, i_le, i_eq, nI_add, i_sub, i_cl, i_m1a, i_m1b, i_m1c, i_m1d, i_m1e, i_am1, i_ite0, m1_le, m1_m1, m1_ge0, not_true_eq_false, not_false_eq_true, or_self, or_false, false_or, or_true, true_or, and_self, and_true, true_and])) ?_)
      refine (ev_iconst (M := ML_drafts) (v := (nI 0)) rfl dL_drafts_386 (pc' := 387) rfl).mpr ?_
      refine (ev_goto (M := ML_drafts) (pc' := 394) dL_drafts_387 (by decide)).mpr ?_
      refine (ev_istore (M := ML_drafts) dL_drafts_394 (by decide) (pc' := 396) rfl).mpr ?_
      refine eN_iload_n (M := ML_drafts) (k := 3) rfl dL_drafts_396 (pc' := 397) rfl rfl ?_
      refine (ev_iconst (M := ML_drafts) (v := (nI 4)) rfl dL_drafts_397 (pc' := 398) rfl).mpr ?_
      refine eN_irem (M := ML_drafts) dL_drafts_398 (pc' := 399) rfl (by omega) ?_
      refine (ev_if_ne (M := ML_drafts) (t := 416) dL_drafts_399 (by decide) (pc' := 402) rfl).mpr (ifF (by first | assumption | omega | rfl | exact fun q => q (by assumption) | exact fun q => q rfl | (simp (disch := omega) only [nle_t, nle_f, nlt_t, nlt_f, neq_t, neq_f, i_lt0, i_le0, i_0le, i_0lt, i_eq0, i_lt, i_le, i_eq, nI_add, i_sub, i_cl, i_m1a, i_m1b, i_m1c, i_m1d, i_m1e, i_am1, i_ite0, m1_le, m1_m1, m1_ge0, not_true_eq_false, not_false_eq_true, or_self, or_false, false_or, or_true, true_or, and_self, and_true, true_and])) ?_)
      refine eN_iload_n (M := ML_drafts) (k := 3) rfl dL_drafts_402 (pc' := 403) rfl rfl ?_
      refine (ev_iconst (M := ML_drafts) (v := (nI 4)) rfl dL_drafts_403 (pc' := 404) rfl).mpr ?_
      refine eN_idiv (M := ML_drafts) dL_drafts_404 (pc' := 405) rfl (by omega) ?_
      refine eN_iload (M := ML_drafts) dL_drafts_405 (pc' := 407) rfl rfl ?_
      refine eN_iload (M := ML_drafts) dL_drafts_407 (pc' := 409) rfl rfl ?_
      refine eN_isub (M := ML_drafts) dL_drafts_409 (pc' := 410) rfl (by omega) ?_
      refine (ev_iconst (M := ML_drafts) (v := (nI 1)) rfl dL_drafts_410 (pc' := 411) rfl).mpr ?_
      refine eN_iadd (M := ML_drafts) dL_drafts_411 (pc' := 412) rfl ?_
      refine eN_irem (M := ML_drafts) dL_drafts_412 (pc' := 413) rfl (by omega) ?_
      refine (ev_goto (M := ML_drafts) (pc' := 426) dL_drafts_413 (by decide)).mpr ?_
      refine (ev_istore (M := ML_drafts) dL_drafts_426 (by decide) (pc' := 428) rfl).mpr ?_
      exact ev_more (by repeat (first | exact trivial | refine ⟨rfl, ?_⟩)) (by exact rfl) (by exact rfl) hq
    · rw [if_neg h4, if_pos h] at hm
      subst hm
      refine eN_aload_n (M := ML_drafts) (k := 0) rfl dL_drafts_0 (pc' := 1) rfl rfl ?_
      refine (ev_cV0 (M := ML_drafts) (kk := 8) dL_drafts_1 c_9_129 mX6_draftLength rfl rfl (by decide) rfl (pc' := 4) rfl).mpr ⟨(by assumption), (Nat.le_of_ble_eq_true rfl), eN_c c1 (by first | rfl | (simp (disch := omega) only [nI_add, i_sub]) | (simp only [*])) ?_⟩
      refine (ev_istore (M := ML_drafts) dL_drafts_4 (by decide) (pc' := 6) rfl).mpr ?_
      refine eN_iload_n (M := ML_drafts) (k := 1) rfl dL_drafts_6 (pc' := 7) rfl rfl ?_
      refine (ev_if_ne (M := ML_drafts) (t := 125) dL_drafts_7 (by decide) (pc' := 10) rfl).mpr (ifT (by first | assumption | omega | rfl | exact fun q => q (by assumption) | exact fun q => q rfl | (simp (disch := omega) only [nle_t, nle_f, nlt_t, nlt_f, neq_t, neq_f, i_lt0, i_le0, i_0le, i_0lt, i_eq0, i_lt, i_le, i_eq, nI_add, i_sub, i_cl, i_m1a, i_m1b, i_m1c, i_m1d, i_m1e, i_am1, i_ite0, m1_le, m1_m1, m1_ge0, not_true_eq_false, not_false_eq_true, or_self, or_false, false_or, or_true, true_or, and_self, and_true, true_and])) ?_)
      refine eN_iload_n (M := ML_drafts) (k := 1) rfl dL_drafts_125 (pc' := 126) rfl rfl ?_
      refine (ev_iconst (M := ML_drafts) (v := (nI 1)) rfl dL_drafts_126 (pc' := 127) rfl).mpr ?_
      refine (ev_icmp_ne (M := ML_drafts) (t := 285) dL_drafts_127 (by decide) (pc' := 130) rfl).mpr (ifT (by first | assumption | omega | rfl | exact fun q => q (by assumption) | exact fun q => q rfl | (simp (disch := omega) only [nle_t, nle_f, nlt_t, nlt_f, neq_t, neq_f, i_lt0, i_le0, i_0le, i_0lt, i_eq0, i_lt, i_le, i_eq, nI_add, i_sub, i_cl, i_m1a, i_m1b, i_m1c, i_m1d, i_m1e, i_am1, i_ite0, m1_le, m1_m1, m1_ge0, not_true_eq_false, not_false_eq_true, or_self, or_false, false_or, or_true, true_or, and_self, and_true, true_and])) ?_)
      refine eN_iload_n (M := ML_drafts) (k := 1) rfl dL_drafts_285 (pc' := 286) rfl rfl ?_
      refine (ev_iconst (M := ML_drafts) (v := (nI 2)) rfl dL_drafts_286 (pc' := 287) rfl).mpr ?_
      refine (ev_icmp_ne (M := ML_drafts) (t := 381) dL_drafts_287 (by decide) (pc' := 290) rfl).mpr (ifT (by first | assumption | omega | rfl | exact fun q => q (by assumption) | exact fun q => q rfl | (simp (disch := omega) only [nle_t, nle_f, nlt_t, nlt_f, neq_t, neq_f, i_lt0, i_le0, i_0le, i_0lt, i_eq0, i_lt, i_le, i_eq, nI_add, i_sub, i_cl, i_m1a, i_m1b, i_m1c, i_m1d, i_m1e, i_am1, i_ite0, m1_le, m1_m1, m1_ge0, not_true_eq_false, not_false_eq_true, or_self, or_false, false_or, or_true, true_or, and_self, and_true, true_and])) ?_)
      refine eN_iload (M := ML_drafts) dL_drafts_381 (pc' := 383) rfl rfl ?_
      refine (ev_if_ne (M := ML_drafts) (t := 390) dL_drafts_383 (by decide) (pc' := 386) rfl).mpr (ifF (by first | assumption | omega | rfl | exact fun q => q (by assumption) | exact fun q => q rfl | (simp (disch := omega) only [nle_t, nle_f, nlt_t, nlt_f, neq_t, neq_f, i_lt0, i_le0, i_0le, i_0lt, i_eq0, i_lt, i_le, i_eq, nI_add, i_sub, i_cl, i_m1a, i_m1b, i_m1c, i_m1d, i_m1e, i_am1, i_ite0, m1_le, m1_m1, m1_ge0, not_true_eq_false, not_false_eq_true, or_self, or_false, false_or, or_true, true_or, and_self, and_true, true_and])) ?_)
      refine (ev_iconst (M := ML_drafts) (v := (nI 0)) rfl dL_drafts_386 (pc' := 387) rfl).mpr ?_
      refine (ev_goto (M := ML_drafts) (pc' := 394) dL_drafts_387 (by decide)).mpr ?_
      refine (ev_istore (M := ML_drafts) dL_drafts_394 (by decide) (pc' := 396) rfl).mpr ?_
      refine eN_iload_n (M := ML_drafts) (k := 3) rfl dL_drafts_396 (pc' := 397) rfl rfl ?_
      refine (ev_iconst (M := ML_drafts) (v := (nI 4)) rfl dL_drafts_397 (pc' := 398) rfl).mpr ?_
      refine eN_irem (M := ML_drafts) dL_drafts_398 (pc' := 399) rfl (by omega) ?_
      refine (ev_if_ne (M := ML_drafts) (t := 416) dL_drafts_399 (by decide) (pc' := 402) rfl).mpr (ifT (by first | assumption | omega | rfl | exact fun q => q (by assumption) | exact fun q => q rfl | (simp (disch := omega) only [nle_t, nle_f, nlt_t, nlt_f, neq_t, neq_f, i_lt0, i_le0, i_0le, i_0lt, i_eq0, i_lt, i_le, i_eq, nI_add, i_sub, i_cl, i_m1a, i_m1b, i_m1c, i_m1d, i_m1e, i_am1, i_ite0, m1_le, m1_m1, m1_ge0, not_true_eq_false, not_false_eq_true, or_self, or_false, false_or, or_true, true_or, and_self, and_true, true_and])) ?_)
      refine eN_iload (M := ML_drafts) dL_drafts_416 (pc' := 418) rfl rfl ?_
      refine (ev_if_ne (M := ML_drafts) (t := 425) dL_drafts_418 (by decide) (pc' := 421) rfl).mpr (ifF (by first | assumption | omega | rfl | exact fun q => q (by assumption) | exact fun q => q rfl | (simp (disch := omega) only [nle_t, nle_f, nlt_t, nlt_f, neq_t, neq_f, i_lt0, i_le0, i_0le, i_0lt, i_eq0, i_lt, i_le, i_eq, nI_add, i_sub, i_cl, i_m1a, i_m1b, i_m1c, i_m1d, i_m1e, i_am1, i_ite0, m1_le, m1_m1, m1_ge0, not_true_eq_false, not_false_eq_true, or_self, or_false, false_or, or_true, true_or, and_self, and_true, true_and])) ?_)
      refine (ev_iconst (M := ML_drafts) (v := (nI 0)) rfl dL_drafts_421 (pc' := 422) rfl).mpr ?_
      refine (ev_goto (M := ML_drafts) (pc' := 426) dL_drafts_422 (by decide)).mpr ?_
      refine (ev_istore (M := ML_drafts) dL_drafts_426 (by decide) (pc' := 428) rfl).mpr ?_
      exact ev_more (by repeat (first | exact trivial | refine ⟨rfl, ?_⟩)) (by exact rfl) (by exact rfl) hq
  · rw [if_neg h] at hp
    have h9 : x % l < l := Nat.mod_lt _ (by omega)
    subst hp
    by_cases h4 : y % 4 = 0
    · rw [if_pos h4] at hm
      subst hm
      refine eN_aload_n (M := ML_drafts) (k := 0) rfl dL_drafts_0 (pc' := 1) rfl rfl ?_
      refine (ev_cV0 (M := ML_drafts) (kk := 8) dL_drafts_1 c_9_129 mX6_draftLength rfl rfl (by decide) rfl (pc' := 4) rfl).mpr ⟨(by assumption), (Nat.le_of_ble_eq_true rfl), eN_c c1 (by first | rfl | (simp (disch := omega) only [nI_add, i_sub]) | (simp only [*])) ?_⟩
      refine (ev_istore (M := ML_drafts) dL_drafts_4 (by decide) (pc' := 6) rfl).mpr ?_
      refine eN_iload_n (M := ML_drafts) (k := 1) rfl dL_drafts_6 (pc' := 7) rfl rfl ?_
      refine (ev_if_ne (M := ML_drafts) (t := 125) dL_drafts_7 (by decide) (pc' := 10) rfl).mpr (ifT (by first | assumption | omega | rfl | exact fun q => q (by assumption) | exact fun q => q rfl | (simp (disch := omega) only [nle_t, nle_f, nlt_t, nlt_f, neq_t, neq_f, i_lt0, i_le0, i_0le, i_0lt, i_eq0, i_lt, i_le, i_eq, nI_add, i_sub, i_cl, i_m1a, i_m1b, i_m1c, i_m1d, i_m1e, i_am1, i_ite0, m1_le, m1_m1, m1_ge0, not_true_eq_false, not_false_eq_true, or_self, or_false, false_or, or_true, true_or, and_self, and_true, true_and])) ?_)
      refine eN_iload_n (M := ML_drafts) (k := 1) rfl dL_drafts_125 (pc' := 126) rfl rfl ?_
      refine (ev_iconst (M := ML_drafts) (v := (nI 1)) rfl dL_drafts_126 (pc' := 127) rfl).mpr ?_
      refine (ev_icmp_ne (M := ML_drafts) (t := 285) dL_drafts_127 (by decide) (pc' := 130) rfl).mpr (ifT (by first | assumption | omega | rfl | exact fun q => q (by assumption) | exact fun q => q rfl | (simp (disch := omega) only [nle_t, nle_f, nlt_t, nlt_f, neq_t, neq_f, i_lt0, i_le0, i_0le, i_0lt, i_eq0, i_lt, i_le, i_eq, nI_add, i_sub, i_cl, i_m1a, i_m1b, i_m1c, i_m1d, i_m1e, i_am1, i_ite0, m1_le, m1_m1, m1_ge0, not_true_eq_false, not_false_eq_true, or_self, or_false, false_or, or_true, true_or, and_self, and_true, true_and])) ?_)
      refine eN_iload_n (M := ML_drafts) (k := 1) rfl dL_drafts_285 (pc' := 286) rfl rfl ?_
      refine (ev_iconst (M := ML_drafts) (v := (nI 2)) rfl dL_drafts_286 (pc' := 287) rfl).mpr ?_
      refine (ev_icmp_ne (M := ML_drafts) (t := 381) dL_drafts_287 (by decide) (pc' := 290) rfl).mpr (ifT (by first | assumption | omega | rfl | exact fun q => q (by assumption) | exact fun q => q rfl | (simp (disch := omega) only [nle_t, nle_f, nlt_t, nlt_f, neq_t, neq_f, i_lt0, i_le0, i_0le, i_0lt, i_eq0, i_lt, i_le, i_eq, nI_add, i_sub, i_cl, i_m1a, i_m1b, i_m1c, i_m1d, i_m1e, i_am1, i_ite0, m1_le, m1_m1, m1_ge0, not_true_eq_false, not_false_eq_true, or_self, or_false, false_or, or_true, true_or, and_self, and_true, true_and])) ?_)
      refine eN_iload (M := ML_drafts) dL_drafts_381 (pc' := 383) rfl rfl ?_
      refine (ev_if_ne (M := ML_drafts) (t := 390) dL_drafts_383 (by decide) (pc' := 386) rfl).mpr (ifT (by first | assumption | omega | rfl | exact fun q => q (by assumption) | exact fun q => q rfl | (simp (disch := omega) only [nle_t, nle_f, nlt_t, nlt_f, neq_t, neq_f, i_lt0, i_le0, i_0le, i_0lt, i_eq0, i_lt, i_le, i_eq, nI_add, i_sub, i_cl, i_m1a, i_m1b, i_m1c, i_m1d, i_m1e, i_am1, i_ite0, m1_le, m1_m1, m1_ge0, not_true_eq_false, not_false_eq_true, or_self, or_false, false_or, or_true, true_or, and_self, and_true, true_and])) ?_)
      refine eN_iload_n (M := ML_drafts) (k := 2) rfl dL_drafts_390 (pc' := 391) rfl rfl ?_
      refine eN_iload (M := ML_drafts) dL_drafts_391 (pc' := 393) rfl rfl ?_
      refine eN_irem (M := ML_drafts) dL_drafts_393 (pc' := 394) rfl (by omega) ?_
      refine (ev_istore (M := ML_drafts) dL_drafts_394 (by decide) (pc' := 396) rfl).mpr ?_
      refine eN_iload_n (M := ML_drafts) (k := 3) rfl dL_drafts_396 (pc' := 397) rfl rfl ?_
      refine (ev_iconst (M := ML_drafts) (v := (nI 4)) rfl dL_drafts_397 (pc' := 398) rfl).mpr ?_
      refine eN_irem (M := ML_drafts) dL_drafts_398 (pc' := 399) rfl (by omega) ?_
      refine (ev_if_ne (M := ML_drafts) (t := 416) dL_drafts_399 (by decide) (pc' := 402) rfl).mpr (ifF (by first | assumption | omega | rfl | exact fun q => q (by assumption) | exact fun q => q rfl | (simp (disch := omega) only [nle_t, nle_f, nlt_t, nlt_f, neq_t, neq_f, i_lt0, i_le0, i_0le, i_0lt, i_eq0, i_lt, i_le, i_eq, nI_add, i_sub, i_cl, i_m1a, i_m1b, i_m1c, i_m1d, i_m1e, i_am1, i_ite0, m1_le, m1_m1, m1_ge0, not_true_eq_false, not_false_eq_true, or_self, or_false, false_or, or_true, true_or, and_self, and_true, true_and])) ?_)
      refine eN_iload_n (M := ML_drafts) (k := 3) rfl dL_drafts_402 (pc' := 403) rfl rfl ?_
      refine (ev_iconst (M := ML_drafts) (v := (nI 4)) rfl dL_drafts_403 (pc' := 404) rfl).mpr ?_
      refine eN_idiv (M := ML_drafts) dL_drafts_404 (pc' := 405) rfl (by omega) ?_
      refine eN_iload (M := ML_drafts) dL_drafts_405 (pc' := 407) rfl rfl ?_
      refine eN_iload (M := ML_drafts) dL_drafts_407 (pc' := 409) rfl rfl ?_
      refine eN_isub (M := ML_drafts) dL_drafts_409 (pc' := 410) rfl (by omega) ?_
      refine (ev_iconst (M := ML_drafts) (v := (nI 1)) rfl dL_drafts_410 (pc' := 411) rfl).mpr ?_
      refine eN_iadd (M := ML_drafts) dL_drafts_411 (pc' := 412) rfl ?_
      refine eN_irem (M := ML_drafts) dL_drafts_412 (pc' := 413) rfl (by omega) ?_
      refine (ev_goto (M := ML_drafts) (pc' := 426) dL_drafts_413 (by decide)).mpr ?_
      refine (ev_istore (M := ML_drafts) dL_drafts_426 (by decide) (pc' := 428) rfl).mpr ?_
      exact ev_more (by repeat (first | exact trivial | refine ⟨rfl, ?_⟩)) (by exact rfl) (by exact rfl) hq
    · rw [if_neg h4, if_neg h] at hm
      subst hm
      refine eN_aload_n (M := ML_drafts) (k := 0) rfl dL_drafts_0 (pc' := 1) rfl rfl ?_
      refine (ev_cV0 (M := ML_drafts) (kk := 8) dL_drafts_1 c_9_129 mX6_draftLength rfl rfl (by decide) rfl (pc' := 4) rfl).mpr ⟨(by assumption), (Nat.le_of_ble_eq_true rfl), eN_c c1 (by first | rfl | (simp (disch := omega) only [nI_add, i_sub]) | (simp only [*])) ?_⟩
      refine (ev_istore (M := ML_drafts) dL_drafts_4 (by decide) (pc' := 6) rfl).mpr ?_
      refine eN_iload_n (M := ML_drafts) (k := 1) rfl dL_drafts_6 (pc' := 7) rfl rfl ?_
      refine (ev_if_ne (M := ML_drafts) (t := 125) dL_drafts_7 (by decide) (pc' := 10) rfl).mpr (ifT (by first | assumption | omega | rfl | exact fun q => q (by assumption) | exact fun q => q rfl | (simp (disch := omega) only [nle_t, nle_f, nlt_t, nlt_f, neq_t, neq_f, i_lt0, i_le0, i_0le, i_0lt, i_eq0, i_lt, i_le, i_eq, nI_add, i_sub, i_cl, i_m1a, i_m1b, i_m1c, i_m1d, i_m1e, i_am1, i_ite0, m1_le, m1_m1, m1_ge0, not_true_eq_false, not_false_eq_true, or_self, or_false, false_or, or_true, true_or, and_self, and_true, true_and])) ?_)
      refine eN_iload_n (M := ML_drafts) (k := 1) rfl dL_drafts_125 (pc' := 126) rfl rfl ?_
      refine (ev_iconst (M := ML_drafts) (v := (nI 1)) rfl dL_drafts_126 (pc' := 127) rfl).mpr ?_
      refine (ev_icmp_ne (M := ML_drafts) (t := 285) dL_drafts_127 (by decide) (pc' := 130) rfl).mpr (ifT (by first | assumption | omega | rfl | exact fun q => q (by assumption) | exact fun q => q rfl | (simp (disch := omega) only [nle_t, nle_f, nlt_t, nlt_f, neq_t, neq_f, i_lt0, i_le0, i_0le, i_0lt, i_eq0, i_lt, i_le, i_eq, nI_add, i_sub, i_cl, i_m1a, i_m1b, i_m1c, i_m1d, i_m1e, i_am1, i_ite0, m1_le, m1_m1, m1_ge0, not_true_eq_false, not_false_eq_true, or_self, or_false, false_or, or_true, true_or, and_self, and_true, true_and])) ?_)
      refine eN_iload_n (M := ML_drafts) (k := 1) rfl dL_drafts_285 (pc' := 286) rfl rfl ?_
      refine (ev_iconst (M := ML_drafts) (v := (nI 2)) rfl dL_drafts_286 (pc' := 287) rfl).mpr ?_
      refine (ev_icmp_ne (M := ML_drafts) (t := 381) dL_drafts_287 (by decide) (pc' := 290) rfl).mpr (ifT (by first | assumption | omega | rfl | exact fun q => q (by assumption) | exact fun q => q rfl | (simp (disch := omega) only [nle_t, nle_f, nlt_t, nlt_f, neq_t, neq_f, i_lt0, i_le0, i_0le, i_0lt, i_eq0, i_lt, i_le, i_eq, nI_add, i_sub, i_cl, i_m1a, i_m1b, i_m1c, i_m1d, i_m1e, i_am1, i_ite0, m1_le, m1_m1, m1_ge0, not_true_eq_false, not_false_eq_true, or_self, or_false, false_or, or_true, true_or, and_self, and_true, true_and])) ?_)
      refine eN_iload (M := ML_drafts) dL_drafts_381 (pc' := 383) rfl rfl ?_
      refine (ev_if_ne (M := ML_drafts) (t := 390) dL_drafts_383 (by decide) (pc' := 386) rfl).mpr (ifT (by first | assumption | omega | rfl | exact fun q => q (by assumption) | exact fun q => q rfl | (simp (disch := omega) only [nle_t, nle_f, nlt_t, nlt_f, neq_t, neq_f, i_lt0, i_le0, i_0le, i_0lt, i_eq0, i_lt, i_le, i_eq, nI_add, i_sub, i_cl, i_m1a, i_m1b, i_m1c, i_m1d, i_m1e, i_am1, i_ite0, m1_le, m1_m1, m1_ge0, not_true_eq_false, not_false_eq_true, or_self, or_false, false_or, or_true, true_or, and_self, and_true, true_and])) ?_)
      refine eN_iload_n (M := ML_drafts) (k := 2) rfl dL_drafts_390 (pc' := 391) rfl rfl ?_
      refine eN_iload (M := ML_drafts) dL_drafts_391 (pc' := 393) rfl rfl ?_
      refine eN_irem (M := ML_drafts) dL_drafts_393 (pc' := 394) rfl (by omega) ?_
      refine (ev_istore (M := ML_drafts) dL_drafts_394 (by decide) (pc' := 396) rfl).mpr ?_
      refine eN_iload_n (M := ML_drafts) (k := 3) rfl dL_drafts_396 (pc' := 397) rfl rfl ?_
      refine (ev_iconst (M := ML_drafts) (v := (nI 4)) rfl dL_drafts_397 (pc' := 398) rfl).mpr ?_
      refine eN_irem (M := ML_drafts) dL_drafts_398 (pc' := 399) rfl (by omega) ?_
      refine (ev_if_ne (M := ML_drafts) (t := 416) dL_drafts_399 (by decide) (pc' := 402) rfl).mpr (ifT (by first | assumption | omega | rfl | exact fun q => q (by assumption) | exact fun q => q rfl | (simp (disch := omega) only [nle_t, nle_f, nlt_t, nlt_f, neq_t, neq_f, i_lt0, i_le0, i_0le, i_0lt, i_eq0, i_lt, i_le, i_eq, nI_add, i_sub, i_cl, i_m1a, i_m1b, i_m1c, i_m1d, i_m1e, i_am1, i_ite0, m1_le, m1_m1, m1_ge0, not_true_eq_false, not_false_eq_true, or_self, or_false, false_or, or_true, true_or, and_self, and_true, true_and])) ?_)
      refine eN_iload (M := ML_drafts) dL_drafts_416 (pc' := 418) rfl rfl ?_
      refine (ev_if_ne (M := ML_drafts) (t := 425) dL_drafts_418 (by decide) (pc' := 421) rfl).mpr (ifT (by first | assumption | omega | rfl | exact fun q => q (by assumption) | exact fun q => q rfl | (simp (disch := omega) only [nle_t, nle_f, nlt_t, nlt_f, neq_t, neq_f, i_lt0, i_le0, i_0le, i_0lt, i_eq0, i_lt, i_le, i_eq, nI_add, i_sub, i_cl, i_m1a, i_m1b, i_m1c, i_m1d, i_m1e, i_am1, i_ite0, m1_le, m1_m1, m1_ge0, not_true_eq_false, not_false_eq_true, or_self, or_false, false_or, or_true, true_or, and_self, and_true, true_and])) ?_)
      refine (ev_iconst (M := ML_drafts) (v := (nI 1)) rfl dL_drafts_425 (pc' := 426) rfl).mpr ?_
      refine (ev_istore (M := ML_drafts) dL_drafts_426 (by decide) (pc' := 428) rfl).mpr ?_
      exact ev_more (by repeat (first | exact trivial | refine ⟨rfl, ?_⟩)) (by exact rfl) (by exact rfl) hq
theorem Z_dre (k8 : tK T X = 8) (k8' : tK T' X = 8) (hl : l ≤ 240) (hpm : p + m < l) (he : e < 256) (c1 : Call (d + 4) 86 [.ref X, .int (nI (p + m))] T (.inl (some (.int (nI e)))) T) (c2 : Call (d + 4) 83 [.ref X, .int (nI p), .int (nI m)] T (.inl (some (.int (nI (l - m))))) T') (c3 : Call (d + 4) 86 [.ref X, .int (nI p)] T' (.inl (some (.int (nI e)))) T') (hQ : Q (.inl (some (.int (nI 1)))) T') : Ev (d + 4) ML_drafts [] 428 [(7, .int (nI m)), (6, .int (nI p)), (5, .int (nI l)), (0, .ref X)] [] T Q := by
  refine eN_iload (M := ML_drafts) dL_drafts_428 (pc' := 430) rfl rfl ?_
  refine eN_iload (M := ML_drafts) dL_drafts_430 (pc' := 432) rfl rfl ?_
  refine eN_iadd (M := ML_drafts) dL_drafts_432 (pc' := 433) rfl ?_
  refine eN_iload (M := ML_drafts) dL_drafts_433 (pc' := 435) rfl rfl ?_
  refine (ev_icmp_ge (M := ML_drafts) (t := 450) dL_drafts_435 (by decide) (pc' := 438) rfl).mpr (ifF (by first | assumption | omega | rfl | exact fun q => q (by assumption) | exact fun q => q rfl | (simp (disch := omega) only [nle_t, nle_f, nlt_t, nlt_f, neq_t, neq_f, i_lt0, i_le0, i_0le, i_0lt, i_eq0, i_lt, i_le, i_eq, nI_add, i_sub, i_cl, i_m1a, i_m1b, i_m1c, i_m1d, i_m1e, i_am1, i_ite0, m1_le, m1_m1, m1_ge0, not_true_eq_false, not_false_eq_true, or_self, or_false, false_or, or_true, true_or, and_self, and_true, true_and])) ?_)
  refine eN_aload_n (M := ML_drafts) (k := 0) rfl dL_drafts_438 (pc' := 439) rfl rfl ?_
  refine eN_iload (M := ML_drafts) dL_drafts_439 (pc' := 441) rfl rfl ?_
  refine eN_iload (M := ML_drafts) dL_drafts_441 (pc' := 443) rfl rfl ?_
  refine eN_iadd (M := ML_drafts) dL_drafts_443 (pc' := 444) rfl ?_
  refine (ev_cV1 (M := ML_drafts) (kk := 8) dL_drafts_444 c_9_132 mX6_draftAt rfl rfl (by decide) rfl (pc' := 447) rfl).mpr ⟨(by assumption), (Nat.le_of_ble_eq_true rfl), eN_c c1 (by first | rfl | (simp (disch := omega) only [nI_add, i_sub]) | (simp only [*])) ?_⟩
  refine (ev_goto (M := ML_drafts) (pc' := 451) dL_drafts_447 (by decide)).mpr ?_
  refine (ev_istore (M := ML_drafts) dL_drafts_451 (by decide) (pc' := 453) rfl).mpr ?_
  refine eN_aload_n (M := ML_drafts) (k := 0) rfl dL_drafts_453 (pc' := 454) rfl rfl ?_
  refine eN_iload (M := ML_drafts) dL_drafts_454 (pc' := 456) rfl rfl ?_
  refine eN_iload (M := ML_drafts) dL_drafts_456 (pc' := 458) rfl rfl ?_
  refine (ev_cV2 (M := ML_drafts) (kk := 8) dL_drafts_458 c_9_157 mX6_cut rfl rfl (by decide) rfl (pc' := 461) rfl).mpr ⟨(by assumption), (Nat.le_of_ble_eq_true rfl), eN_c c2 (by first | rfl | (simp (disch := omega) only [nI_add, i_sub]) | (simp only [*])) ?_⟩
  refine eN_iload (M := ML_drafts) dL_drafts_461 (pc' := 463) rfl rfl ?_
  refine eN_iload (M := ML_drafts) dL_drafts_463 (pc' := 465) rfl rfl ?_
  refine eN_isub (M := ML_drafts) dL_drafts_465 (pc' := 466) rfl (by omega) ?_
  refine (ev_icmp_ne (M := ML_drafts) (t := 489) dL_drafts_466 (by decide) (pc' := 469) rfl).mpr (ifF (by first | assumption | omega | rfl | exact fun q => q (by assumption) | exact fun q => q rfl | (simp (disch := omega) only [nle_t, nle_f, nlt_t, nlt_f, neq_t, neq_f, i_lt0, i_le0, i_0le, i_0lt, i_eq0, i_lt, i_le, i_eq, nI_add, i_sub, i_cl, i_m1a, i_m1b, i_m1c, i_m1d, i_m1e, i_am1, i_ite0, m1_le, m1_m1, m1_ge0, not_true_eq_false, not_false_eq_true, or_self, or_false, false_or, or_true, true_or, and_self, and_true, true_and])) ?_)
  refine eN_iload (M := ML_drafts) dL_drafts_469 (pc' := 471) rfl rfl ?_
  refine (ev_if_lt (M := ML_drafts) (t := 485) dL_drafts_471 (by decide) (pc' := 474) rfl).mpr (ifF (by first | assumption | omega | rfl | exact fun q => q (by assumption) | exact fun q => q rfl | (simp (disch := omega) only [nle_t, nle_f, nlt_t, nlt_f, neq_t, neq_f, i_lt0, i_le0, i_0le, i_0lt, i_eq0, i_lt, i_le, i_eq, nI_add, i_sub, i_cl, i_m1a, i_m1b, i_m1c, i_m1d, i_m1e, i_am1, i_ite0, m1_le, m1_m1, m1_ge0, not_true_eq_false, not_false_eq_true, or_self, or_false, false_or, or_true, true_or, and_self, and_true, true_and])) ?_)
  refine eN_aload_n (M := ML_drafts) (k := 0) rfl dL_drafts_474 (pc' := 475) rfl rfl ?_
  refine eN_iload (M := ML_drafts) dL_drafts_475 (pc' := 477) rfl rfl ?_
  refine (ev_cV1 (M := ML_drafts) (kk := 8) dL_drafts_477 c_9_132 mX6_draftAt rfl rfl (by decide) rfl (pc' := 480) rfl).mpr ⟨(by assumption), (Nat.le_of_ble_eq_true rfl), eN_c c3 (by first | rfl | (simp (disch := omega) only [nI_add, i_sub]) | (simp only [*])) ?_⟩
  refine eN_iload (M := ML_drafts) dL_drafts_480 (pc' := 482) rfl rfl ?_
  refine (ev_icmp_ne (M := ML_drafts) (t := 489) dL_drafts_482 (by decide) (pc' := 485) rfl).mpr (ifF (by first | assumption | omega | rfl | exact fun q => q (by assumption) | exact fun q => q rfl | (simp (disch := omega) only [nle_t, nle_f, nlt_t, nlt_f, neq_t, neq_f, i_lt0, i_le0, i_0le, i_0lt, i_eq0, i_lt, i_le, i_eq, nI_add, i_sub, i_cl, i_m1a, i_m1b, i_m1c, i_m1d, i_m1e, i_am1, i_ite0, m1_le, m1_m1, m1_ge0, not_true_eq_false, not_false_eq_true, or_self, or_false, false_or, or_true, true_or, and_self, and_true, true_and])) ?_)
  refine (ev_iconst (M := ML_drafts) (v := (nI 1)) rfl dL_drafts_485 (pc' := 486) rfl).mpr ?_
  refine (ev_goto (M := ML_drafts) (pc' := 490) dL_drafts_486 (by decide)).mpr ?_
  refine (ev_zretI (M := ML_drafts) rfl dL_drafts_490 (by omega)).mpr ?_
  exact hQ
theorem Z_drf (k8 : tK T X = 8) (k8' : tK T' X = 8) (hl : l ≤ 240) (hpm : p + m = l) (c2 : Call (d + 4) 83 [.ref X, .int (nI p), .int (nI m)] T (.inl (some (.int (nI (l - m))))) T') (hQ : Q (.inl (some (.int (nI 1)))) T') : Ev (d + 4) ML_drafts [] 428 [(7, .int (nI m)), (6, .int (nI p)), (5, .int (nI l)), (0, .ref X)] [] T Q := by
  refine eN_iload (M := ML_drafts) dL_drafts_428 (pc' := 430) rfl rfl ?_
  refine eN_iload (M := ML_drafts) dL_drafts_430 (pc' := 432) rfl rfl ?_
  refine eN_iadd (M := ML_drafts) dL_drafts_432 (pc' := 433) rfl ?_
  refine eN_iload (M := ML_drafts) dL_drafts_433 (pc' := 435) rfl rfl ?_
  refine (ev_icmp_ge (M := ML_drafts) (t := 450) dL_drafts_435 (by decide) (pc' := 438) rfl).mpr (ifT (by first | assumption | omega | rfl | exact fun q => q (by assumption) | exact fun q => q rfl | (simp (disch := omega) only [nle_t, nle_f, nlt_t, nlt_f, neq_t, neq_f, i_lt0, i_le0, i_0le, i_0lt, i_eq0, i_lt, i_le, i_eq, nI_add, i_sub, i_cl, i_m1a, i_m1b, i_m1c, i_m1d, i_m1e, i_am1, i_ite0, m1_le, m1_m1, m1_ge0, not_true_eq_false, not_false_eq_true, or_self, or_false, false_or, or_true, true_or, and_self, and_true, true_and])) ?_)
  refine (ev_iconst (M := ML_drafts) (v := (-1)) rfl dL_drafts_450 (pc' := 451) rfl).mpr ?_
  refine (ev_istore (M := ML_drafts) dL_drafts_451 (by decide) (pc' := 453) rfl).mpr ?_
  refine eN_aload_n (M := ML_drafts) (k := 0) rfl dL_drafts_453 (pc' := 454) rfl rfl ?_
  refine eN_iload (M := ML_drafts) dL_drafts_454 (pc' := 456) rfl rfl ?_
  refine eN_iload (M := ML_drafts) dL_drafts_456 (pc' := 458) rfl rfl ?_
  refine (ev_cV2 (M := ML_drafts) (kk := 8) dL_drafts_458 c_9_157 mX6_cut rfl rfl (by decide) rfl (pc' := 461) rfl).mpr ⟨(by assumption), (Nat.le_of_ble_eq_true rfl), eN_c c2 (by first | rfl | (simp (disch := omega) only [nI_add, i_sub]) | (simp only [*])) ?_⟩
  refine eN_iload (M := ML_drafts) dL_drafts_461 (pc' := 463) rfl rfl ?_
  refine eN_iload (M := ML_drafts) dL_drafts_463 (pc' := 465) rfl rfl ?_
  refine eN_isub (M := ML_drafts) dL_drafts_465 (pc' := 466) rfl (by omega) ?_
  refine (ev_icmp_ne (M := ML_drafts) (t := 489) dL_drafts_466 (by decide) (pc' := 469) rfl).mpr (ifF (by first | assumption | omega | rfl | exact fun q => q (by assumption) | exact fun q => q rfl | (simp (disch := omega) only [nle_t, nle_f, nlt_t, nlt_f, neq_t, neq_f, i_lt0, i_le0, i_0le, i_0lt, i_eq0, i_lt, i_le, i_eq, nI_add, i_sub, i_cl, i_m1a, i_m1b, i_m1c, i_m1d, i_m1e, i_am1, i_ite0, m1_le, m1_m1, m1_ge0, not_true_eq_false, not_false_eq_true, or_self, or_false, false_or, or_true, true_or, and_self, and_true, true_and])) ?_)
  refine eN_iload (M := ML_drafts) dL_drafts_469 (pc' := 471) rfl rfl ?_
  refine (ev_if_lt (M := ML_drafts) (t := 485) dL_drafts_471 (by decide) (pc' := 474) rfl).mpr (ifT (by first | assumption | omega | rfl | exact fun q => q (by assumption) | exact fun q => q rfl | (simp (disch := omega) only [nle_t, nle_f, nlt_t, nlt_f, neq_t, neq_f, i_lt0, i_le0, i_0le, i_0lt, i_eq0, i_lt, i_le, i_eq, nI_add, i_sub, i_cl, i_m1a, i_m1b, i_m1c, i_m1d, i_m1e, i_am1, i_ite0, m1_le, m1_m1, m1_ge0, not_true_eq_false, not_false_eq_true, or_self, or_false, false_or, or_true, true_or, and_self, and_true, true_and])) ?_)
  refine (ev_iconst (M := ML_drafts) (v := (nI 1)) rfl dL_drafts_485 (pc' := 486) rfl).mpr ?_
  refine (ev_goto (M := ML_drafts) (pc' := 490) dL_drafts_486 (by decide)).mpr ?_
  refine (ev_zretI (M := ML_drafts) rfl dL_drafts_490 (by omega)).mpr ?_
  exact hQ
end Z
/-- behind a draft's step -/
def dPost (S X G L n0 u0 c : Nat) (na : Nat → Nat) (va ba ca : Nat → Nat) (kl : List Nat) (vf vn : Nat → Nat) (vb ve : Nat → List Nat) (vp : Nat → Option Nat) (nx : Nat → Nat) (sv : Nat) (cb : Nat → List Nat) (us : Nat → Nat) (bl : List Nat) (co : Nat → List Nat) (op : Nat) (cs : List Nat) (hi re st : Nat) (rw : List Nat) (bx : Nat → Nat) (ud : Nat) : Post := fun q T' => q = .inl (some (.int (nI 1))) ∧ ∃ dr', VK S X G L n0 u0 (c + 1) na T' va ba ca dr' kl vf vn vb ve vp nx sv cb us bl co op cs hi re st rw bx ud
theorem dlen (h : XR T X va ba ca dr kl vf vn vb ve vp nx sv cb us bl co op cs hi re st) : dr.length ≤ 240 ∧ ∀ i, i < dr.length → dr.getD i 0 < 256 := ⟨h.2.1.1.2.2.2.2.2.1, fun i hi => h.2.1.2 _ (gD_mem hi)⟩
theorem C_dra0 {x y : Nat} (h : VK S X G L n0 u0 c na T va ba ca dr kl vf vn vb ve vp nx sv cb us bl co op cs hi re st rw bx ud) (hc : c < 512) (hx : x < 2147483648) (hy : y < 2147483648) : CallQ (d + 5) 143 [.ref X, .int (nI 0), .int (nI x), .int (nI y), .ref G] T (dPost S X G L n0 u0 c na va ba ca kl vf vn vb ve vp nx sv cb us bl co op cs hi re st rw bx ud) := by
  have k8 := h.1.k8
  have hX := h.1.1
  have hw := h.2.2.2.1
  have c1 := Call_up (d' := d + 4) (R_draftLength (d := d) hX) (by omega)
  obtain ⟨hl, -⟩ := dlen hX
  rw [uL_drafts]
  have key : ∀ t, t < 256 → Ev (d + 4) ML_drafts [] 51 [(8, .int (nI t)), (7, .int (nI (x / 64 % 256))), (6, .int (nI (1 + x % 64))), (5, .int (nI dr.length)), (0, .ref X)] [] T (dPost S X G L n0 u0 c na va ba ca kl vf vn vb ve vp nx sv cb us bl co op cs hi re st rw bx ud) := by
    intro t ht
    generalize hm : 1 + x % 64 = m
    have hm1 : 1 ≤ m ∧ m ≤ 64 := by omega
    have hs : x / 64 % 256 < 256 := Nat.mod_lt _ (by decide)
    generalize x / 64 % 256 = s at *
    by_cases e : dr.length + m ≤ 240
    · obtain ⟨_, T1, ca1, rfl, xr, F⟩ := X_append3 (d := d) hw hX hs ht hm1.1 hm1.2 e
      have hlen : (dr ++ (List.range m).map (apB s t)).length = dr.length + m := by rw [List.length_append, List.length_map, List.length_range]
      have gat : ∀ i, i < m → (dr ++ (List.range m).map (apB s t)).getD (dr.length + i) 0 = apB s t i := fun i hi => by
        rw [List.getD_eq_getElem?_getD, List.getElem?_append_right (by omega), Nat.add_sub_cancel_left, List.getElem?_map, List.getElem?_range hi]
        rfl
      have a1 := R_dAt (d := d) (j := dr.length) xr (by omega)
      have a2 := R_dAt (d := d) (j := dr.length + (m - 1)) xr (by omega)
      have g0 := gat 0 (by omega)
      rw [Nat.add_zero] at g0
      rw [g0] at a1
      rw [gat (m - 1) (by omega)] at a2
      have e0 : apB s t 0 = s := by unfold apB; omega
      have e1 : apB s t (m - 1) = (s + t * (m - 1)) % 256 := by unfold apB; rw [Nat.mul_comm]
      rw [e0] at a1
      rw [e1, show dr.length + (m - 1) = dr.length + m - 1 by omega] at a2
      have hp : t * (m - 1) ≤ 16065 := Nat.le_trans (Nat.mul_le_mul (show t ≤ 255 by omega) (show m - 1 ≤ 63 by omega)) (by decide)
      exact Z_dr4 k8 xr.1.1 hm1.1 e hs hp ca1 (Call_up a1 (by omega)) (Call_up a2 (by omega)) ⟨rfl, _, h.draft hc xr F⟩
    · exact Z_dr3 hl hm1.2 (by omega) ⟨rfl, _, h.c1 hc⟩
  by_cases e : y % 3 = 0
  · exact Z_dr1 k8 hl hx hy e c1 (key _ (Nat.mod_lt _ (by decide)))
  · exact Z_dr2 k8 hl hx hy e c1 (key _ (by omega))
theorem acG_at {k a b : Nat} (h : LV T X va ba ca dr kl vf vn vb ve vp nx sv cb us bl co op cs hi re st rw bx ud) (hk : k ∈ kl) (hab : a + b ≤ (vb k).length) : acG kl vf vn vb (nI (vf k)) (nI (vn k)) (nI a) (nI b) = some (k, a, b) := by
  have hl := (h.lens hk).1
  unfold acG
  rw [h.fvk hk, Option.bind_some]
  unfold spn
  rw [if_neg (fun q => by rw [i_lt0 (by omega), i_lt0 (by omega)] at q; exact q.elim id id), i_cl (by omega), i_cl (by omega), if_pos hab]
  rfl
theorem C_dra1 {x y : Nat} (h : VK S X G L n0 u0 c na T va ba ca dr kl vf vn vb ve vp nx sv cb us bl co op cs hi re st rw bx ud) (hc : c < 512) (hx : x < 2147483648) (hy : y < 2147483648) : CallQ (d + 5) 143 [.ref X, .int (nI 1), .int (nI x), .int (nI y), .ref G] T (dPost S X G L n0 u0 c na va ba ca kl vf vn vb ve vp nx sv cb us bl co op cs hi re st rw bx ud) := by
  have k8 := h.1.k8
  have hX := h.1.1
  have hw := h.2.2.2.1
  have hg := h.2.2.2.2.1
  have c1 := Call_up (d' := d + 4) (R_draftLength (d := d) hX) (by omega)
  obtain ⟨hl, -⟩ := dlen hX
  rw [uL_drafts]
  obtain ⟨r1, T0, c2, e0, h1⟩ := C_kept (d := d + 2) (T := T) (G := G) (f := x % 6) (s := y % 64) hg.1 hg.2.1 (by omega) (by omega)
  subst e0
  rcases h1 with rfl | ⟨v, hv, hb, rfl⟩
  · exact Z_dr5 k8 hl hx hy c1 c2 ⟨rfl, _, h.c1 hc⟩
  · obtain ⟨k, hk, e1, e2⟩ := hg.ex (by omega) hv hb
    have c3 := h.1.length (d := d) hk
    have hn := (h.1.lens hk).1
    rw [e1, e2] at c3
    refine Z_dr6 k8 hl hx hy hv hn rfl rfl c1 c2 c3 ?_
    generalize ha : (if (vb k).length = 0 then 0 else x / 6 % (vb k).length) = a
    generalize hb9 : (if (vb k).length = 0 then 0 else y / 64 % ((vb k).length - a + 1)) = b
    have hab : a + b ≤ (vb k).length := by
      by_cases e : (vb k).length = 0
      · rw [if_pos e] at ha hb9; omega
      · rw [if_neg e] at ha hb9
        have q1 : a < (vb k).length := by rw [← ha]; exact Nat.mod_lt _ (by omega)
        have q2 : b < (vb k).length - a + 1 := by rw [← hb9]; exact Nat.mod_lt _ (by omega)
        omega
    clear ha hb9
    by_cases e : dr.length + b ≤ 240
    · obtain ⟨_, T1, ca1, rfl, xr, F⟩ := X_copy3 (d := d) hw hX (acG_at h.1 hk hab) e (h.1.bytes hk)
      rw [e1, e2] at ca1
      by_cases eb : b = 0
      · exact Z_dr8 k8 xr.1.1 hv e eb ca1 ⟨rfl, _, h.draft hc xr F⟩
      · have hlen : (dr ++ ((vb k).drop a).take b).length = dr.length + b := by rw [List.length_append, List.length_take, List.length_drop]; omega
        have gat : (dr ++ ((vb k).drop a).take b).getD (dr.length + b - 1) 0 = (vb k).getD (a + b - 1) 0 := by
          rw [List.getD_eq_getElem?_getD, List.getElem?_append_right (by omega), List.getElem?_take, if_pos (by omega), List.getElem?_drop, ← List.getD_eq_getElem?_getD]
          congr 1
          omega
        have a1 := R_dAt (d := d) (j := dr.length + b - 1) xr (by omega)
        rw [gat] at a1
        have h' := h.draft hc xr F
        have a2 := h'.1.byteAt (d := d) (j := a + b - 1) hk (by omega)
        rw [e1, e2] at a2
        exact Z_dr9 k8 xr.1.1 hv e (by omega) (by omega) (h.1.bytes hk _ (gD_mem (by omega))) ca1 (Call_up a1 (by omega)) a2 ⟨rfl, _, h'⟩
    · exact Z_dr7 hl hv (by omega) (by omega) ⟨rfl, _, h.c1 hc⟩
theorem C_dra2 {x y : Nat} (h : VK S X G L n0 u0 c na T va ba ca dr kl vf vn vb ve vp nx sv cb us bl co op cs hi re st rw bx ud) (hc : c < 512) (hx : x < 2147483648) (hy : y < 2147483648) : CallQ (d + 5) 143 [.ref X, .int (nI 2), .int (nI x), .int (nI y), .ref G] T (dPost S X G L n0 u0 c na va ba ca kl vf vn vb ve vp nx sv cb us bl co op cs hi re st rw bx ud) := by
  have k8 := h.1.k8
  have hX := h.1.1
  have hw := h.2.2.2.1
  have c1 := Call_up (d' := d + 4) (R_draftLength (d := d) hX) (by omega)
  obtain ⟨hl, hb⟩ := dlen hX
  rw [uL_drafts]
  by_cases e : dr.length = 240
  · rw [e] at c1
    have hb9 : dr.getD (x % 241) 0 < 256 := by
      by_cases q : x % 241 < dr.length
      · exact hb _ q
      · rw [List.getD_eq_getElem?_getD, List.getElem?_eq_none (by omega)]; decide
    exact Z_drc k8 hx hy hb9 rfl c1 (fun q => Call_up (R_dAt (d := d) hX (by omega)) (by omega)) ⟨rfl, _, h.c1 hc⟩
  · have hp : x % (dr.length + 1) < dr.length + 1 := Nat.mod_lt _ (by omega)
    have hy9 : y % 256 < 256 := Nat.mod_lt _ (by decide)
    obtain ⟨_, T1, ca1, rfl, xr, F⟩ := X_insert4 (d := d + 2) (p := x % (dr.length + 1)) (v := y % 256) hw hX (by omega) hy9 (by omega)
    have hlen : (dr.insertIdx (x % (dr.length + 1)) (y % 256)).length = dr.length + 1 := List.length_insertIdx_of_le_length (by omega) _
    have a1 := R_dAt (d := d) (j := x % (dr.length + 1)) xr (by omega)
    rw [getD_ins dr _ _ (by omega), if_neg (by omega), if_pos rfl] at a1
    by_cases q : x % (dr.length + 1) < dr.length
    · have a2 := R_dAt (d := d) (j := x % (dr.length + 1) + 1) xr (by omega)
      rw [getD_ins dr _ _ (by omega), if_neg (by omega), if_neg (by omega), Nat.add_sub_cancel] at a2
      exact Z_dra k8 (by omega) hx hy rfl q (hb _ q) xr.1.1 c1 (Call_up (R_dAt (d := d) hX q) (by omega)) ca1 (Call_up a1 (by omega)) (Call_up a2 (by omega)) ⟨rfl, _, h.draft hc xr F⟩
    · have e9 : x % (dr.length + 1) = dr.length := by omega
      exact Z_drb k8 (by omega) hx hy rfl e9 xr.1.1 c1 ca1 (Call_up a1 (by omega)) ⟨rfl, _, h.draft hc xr F⟩
theorem C_dra3 {x y : Nat} (h : VK S X G L n0 u0 c na T va ba ca dr kl vf vn vb ve vp nx sv cb us bl co op cs hi re st rw bx ud) (hc : c < 512) (hx : x < 2147483648) (hy : y < 2147483648) : CallQ (d + 5) 143 [.ref X, .int (nI 3), .int (nI x), .int (nI y), .ref G] T (dPost S X G L n0 u0 c na va ba ca kl vf vn vb ve vp nx sv cb us bl co op cs hi re st rw bx ud) := by
  have k8 := h.1.k8
  have hX := h.1.1
  have hw := h.2.2.2.1
  have c1 := Call_up (d' := d + 4) (R_draftLength (d := d) hX) (by omega)
  obtain ⟨hl, hb⟩ := dlen hX
  rw [uL_drafts]
  refine Z_drd k8 hl hx hy rfl rfl c1 ?_
  generalize hp : (if dr.length = 0 then 0 else x % dr.length) = p
  generalize hm : (if y % 4 = 0 then y / 4 % (dr.length - p + 1) else if dr.length = 0 then 0 else 1) = m
  have hpm : p + m ≤ dr.length := by
    have q1 : (dr.length = 0 ∧ p = 0) ∨ p < dr.length := by
      by_cases e : dr.length = 0
      · rw [if_pos e] at hp; exact Or.inl ⟨e, hp.symm⟩
      · rw [if_neg e] at hp; exact Or.inr (by rw [← hp]; exact Nat.mod_lt _ (by omega))
    by_cases e4 : y % 4 = 0
    · rw [if_pos e4] at hm
      have q2 : m < dr.length - p + 1 := by rw [← hm]; exact Nat.mod_lt _ (by omega)
      omega
    · rw [if_neg e4] at hm
      by_cases e : dr.length = 0
      · rw [if_pos e] at hm; omega
      · rw [if_neg e] at hm; omega
  clear hp hm
  obtain ⟨_, T1, ca1, rfl, xr, F⟩ := X_cut2 (d := d + 1) hw hX hpm
  by_cases e : p + m < dr.length
  · have hlen : (dr.take p ++ dr.drop (p + m)).length = dr.length - m := by rw [List.length_append, List.length_take, List.length_drop]; omega
    have a2 := R_dAt (d := d) (j := p) xr (by omega)
    rw [getD_cut, if_neg (by omega)] at a2
    exact Z_dre k8 xr.1.1 hl e (hb _ e) (Call_up (R_dAt (d := d) hX e) (by omega)) ca1 (Call_up a2 (by omega)) ⟨rfl, _, h.draft hc xr F⟩
  · exact Z_drf k8 xr.1.1 hl (by omega) ca1 ⟨rfl, _, h.draft hc xr F⟩
end DRA
