/-! one vault: forty steps -/
section VLT
variable {d S X G L n0 u0 c : Nat} {va ba ca : Nat → Nat} {dr kl : List Nat} {vf vn : Nat → Nat} {vb ve : Nat → List Nat} {vp : Nat → Option Nat} {nx na : Nat → Nat} {sv : Nat} {cb : Nat → List Nat} {us : Nat → Nat} {bl cs : List Nat} {co : Nat → List Nat} {op hi re st : Nat} {rw : List Nat} {bx : Nat → Nat} {ud : Nat} {T T' T1 T2 : TS} {Q : Post}
section Z
variable {a k x y w n v l : Nat}
theorem Z_va0 (c0 : Call (d + 10) 79 [.ref (tn T)] (nO 7 T) (.inl none) T1) (hq : Ev (d + 10) ML_vault [] 22 [(5, .int (nI 0)), (4, .ref (tn (nA 22 7 T1))), (3, .ref (tn T1)), (2, .ref (tn T)), (0, .ref S), (1, .int (nI a))] [] (nA 20 6 (nA 22 7 T1)) Q) : Ev (d + 10) ML_vault [] 0 [(0, .ref S), (1, .int (nI a))] [] T Q := by
  refine (ev_new (M := ML_vault) (c := 7) k_9_17 (by decide) dL_vault_0 (pc' := 3) rfl).mpr ?_
  refine (ev_dupR (M := ML_vault) dL_vault_3 (pc' := 4) rfl).mpr ?_
  refine (ev_cI0 (M := ML_vault) dL_vault_4 c_9_160 mX6_init rfl rfl (pc' := 7) rfl).mpr ⟨(Nat.le_of_ble_eq_true rfl), eN_c0 c0 (by first | rfl | (simp (disch := omega) only [nI_add, i_sub]) | (simp only [*])) ?_⟩
  refine (ev_astore_n (M := ML_vault) (k := 2) rfl dL_vault_7 (by decide) (pc' := 8) rfl).mpr ?_
  refine (ev_bipush (M := ML_vault) (v := (nI 7)) rfl dL_vault_8 (pc' := 10) rfl).mpr ?_
  refine (ev_newa (M := ML_vault) (k := 22) rfl (by decide) dL_vault_10 (pc' := 12) rfl).mpr ⟨(by first | assumption | omega | rfl | exact fun q => q (by assumption) | exact fun q => q rfl | (simp (disch := omega) only [nle_t, nle_f, nlt_t, nlt_f, neq_t, neq_f, i_lt0, i_le0, i_0le, i_0lt, i_eq0, i_lt, i_le, i_eq, nI_add, i_sub, i_cl, i_m1a, i_m1b, i_m1c, i_m1d, i_m1e, i_am1, i_ite0, m1_le, m1_m1, m1_ge0, not_true_eq_false, not_false_eq_true, or_self, or_false, false_or, or_true, true_or, and_self, and_true, true_and])), ?_⟩
  refine (ev_astore_n (M := ML_vault) (k := 3) rfl dL_vault_12 (by decide) (pc' := 13) rfl).mpr ?_
  refine (ev_bipush (M := ML_vault) (v := (nI 6)) rfl dL_vault_13 (pc' := 15) rfl).mpr ?_
  refine (ev_newa (M := ML_vault) (k := 20) rfl (by decide) dL_vault_15 (pc' := 17) rfl).mpr ⟨(by first | assumption | omega | rfl | exact fun q => q (by assumption) | exact fun q => q rfl | (simp (disch := omega) only [nle_t, nle_f, nlt_t, nlt_f, neq_t, neq_f, i_lt0, i_le0, i_0le, i_0lt, i_eq0, i_lt, i_le, i_eq, nI_add, i_sub, i_cl, i_m1a, i_m1b, i_m1c, i_m1d, i_m1e, i_am1, i_ite0, m1_le, m1_m1, m1_ge0, not_true_eq_false, not_false_eq_true, or_self, or_false, false_or, or_true, true_or, and_self, and_true, true_and])), ?_⟩
  refine (ev_astore (M := ML_vault) dL_vault_17 (by decide) (pc' := 19) rfl).mpr ?_
  refine (ev_iconst (M := ML_vault) (v := (nI 0)) rfl dL_vault_19 (pc' := 20) rfl).mpr ?_
  refine (ev_istore (M := ML_vault) dL_vault_20 (by decide) (pc' := 22) rfl).mpr ?_
  exact ev_more (by repeat (first | exact trivial | refine ⟨rfl, ?_⟩)) (by exact rfl) (by exact rfl) hq
theorem Z_va1 (ha : a ≤ 250) (hk : k < 40) (hw : (k < 4 ∧ w = 0) ∨ (k = 4 ∧ w = 4) ∨ (4 < k ∧ Call (d + 10) 129 [.ref S, .int (nI (a + 3 * k)), .int (nI 12)] T (.inl (some (.int (nI w)))) T)) (c1 : Call (d + 10) 129 [.ref S, .int (nI (a + 3 * k + 1)), .int (nI 1073741824)] T (.inl (some (.int (nI x)))) T) (c2 : Call (d + 10) 129 [.ref S, .int (nI (a + 3 * k + 2)), .int (nI 1073741824)] T (.inl (some (.int (nI y)))) T) (hq : Ev (d + 10) ML_vault [] 98 [(9, .int (nI 1)), (8, .int (nI w)), (7, .int (nI y)), (6, .int (nI x)), (5, .int (nI k)), (4, .ref (G + 1)), (3, .ref G), (2, .ref X), (0, .ref S), (1, .int (nI a))] [] T Q) : Ev (d + 10) ML_vault [] 22 [(5, .int (nI k)), (4, .ref (G + 1)), (3, .ref G), (2, .ref X), (0, .ref S), (1, .int (nI a))] [] T Q := by
  rcases hw with ⟨h1, rfl⟩ | ⟨h1, rfl⟩ | ⟨h1, c3⟩
  · skip
    refine eN_iload (M := ML_vault) dL_vault_22 (pc' := 24) rfl rfl ?_
    refine (ev_bipush (M := ML_vault) (v := (nI 40)) rfl dL_vault_24 (pc' := 26) rfl).mpr ?_
    refine (ev_icmp_ge (M := ML_vault) (t := 317) dL_vault_26 (by decide) (pc' := 29) rfl).mpr (ifF (by first | assumption | omega | rfl | exact fun q => q (by assumption) | exact fun q => q rfl | (simp (disch := omega) only [nle_t, nle_f, nlt_t, nlt_f, neq_t, neq_f, i_lt0, i_le0, i_0le, i_0lt, i_eq0, i_lt, i_le, i_eq, nI_add, i_sub, i_cl, i_m1a, i_m1b, i_m1c, i_m1d, i_m1e, i_am1, i_ite0, m1_le, m1_m1, m1_ge0, not_true_eq_false, not_false_eq_true, or_self, or_false, false_or, or_true, true_or, and_self, and_true, true_and])) ?_)
    refine eN_aload_n (M := ML_vault) (k := 0) rfl dL_vault_29 (pc' := 30) rfl rfl ?_
    refine eN_iload_n (M := ML_vault) (k := 1) rfl dL_vault_30 (pc' := 31) rfl rfl ?_
    refine (ev_iconst (M := ML_vault) (v := (nI 3)) rfl dL_vault_31 (pc' := 32) rfl).mpr ?_
    refine eN_iload (M := ML_vault) dL_vault_32 (pc' := 34) rfl rfl ?_
    refine eN_imul (M := ML_vault) dL_vault_34 (pc' := 35) rfl ?_
    refine eN_iadd (M := ML_vault) dL_vault_35 (pc' := 36) rfl ?_
    refine (ev_iconst (M := ML_vault) (v := (nI 1)) rfl dL_vault_36 (pc' := 37) rfl).mpr ?_
    refine eN_iadd (M := ML_vault) dL_vault_37 (pc' := 38) rfl ?_
    refine (ev_ldc (M := ML_vault) (v := nI 1073741824) rfl dL_vault_38 (pc' := 40) rfl).mpr ?_
    refine (ev_cS3 (M := ML_vault) dL_vault_40 c_9_162 (by decide) mL_draw rfl rfl (pc' := 43) rfl).mpr ⟨(Nat.le_of_ble_eq_true rfl), eN_c c1 (by first | rfl | (simp (disch := omega) only [nI_add, i_sub]) | (simp only [*])) ?_⟩
    refine (ev_istore (M := ML_vault) dL_vault_43 (by decide) (pc' := 45) rfl).mpr ?_
    refine eN_aload_n (M := ML_vault) (k := 0) rfl dL_vault_45 (pc' := 46) rfl rfl ?_
    refine eN_iload_n (M := ML_vault) (k := 1) rfl dL_vault_46 (pc' := 47) rfl rfl ?_
    refine (ev_iconst (M := ML_vault) (v := (nI 3)) rfl dL_vault_47 (pc' := 48) rfl).mpr ?_
    refine eN_iload (M := ML_vault) dL_vault_48 (pc' := 50) rfl rfl ?_
    refine eN_imul (M := ML_vault) dL_vault_50 (pc' := 51) rfl ?_
    refine eN_iadd (M := ML_vault) dL_vault_51 (pc' := 52) rfl ?_
    refine (ev_iconst (M := ML_vault) (v := (nI 2)) rfl dL_vault_52 (pc' := 53) rfl).mpr ?_
    refine eN_iadd (M := ML_vault) dL_vault_53 (pc' := 54) rfl ?_
    refine (ev_ldc (M := ML_vault) (v := nI 1073741824) rfl dL_vault_54 (pc' := 56) rfl).mpr ?_
    refine (ev_cS3 (M := ML_vault) dL_vault_56 c_9_162 (by decide) mL_draw rfl rfl (pc' := 59) rfl).mpr ⟨(Nat.le_of_ble_eq_true rfl), eN_c c2 (by first | rfl | (simp (disch := omega) only [nI_add, i_sub]) | (simp only [*])) ?_⟩
    refine (ev_istore (M := ML_vault) dL_vault_59 (by decide) (pc' := 61) rfl).mpr ?_
    refine eN_iload (M := ML_vault) dL_vault_61 (pc' := 63) rfl rfl ?_
    refine (ev_iconst (M := ML_vault) (v := (nI 4)) rfl dL_vault_63 (pc' := 64) rfl).mpr ?_
    refine (ev_icmp_ge (M := ML_vault) (t := 71) dL_vault_64 (by decide) (pc' := 67) rfl).mpr (ifF (by first | assumption | omega | rfl | exact fun q => q (by assumption) | exact fun q => q rfl | (simp (disch := omega) only [nle_t, nle_f, nlt_t, nlt_f, neq_t, neq_f, i_lt0, i_le0, i_0le, i_0lt, i_eq0, i_lt, i_le, i_eq, nI_add, i_sub, i_cl, i_m1a, i_m1b, i_m1c, i_m1d, i_m1e, i_am1, i_ite0, m1_le, m1_m1, m1_ge0, not_true_eq_false, not_false_eq_true, or_self, or_false, false_or, or_true, true_or, and_self, and_true, true_and])) ?_)
    refine (ev_iconst (M := ML_vault) (v := (nI 0)) rfl dL_vault_67 (pc' := 68) rfl).mpr ?_
    refine (ev_goto (M := ML_vault) (pc' := 93) dL_vault_68 (by decide)).mpr ?_
    refine (ev_istore (M := ML_vault) dL_vault_93 (by decide) (pc' := 95) rfl).mpr ?_
    refine (ev_iconst (M := ML_vault) (v := (nI 1)) rfl dL_vault_95 (pc' := 96) rfl).mpr ?_
    refine (ev_istore (M := ML_vault) dL_vault_96 (by decide) (pc' := 98) rfl).mpr ?_
    exact ev_more (by repeat (first | exact trivial | refine ⟨rfl, ?_⟩)) (by exact rfl) (by exact rfl) hq
  · have h2 : ¬ k < 4 := by omega
    refine eN_iload (M := ML_vault) dL_vault_22 (pc' := 24) rfl rfl ?_
    refine (ev_bipush (M := ML_vault) (v := (nI 40)) rfl dL_vault_24 (pc' := 26) rfl).mpr ?_
    refine (ev_icmp_ge (M := ML_vault) (t := 317) dL_vault_26 (by decide) (pc' := 29) rfl).mpr (ifF (by first | assumption | omega | rfl | exact fun q => q (by assumption) | exact fun q => q rfl | (simp (disch := omega) only [nle_t, nle_f, nlt_t, nlt_f, neq_t, neq_f, i_lt0, i_le0, i_0le, i_0lt, i_eq0, i_lt, i_le, i_eq, nI_add, i_sub, i_cl, i_m1a, i_m1b, i_m1c, i_m1d, i_m1e, i_am1, i_ite0, m1_le, m1_m1, m1_ge0, not_true_eq_false, not_false_eq_true, or_self, or_false, false_or, or_true, true_or, and_self, and_true, true_and])) ?_)
    refine eN_aload_n (M := ML_vault) (k := 0) rfl dL_vault_29 (pc' := 30) rfl rfl ?_
    refine eN_iload_n (M := ML_vault) (k := 1) rfl dL_vault_30 (pc' := 31) rfl rfl ?_
    refine (ev_iconst (M := ML_vault) (v := (nI 3)) rfl dL_vault_31 (pc' := 32) rfl).mpr ?_
    refine eN_iload (M := ML_vault) dL_vault_32 (pc' := 34) rfl rfl ?_
    refine eN_imul (M := ML_vault) dL_vault_34 (pc' := 35) rfl ?_
    refine eN_iadd (M := ML_vault) dL_vault_35 (pc' := 36) rfl ?_
    refine (ev_iconst (M := ML_vault) (v := (nI 1)) rfl dL_vault_36 (pc' := 37) rfl).mpr ?_
    refine eN_iadd (M := ML_vault) dL_vault_37 (pc' := 38) rfl ?_
    refine (ev_ldc (M := ML_vault) (v := nI 1073741824) rfl dL_vault_38 (pc' := 40) rfl).mpr ?_
    refine (ev_cS3 (M := ML_vault) dL_vault_40 c_9_162 (by decide) mL_draw rfl rfl (pc' := 43) rfl).mpr ⟨(Nat.le_of_ble_eq_true rfl), eN_c c1 (by first | rfl | (simp (disch := omega) only [nI_add, i_sub]) | (simp only [*])) ?_⟩
    refine (ev_istore (M := ML_vault) dL_vault_43 (by decide) (pc' := 45) rfl).mpr ?_
    refine eN_aload_n (M := ML_vault) (k := 0) rfl dL_vault_45 (pc' := 46) rfl rfl ?_
    refine eN_iload_n (M := ML_vault) (k := 1) rfl dL_vault_46 (pc' := 47) rfl rfl ?_
    refine (ev_iconst (M := ML_vault) (v := (nI 3)) rfl dL_vault_47 (pc' := 48) rfl).mpr ?_
    refine eN_iload (M := ML_vault) dL_vault_48 (pc' := 50) rfl rfl ?_
    refine eN_imul (M := ML_vault) dL_vault_50 (pc' := 51) rfl ?_
    refine eN_iadd (M := ML_vault) dL_vault_51 (pc' := 52) rfl ?_
    refine (ev_iconst (M := ML_vault) (v := (nI 2)) rfl dL_vault_52 (pc' := 53) rfl).mpr ?_
    refine eN_iadd (M := ML_vault) dL_vault_53 (pc' := 54) rfl ?_
    refine (ev_ldc (M := ML_vault) (v := nI 1073741824) rfl dL_vault_54 (pc' := 56) rfl).mpr ?_
    refine (ev_cS3 (M := ML_vault) dL_vault_56 c_9_162 (by decide) mL_draw rfl rfl (pc' := 59) rfl).mpr ⟨(Nat.le_of_ble_eq_true rfl), eN_c c2 (by first | rfl | (simp (disch := omega) only [nI_add, i_sub]) | (simp only [*])) ?_⟩
    refine (ev_istore (M := ML_vault) dL_vault_59 (by decide) (pc' := 61) rfl).mpr ?_
    refine eN_iload (M := ML_vault) dL_vault_61 (pc' := 63) rfl rfl ?_
    refine (ev_iconst (M := ML_vault) (v := (nI 4)) rfl dL_vault_63 (pc' := 64) rfl).mpr ?_
    refine (ev_icmp_ge (M := ML_vault) (t := 71) dL_vault_64 (by decide) (pc' := 67) rfl).mpr (ifT (by first | assumption | omega | rfl | exact fun q => q (by assumption) | exact fun q => q rfl | (simp (disch := omega) only [nle_t, nle_f, nlt_t, nlt_f, neq_t, neq_f, i_lt0, i_le0, i_0le, i_0lt, i_eq0, i_lt, i_le, i_eq, nI_add, i_sub, i_cl, i_m1a, i_m1b, i_m1c, i_m1d, i_m1e, i_am1, i_ite0, m1_le, m1_m1, m1_ge0, not_true_eq_false, not_false_eq_true, or_self, or_false, false_or, or_true, true_or, and_self, and_true, true_and])) ?_)
    refine eN_iload (M := ML_vault) dL_vault_71 (pc' := 73) rfl rfl ?_
    refine (ev_iconst (M := ML_vault) (v := (nI 4)) rfl dL_vault_73 (pc' := 74) rfl).mpr ?_
    refine (ev_icmp_ne (M := ML_vault) (t := 81) dL_vault_74 (by decide) (pc' := 77) rfl).mpr (ifF (by first | assumption | omega | rfl | exact fun q => q (by assumption) | exact fun q => q rfl | (simp (disch := omega) only [nle_t, nle_f, nlt_t, nlt_f, neq_t, neq_f, i_lt0, i_le0, i_0le, i_0lt, i_eq0, i_lt, i_le, i_eq, nI_add, i_sub, i_cl, i_m1a, i_m1b, i_m1c, i_m1d, i_m1e, i_am1, i_ite0, m1_le, m1_m1, m1_ge0, not_true_eq_false, not_false_eq_true, or_self, or_false, false_or, or_true, true_or, and_self, and_true, true_and])) ?_)
    refine (ev_iconst (M := ML_vault) (v := (nI 4)) rfl dL_vault_77 (pc' := 78) rfl).mpr ?_
    refine (ev_goto (M := ML_vault) (pc' := 93) dL_vault_78 (by decide)).mpr ?_
    refine (ev_istore (M := ML_vault) dL_vault_93 (by decide) (pc' := 95) rfl).mpr ?_
    refine (ev_iconst (M := ML_vault) (v := (nI 1)) rfl dL_vault_95 (pc' := 96) rfl).mpr ?_
    refine (ev_istore (M := ML_vault) dL_vault_96 (by decide) (pc' := 98) rfl).mpr ?_
    exact ev_more (by repeat (first | exact trivial | refine ⟨rfl, ?_⟩)) (by exact rfl) (by exact rfl) hq
  · have h2 : ¬ k < 4 := by omega
    have h3 : ¬ k = 4 := by omega
    refine eN_iload (M := ML_vault) dL_vault_22 (pc' := 24) rfl rfl ?_
    refine (ev_bipush (M := ML_vault) (v := (nI 40)) rfl dL_vault_24 (pc' := 26) rfl).mpr ?_
    refine (ev_icmp_ge (M := ML_vault) (t := 317) dL_vault_26 (by decide) (pc' := 29) rfl).mpr (ifF (by first | assumption | omega | rfl | exact fun q => q (by assumption) | exact fun q => q rfl | (simp (disch := omega) only [nle_t, nle_f, nlt_t, nlt_f, neq_t, neq_f, i_lt0, i_le0, i_0le, i_0lt, i_eq0, i_lt, i_le, i_eq, nI_add, i_sub, i_cl, i_m1a, i_m1b, i_m1c, i_m1d, i_m1e, i_am1, i_ite0, m1_le, m1_m1, m1_ge0, not_true_eq_false, not_false_eq_true, or_self, or_false, false_or, or_true, true_or, and_self, and_true, true_and])) ?_)
    refine eN_aload_n (M := ML_vault) (k := 0) rfl dL_vault_29 (pc' := 30) rfl rfl ?_
    refine eN_iload_n (M := ML_vault) (k := 1) rfl dL_vault_30 (pc' := 31) rfl rfl ?_
    refine (ev_iconst (M := ML_vault) (v := (nI 3)) rfl dL_vault_31 (pc' := 32) rfl).mpr ?_
    refine eN_iload (M := ML_vault) dL_vault_32 (pc' := 34) rfl rfl ?_
    refine eN_imul (M := ML_vault) dL_vault_34 (pc' := 35) rfl ?_
    refine eN_iadd (M := ML_vault) dL_vault_35 (pc' := 36) rfl ?_
    refine (ev_iconst (M := ML_vault) (v := (nI 1)) rfl dL_vault_36 (pc' := 37) rfl).mpr ?_
    refine eN_iadd (M := ML_vault) dL_vault_37 (pc' := 38) rfl ?_
    refine (ev_ldc (M := ML_vault) (v := nI 1073741824) rfl dL_vault_38 (pc' := 40) rfl).mpr ?_
    refine (ev_cS3 (M := ML_vault) dL_vault_40 c_9_162 (by decide) mL_draw rfl rfl (pc' := 43) rfl).mpr ⟨(Nat.le_of_ble_eq_true rfl), eN_c c1 (by first | rfl | (simp (disch := omega) only [nI_add, i_sub]) | (simp only [*])) ?_⟩
    refine (ev_istore (M := ML_vault) dL_vault_43 (by decide) (pc' := 45) rfl).mpr ?_
    refine eN_aload_n (M := ML_vault) (k := 0) rfl dL_vault_45 (pc' := 46) rfl rfl ?_
    refine eN_iload_n (M := ML_vault) (k := 1) rfl dL_vault_46 (pc' := 47) rfl rfl ?_
    refine (ev_iconst (M := ML_vault) (v := (nI 3)) rfl dL_vault_47 (pc' := 48) rfl).mpr ?_
    refine eN_iload (M := ML_vault) dL_vault_48 (pc' := 50) rfl rfl ?_
    refine eN_imul (M := ML_vault) dL_vault_50 (pc' := 51) rfl ?_
    refine eN_iadd (M := ML_vault) dL_vault_51 (pc' := 52) rfl ?_
    refine (ev_iconst (M := ML_vault) (v := (nI 2)) rfl dL_vault_52 (pc' := 53) rfl).mpr ?_
    refine eN_iadd (M := ML_vault) dL_vault_53 (pc' := 54) rfl ?_
    refine (ev_ldc (M := ML_vault) (v := nI 1073741824) rfl dL_vault_54 (pc' := 56) rfl).mpr ?_
    refine (ev_cS3 (M := ML_vault) dL_vault_56 c_9_162 (by decide) mL_draw rfl rfl (pc' := 59) rfl).mpr ⟨(Nat.le_of_ble_eq_true rfl), eN_c c2 (by first | rfl | (simp (disch := omega) only [nI_add, i_sub]) | (simp only [*])) ?_⟩
    refine (ev_istore (M := ML_vault) dL_vault_59 (by decide) (pc' := 61) rfl).mpr ?_
    refine eN_iload (M := ML_vault) dL_vault_61 (pc' := 63) rfl rfl ?_
    refine (ev_iconst (M := ML_vault) (v := (nI 4)) rfl dL_vault_63 (pc' := 64) rfl).mpr ?_
    refine (ev_icmp_ge (M := ML_vault) (t := 71) dL_vault_64 (by decide) (pc' := 67) rfl).mpr (ifT (by first | assumption | omega | rfl | exact fun q => q (by assumption) | exact fun q => q rfl | (simp (disch := omega) only [nle_t, nle_f, nlt_t, nlt_f, neq_t, neq_f, i_lt0, i_le0, i_0le, i_0lt, i_eq0, i_lt, i_le, i_eq, nI_add, i_sub, i_cl, i_m1a, i_m1b, i_m1c, i_m1d, i_m1e, i_am1, i_ite0, m1_le, m1_m1, m1_ge0, not_true_eq_false, not_false_eq_true, or_self, or_false, false_or, or_true, true_or, and_self, and_true, true_and])) ?_)
    refine eN_iload (M := ML_vault) dL_vault_71 (pc' := 73) rfl rfl ?_
    refine (ev_iconst (M := ML_vault) (v := (nI 4)) rfl dL_vault_73 (pc' := 74) rfl).mpr ?_
    refine (ev_icmp_ne (M := ML_vault) (t := 81) dL_vault_74 (by decide) (pc' := 77) rfl).mpr (ifT (by first | assumption | omega | rfl | exact fun q => q (by assumption) | exact fun q => q rfl | (simp (disch := omega) only [nle_t, nle_f, nlt_t, nlt_f, neq_t, neq_f, i_lt0, i_le0, i_0le, i_0lt, i_eq0, i_lt, i_le, i_eq, nI_add, i_sub, i_cl, i_m1a, i_m1b, i_m1c, i_m1d, i_m1e, i_am1, i_ite0, m1_le, m1_m1, m1_ge0, not_true_eq_false, not_false_eq_true, or_self, or_false, false_or, or_true, true_or, and_self, and_true, true_and])) ?_)
    refine eN_aload_n (M := ML_vault) (k := 0) rfl dL_vault_81 (pc' := 82) rfl rfl ?_
    refine eN_iload_n (M := ML_vault) (k := 1) rfl dL_vault_82 (pc' := 83) rfl rfl ?_
    refine (ev_iconst (M := ML_vault) (v := (nI 3)) rfl dL_vault_83 (pc' := 84) rfl).mpr ?_
    refine eN_iload (M := ML_vault) dL_vault_84 (pc' := 86) rfl rfl ?_
    refine eN_imul (M := ML_vault) dL_vault_86 (pc' := 87) rfl ?_
    refine eN_iadd (M := ML_vault) dL_vault_87 (pc' := 88) rfl ?_
    refine (ev_bipush (M := ML_vault) (v := (nI 12)) rfl dL_vault_88 (pc' := 90) rfl).mpr ?_
    refine (ev_cS3 (M := ML_vault) dL_vault_90 c_9_162 (by decide) mL_draw rfl rfl (pc' := 93) rfl).mpr ⟨(Nat.le_of_ble_eq_true rfl), eN_c c3 (by first | rfl | (simp (disch := omega) only [nI_add, i_sub]) | (simp only [*])) ?_⟩
    refine (ev_istore (M := ML_vault) dL_vault_93 (by decide) (pc' := 95) rfl).mpr ?_
    refine (ev_iconst (M := ML_vault) (v := (nI 1)) rfl dL_vault_95 (pc' := 96) rfl).mpr ?_
    refine (ev_istore (M := ML_vault) dL_vault_96 (by decide) (pc' := 98) rfl).mpr ?_
    exact ev_more (by repeat (first | exact trivial | refine ⟨rfl, ?_⟩)) (by exact rfl) (by exact rfl) hq
theorem Z_va2 (hw : w < 4) (c1 : Call (d + 10) 143 [.ref X, .int (nI w), .int (nI x), .int (nI y), .ref G] T (.inl (some (.int (nI 1)))) T') (hq : Ev (d + 10) ML_vault [] 273 [(9, .int (nI 1)), (7, .int (nI y)), (6, .int (nI x)), (5, .int (nI k)), (4, .ref (G + 1)), (3, .ref G), (2, .ref X), (0, .ref S), (1, .int (nI a))] [] T' Q) : Ev (d + 10) ML_vault [] 98 [(9, .int (nI 1)), (8, .int (nI w)), (7, .int (nI y)), (6, .int (nI x)), (5, .int (nI k)), (4, .ref (G + 1)), (3, .ref G), (2, .ref X), (0, .ref S), (1, .int (nI a))] [] T Q := by
  refine eN_iload (M := ML_vault) dL_vault_98 (pc' := 100) rfl rfl ?_
  refine (ev_iconst (M := ML_vault) (v := (nI 4)) rfl dL_vault_100 (pc' := 101) rfl).mpr ?_
  refine (ev_icmp_ge (M := ML_vault) (t := 120) dL_vault_101 (by decide) (pc' := 104) rfl).mpr (ifF (by first | assumption | omega | rfl | exact fun q => q (by assumption) | exact fun q => q rfl | (simp (disch := omega) only [nle_t, nle_f, nlt_t, nlt_f, neq_t, neq_f, i_lt0, i_le0, i_0le, i_0lt, i_eq0, i_lt, i_le, i_eq, nI_add, i_sub, i_cl, i_m1a, i_m1b, i_m1c, i_m1d, i_m1e, i_am1, i_ite0, m1_le, m1_m1, m1_ge0, not_true_eq_false, not_false_eq_true, or_self, or_false, false_or, or_true, true_or, and_self, and_true, true_and])) ?_)
  refine eN_aload_n (M := ML_vault) (k := 2) rfl dL_vault_104 (pc' := 105) rfl rfl ?_
  refine eN_iload (M := ML_vault) dL_vault_105 (pc' := 107) rfl rfl ?_
  refine eN_iload (M := ML_vault) dL_vault_107 (pc' := 109) rfl rfl ?_
  refine eN_iload (M := ML_vault) dL_vault_109 (pc' := 111) rfl rfl ?_
  refine eN_aload_n (M := ML_vault) (k := 3) rfl dL_vault_111 (pc' := 112) rfl rfl ?_
  refine (ev_cS5 (M := ML_vault) dL_vault_112 c_9_166 (by decide) mL_drafts rfl rfl (pc' := 115) rfl).mpr ⟨(Nat.le_of_ble_eq_true rfl), eN_c c1 (by first | rfl | (simp (disch := omega) only [nI_add, i_sub]) | (simp only [*])) ?_⟩
  refine (ev_istore (M := ML_vault) dL_vault_115 (by decide) (pc' := 117) rfl).mpr ?_
  refine (ev_goto (M := ML_vault) (pc' := 273) dL_vault_117 (by decide)).mpr ?_
  exact ev_more (by repeat (first | exact trivial | refine ⟨rfl, ?_⟩)) (by exact rfl) (by exact rfl) hq
theorem Z_va3 (hw : 4 ≤ w) (hw2 : w < 8) (hx : x < 2147483648) (hn : n < 20) (g1 : tK T (G + 1) = 20) (g2 : tl T (G + 1) = 6) (g3 : tA T (G + 1) (x % 3) = nI v) (k1 : tK T' (G + 1) = 20) (k2 : tl T' (G + 1) = 6) (k3 : tA T' (G + 1) (x % 3) = nI v) (hv : v < 1000000) (c1 : Call (d + 10) 131 [.ref G] T (.inl (some (.int (nI n)))) T) (c2 : Call (d + 10) 140 [.ref X, .ref G, .int (nI (x % 3)), .int (nI v)] T (.inl (some (.int (nI 1)))) T') (hq : Ev (d + 10) ML_vault [] 273 [(9, .int (nI 1)), (7, .int (nI y)), (6, .int (nI x)), (5, .int (nI k)), (4, .ref (G + 1)), (3, .ref G), (2, .ref X), (0, .ref S), (1, .int (nI a))] [] (sA (G + 1) (x % 3) (nI (v + 1)) T') Q) : Ev (d + 10) ML_vault [] 98 [(9, .int (nI 1)), (8, .int (nI w)), (7, .int (nI y)), (6, .int (nI x)), (5, .int (nI k)), (4, .ref (G + 1)), (3, .ref G), (2, .ref X), (0, .ref S), (1, .int (nI a))] [] T Q := by
  refine eN_iload (M := ML_vault) dL_vault_98 (pc' := 100) rfl rfl ?_
  refine (ev_iconst (M := ML_vault) (v := (nI 4)) rfl dL_vault_100 (pc' := 101) rfl).mpr ?_
  refine (ev_icmp_ge (M := ML_vault) (t := 120) dL_vault_101 (by decide) (pc' := 104) rfl).mpr (ifT (by first | assumption | omega | rfl | exact fun q => q (by assumption) | exact fun q => q rfl | (simp (disch := omega) only [nle_t, nle_f, nlt_t, nlt_f, neq_t, neq_f, i_lt0, i_le0, i_0le, i_0lt, i_eq0, i_lt, i_le, i_eq, nI_add, i_sub, i_cl, i_m1a, i_m1b, i_m1c, i_m1d, i_m1e, i_am1, i_ite0, m1_le, m1_m1, m1_ge0, not_true_eq_false, not_false_eq_true, or_self, or_false, false_or, or_true, true_or, and_self, and_true, true_and])) ?_)
  refine eN_iload (M := ML_vault) dL_vault_120 (pc' := 122) rfl rfl ?_
  refine (ev_bipush (M := ML_vault) (v := (nI 8)) rfl dL_vault_122 (pc' := 124) rfl).mpr ?_
  refine (ev_icmp_ge (M := ML_vault) (t := 168) dL_vault_124 (by decide) (pc' := 127) rfl).mpr (ifF (by first | assumption | omega | rfl | exact fun q => q (by assumption) | exact fun q => q rfl | (simp (disch := omega) only [nle_t, nle_f, nlt_t, nlt_f, neq_t, neq_f, i_lt0, i_le0, i_0le, i_0lt, i_eq0, i_lt, i_le, i_eq, nI_add, i_sub, i_cl, i_m1a, i_m1b, i_m1c, i_m1d, i_m1e, i_am1, i_ite0, m1_le, m1_m1, m1_ge0, not_true_eq_false, not_false_eq_true, or_self, or_false, false_or, or_true, true_or, and_self, and_true, true_and])) ?_)
  refine eN_iload (M := ML_vault) dL_vault_127 (pc' := 129) rfl rfl ?_
  refine (ev_iconst (M := ML_vault) (v := (nI 3)) rfl dL_vault_129 (pc' := 130) rfl).mpr ?_
  refine eN_irem (M := ML_vault) dL_vault_130 (pc' := 131) rfl (by omega) ?_
  refine (ev_istore (M := ML_vault) dL_vault_131 (by decide) (pc' := 133) rfl).mpr ?_
  refine eN_aload_n (M := ML_vault) (k := 3) rfl dL_vault_133 (pc' := 134) rfl rfl ?_
  refine (ev_cS1 (M := ML_vault) dL_vault_134 c_9_140 (by decide) mL_many rfl rfl (pc' := 137) rfl).mpr ⟨(Nat.le_of_ble_eq_true rfl), eN_c c1 (by first | rfl | (simp (disch := omega) only [nI_add, i_sub]) | (simp only [*])) ?_⟩
  refine (ev_bipush (M := ML_vault) (v := (nI 20)) rfl dL_vault_137 (pc' := 139) rfl).mpr ?_
  refine (ev_icmp_ge (M := ML_vault) (t := 165) dL_vault_139 (by decide) (pc' := 142) rfl).mpr (ifF (by first | assumption | omega | rfl | exact fun q => q (by assumption) | exact fun q => q rfl | (simp (disch := omega) only [nle_t, nle_f, nlt_t, nlt_f, neq_t, neq_f, i_lt0, i_le0, i_0le, i_0lt, i_eq0, i_lt, i_le, i_eq, nI_add, i_sub, i_cl, i_m1a, i_m1b, i_m1c, i_m1d, i_m1e, i_am1, i_ite0, m1_le, m1_m1, m1_ge0, not_true_eq_false, not_false_eq_true, or_self, or_false, false_or, or_true, true_or, and_self, and_true, true_and])) ?_)
  refine eN_aload_n (M := ML_vault) (k := 2) rfl dL_vault_142 (pc' := 143) rfl rfl ?_
  refine eN_aload_n (M := ML_vault) (k := 3) rfl dL_vault_143 (pc' := 144) rfl rfl ?_
  refine eN_iload (M := ML_vault) dL_vault_144 (pc' := 146) rfl rfl ?_
  refine eN_aload (M := ML_vault) dL_vault_146 (pc' := 148) rfl rfl ?_
  refine eN_iload (M := ML_vault) dL_vault_148 (pc' := 150) rfl rfl ?_
  refine eN_iaload (M := ML_vault) dL_vault_150 (pc' := 151) rfl (by assumption) (by assumption) (by omega) ?_
  rw [g3]
  refine (ev_cS4 (M := ML_vault) dL_vault_151 c_9_170 (by decide) mL_saves rfl rfl (pc' := 154) rfl).mpr ⟨(Nat.le_of_ble_eq_true rfl), eN_c c2 (by first | rfl | (simp (disch := omega) only [nI_add, i_sub]) | (simp only [*])) ?_⟩
  refine (ev_istore (M := ML_vault) dL_vault_154 (by decide) (pc' := 156) rfl).mpr ?_
  refine eN_aload (M := ML_vault) dL_vault_156 (pc' := 158) rfl rfl ?_
  refine eN_iload (M := ML_vault) dL_vault_158 (pc' := 160) rfl rfl ?_
  refine (ev_dup2 (M := ML_vault) dL_vault_160 (pc' := 161) rfl).mpr ?_
  refine eN_iaload (M := ML_vault) dL_vault_161 (pc' := 162) rfl (by assumption) (by assumption) (by omega) ?_
  rw [k3]
  refine (ev_iconst (M := ML_vault) (v := (nI 1)) rfl dL_vault_162 (pc' := 163) rfl).mpr ?_
  refine eN_iadd (M := ML_vault) dL_vault_163 (pc' := 164) rfl ?_
  refine eN_iastore (M := ML_vault) dL_vault_164 (pc' := 165) rfl (by assumption) (by assumption) (by omega) ?_
  refine (ev_goto (M := ML_vault) (pc' := 273) dL_vault_165 (by decide)).mpr ?_
  exact ev_more (by repeat (first | exact trivial | refine ⟨rfl, ?_⟩)) (by exact rfl) (by exact rfl) hq
theorem Z_va4 (hw : 4 ≤ w) (hw2 : w < 8) (hx : x < 2147483648) (hn : 20 ≤ n) (hn2 : n < 1000) (c1 : Call (d + 10) 131 [.ref G] T (.inl (some (.int (nI n)))) T) (hq : Ev (d + 10) ML_vault [] 273 [(9, .int (nI 1)), (7, .int (nI y)), (6, .int (nI x)), (5, .int (nI k)), (4, .ref (G + 1)), (3, .ref G), (2, .ref X), (0, .ref S), (1, .int (nI a))] [] T Q) : Ev (d + 10) ML_vault [] 98 [(9, .int (nI 1)), (8, .int (nI w)), (7, .int (nI y)), (6, .int (nI x)), (5, .int (nI k)), (4, .ref (G + 1)), (3, .ref G), (2, .ref X), (0, .ref S), (1, .int (nI a))] [] T Q := by
  refine eN_iload (M := ML_vault) dL_vault_98 (pc' := 100) rfl rfl ?_
  refine (ev_iconst (M := ML_vault) (v := (nI 4)) rfl dL_vault_100 (pc' := 101) rfl).mpr ?_
  refine (ev_icmp_ge (M := ML_vault) (t := 120) dL_vault_101 (by decide) (pc' := 104) rfl).mpr (ifT (by first | assumption | omega | rfl | exact fun q => q (by assumption) | exact fun q => q rfl | (simp (disch := omega) only [nle_t, nle_f, nlt_t, nlt_f, neq_t, neq_f, i_lt0, i_le0, i_0le, i_0lt, i_eq0, i_lt, i_le, i_eq, nI_add, i_sub, i_cl, i_m1a, i_m1b, i_m1c, i_m1d, i_m1e, i_am1, i_ite0, m1_le, m1_m1, m1_ge0, not_true_eq_false, not_false_eq_true, or_self, or_false, false_or, or_true, true_or, and_self, and_true, true_and])) ?_)
  refine eN_iload (M := ML_vault) dL_vault_120 (pc' := 122) rfl rfl ?_
  refine (ev_bipush (M := ML_vault) (v := (nI 8)) rfl dL_vault_122 (pc' := 124) rfl).mpr ?_
  refine (ev_icmp_ge (M := ML_vault) (t := 168) dL_vault_124 (by decide) (pc' := 127) rfl).mpr (ifF (by first | assumption | omega | rfl | exact fun q => q (by assumption) | exact fun q => q rfl | (simp (disch := omega) only [nle_t, nle_f, nlt_t, nlt_f, neq_t, neq_f, i_lt0, i_le0, i_0le, i_0lt, i_eq0, i_lt, i_le, i_eq, nI_add, i_sub, i_cl, i_m1a, i_m1b, i_m1c, i_m1d, i_m1e, i_am1, i_ite0, m1_le, m1_m1, m1_ge0, not_true_eq_false, not_false_eq_true, or_self, or_false, false_or, or_true, true_or, and_self, and_true, true_and])) ?_)
  refine eN_iload (M := ML_vault) dL_vault_127 (pc' := 129) rfl rfl ?_
  refine (ev_iconst (M := ML_vault) (v := (nI 3)) rfl dL_vault_129 (pc' := 130) rfl).mpr ?_
  refine eN_irem (M := ML_vault) dL_vault_130 (pc' := 131) rfl (by omega) ?_
  refine (ev_istore (M := ML_vault) dL_vault_131 (by decide) (pc' := 133) rfl).mpr ?_
  refine eN_aload_n (M := ML_vault) (k := 3) rfl dL_vault_133 (pc' := 134) rfl rfl ?_
  refine (ev_cS1 (M := ML_vault) dL_vault_134 c_9_140 (by decide) mL_many rfl rfl (pc' := 137) rfl).mpr ⟨(Nat.le_of_ble_eq_true rfl), eN_c c1 (by first | rfl | (simp (disch := omega) only [nI_add, i_sub]) | (simp only [*])) ?_⟩
  refine (ev_bipush (M := ML_vault) (v := (nI 20)) rfl dL_vault_137 (pc' := 139) rfl).mpr ?_
  refine (ev_icmp_ge (M := ML_vault) (t := 165) dL_vault_139 (by decide) (pc' := 142) rfl).mpr (ifT (by first | assumption | omega | rfl | exact fun q => q (by assumption) | exact fun q => q rfl | (simp (disch := omega) only [nle_t, nle_f, nlt_t, nlt_f, neq_t, neq_f, i_lt0, i_le0, i_0le, i_0lt, i_eq0, i_lt, i_le, i_eq, nI_add, i_sub, i_cl, i_m1a, i_m1b, i_m1c, i_m1d, i_m1e, i_am1, i_ite0, m1_le, m1_m1, m1_ge0, not_true_eq_false, not_false_eq_true, or_self, or_false, false_or, or_true, true_or, and_self, and_true, true_and])) ?_)
  refine (ev_goto (M := ML_vault) (pc' := 273) dL_vault_165 (by decide)).mpr ?_
  exact ev_more (by repeat (first | exact trivial | refine ⟨rfl, ?_⟩)) (by exact rfl) (by exact rfl) hq
theorem Z_va5 (hw : 8 ≤ w) (hw2 : w < 10) (hx : x < 2147483648) (hy : y < 2147483648) (c1 : Call (d + 10) 132 [.ref G, .int (nI (x % 3)), .int (nI (y % 64))] T (.inl (some (.int (-1)))) T) (hq : Ev (d + 10) ML_vault [] 273 [(9, .int (nI 1)), (7, .int (nI y)), (6, .int (nI x)), (5, .int (nI k)), (4, .ref (G + 1)), (3, .ref G), (2, .ref X), (0, .ref S), (1, .int (nI a))] [] T Q) : Ev (d + 10) ML_vault [] 98 [(9, .int (nI 1)), (8, .int (nI w)), (7, .int (nI y)), (6, .int (nI x)), (5, .int (nI k)), (4, .ref (G + 1)), (3, .ref G), (2, .ref X), (0, .ref S), (1, .int (nI a))] [] T Q := by
  have h1 : ¬ w < 8 := by omega
  have hm : (-1 : Int32) < 0 := by decide
  refine eN_iload (M := ML_vault) dL_vault_98 (pc' := 100) rfl rfl ?_
  refine (ev_iconst (M := ML_vault) (v := (nI 4)) rfl dL_vault_100 (pc' := 101) rfl).mpr ?_
  refine (ev_icmp_ge (M := ML_vault) (t := 120) dL_vault_101 (by decide) (pc' := 104) rfl).mpr (ifT (by first | assumption | omega | rfl | exact fun q => q (by assumption) | exact fun q => q rfl | (simp (disch := omega) only [nle_t, nle_f, nlt_t, nlt_f, neq_t, neq_f, i_lt0, i_le0, i_0le, i_0lt, i_eq0, i_lt, i_le, i_eq, nI_add, i_sub, i_cl, i_m1a, i_m1b, i_m1c, i_m1d, i_m1e, i_am1, i_ite0, m1_le, m1_m1, m1_ge0, not_true_eq_false, not_false_eq_true, or_self, or_false, false_or, or_true, true_or, and_self, and_true, true_and])) ?_)
  refine eN_iload (M := ML_vault) dL_vault_120 (pc' := 122) rfl rfl ?_
  refine (ev_bipush (M := ML_vault) (v := (nI 8)) rfl dL_vault_122 (pc' := 124) rfl).mpr ?_
  refine (ev_icmp_ge (M := ML_vault) (t := 168) dL_vault_124 (by decide) (pc' := 127) rfl).mpr (ifT (by first | assumption | omega | rfl | exact fun q => q (by assumption) | exact fun q => q rfl | (simp (disch := omega) only [nle_t, nle_f, nlt_t, nlt_f, neq_t, neq_f, i_lt0, i_le0, i_0le, i_0lt, i_eq0, i_lt, i_le, i_eq, nI_add, i_sub, i_cl, i_m1a, i_m1b, i_m1c, i_m1d, i_m1e, i_am1, i_ite0, m1_le, m1_m1, m1_ge0, not_true_eq_false, not_false_eq_true, or_self, or_false, false_or, or_true, true_or, and_self, and_true, true_and])) ?_)
  refine eN_iload (M := ML_vault) dL_vault_168 (pc' := 170) rfl rfl ?_
  refine (ev_bipush (M := ML_vault) (v := (nI 10)) rfl dL_vault_170 (pc' := 172) rfl).mpr ?_
  refine (ev_icmp_ge (M := ML_vault) (t := 221) dL_vault_172 (by decide) (pc' := 175) rfl).mpr (ifF (by first | assumption | omega | rfl | exact fun q => q (by assumption) | exact fun q => q rfl | (simp (disch := omega) only [nle_t, nle_f, nlt_t, nlt_f, neq_t, neq_f, i_lt0, i_le0, i_0le, i_0lt, i_eq0, i_lt, i_le, i_eq, nI_add, i_sub, i_cl, i_m1a, i_m1b, i_m1c, i_m1d, i_m1e, i_am1, i_ite0, m1_le, m1_m1, m1_ge0, not_true_eq_false, not_false_eq_true, or_self, or_false, false_or, or_true, true_or, and_self, and_true, true_and])) ?_)
  refine eN_iload (M := ML_vault) dL_vault_175 (pc' := 177) rfl rfl ?_
  refine (ev_iconst (M := ML_vault) (v := (nI 3)) rfl dL_vault_177 (pc' := 178) rfl).mpr ?_
  refine eN_irem (M := ML_vault) dL_vault_178 (pc' := 179) rfl (by omega) ?_
  refine (ev_istore (M := ML_vault) dL_vault_179 (by decide) (pc' := 181) rfl).mpr ?_
  refine eN_aload_n (M := ML_vault) (k := 3) rfl dL_vault_181 (pc' := 182) rfl rfl ?_
  refine eN_iload (M := ML_vault) dL_vault_182 (pc' := 184) rfl rfl ?_
  refine eN_iload (M := ML_vault) dL_vault_184 (pc' := 186) rfl rfl ?_
  refine (ev_bipush (M := ML_vault) (v := (nI 64)) rfl dL_vault_186 (pc' := 188) rfl).mpr ?_
  refine eN_irem (M := ML_vault) dL_vault_188 (pc' := 189) rfl (by omega) ?_
  refine (ev_cS3 (M := ML_vault) dL_vault_189 c_9_62 (by decide) mL_kept rfl rfl (pc' := 192) rfl).mpr ⟨(Nat.le_of_ble_eq_true rfl), eN_c c1 (by first | rfl | (simp (disch := omega) only [nI_add, i_sub]) | (simp only [*])) ?_⟩
  refine (ev_istore (M := ML_vault) dL_vault_192 (by decide) (pc' := 194) rfl).mpr ?_
  refine eN_iload (M := ML_vault) dL_vault_194 (pc' := 196) rfl rfl ?_
  refine (ev_if_lt (M := ML_vault) (t := 211) dL_vault_196 (by decide) (pc' := 199) rfl).mpr (ifT (by first | assumption | omega | rfl | exact fun q => q (by assumption) | exact fun q => q rfl | (simp (disch := omega) only [nle_t, nle_f, nlt_t, nlt_f, neq_t, neq_f, i_lt0, i_le0, i_0le, i_0lt, i_eq0, i_lt, i_le, i_eq, nI_add, i_sub, i_cl, i_m1a, i_m1b, i_m1c, i_m1d, i_m1e, i_am1, i_ite0, m1_le, m1_m1, m1_ge0, not_true_eq_false, not_false_eq_true, or_self, or_false, false_or, or_true, true_or, and_self, and_true, true_and])) ?_)
  refine (ev_iconst (M := ML_vault) (v := (nI 1)) rfl dL_vault_211 (pc' := 212) rfl).mpr ?_
  refine (ev_goto (M := ML_vault) (pc' := 216) dL_vault_212 (by decide)).mpr ?_
  refine (ev_istore (M := ML_vault) dL_vault_216 (by decide) (pc' := 218) rfl).mpr ?_
  refine (ev_goto (M := ML_vault) (pc' := 273) dL_vault_218 (by decide)).mpr ?_
  exact ev_more (by repeat (first | exact trivial | refine ⟨rfl, ?_⟩)) (by exact rfl) (by exact rfl) hq
theorem Z_va6 (hw : 8 ≤ w) (hw2 : w < 10) (hx : x < 2147483648) (hy : y < 2147483648) (hv : v < 64) (c1 : Call (d + 10) 132 [.ref G, .int (nI (x % 3)), .int (nI (y % 64))] T (.inl (some (.int (nI v)))) T) (c2 : Call (d + 10) 141 [.ref X, .ref G, .int (nI (x % 3)), .int (nI v)] T (.inl (some (.int (nI 1)))) T') (hq : Ev (d + 10) ML_vault [] 273 [(9, .int (nI 1)), (7, .int (nI y)), (6, .int (nI x)), (5, .int (nI k)), (4, .ref (G + 1)), (3, .ref G), (2, .ref X), (0, .ref S), (1, .int (nI a))] [] T' Q) : Ev (d + 10) ML_vault [] 98 [(9, .int (nI 1)), (8, .int (nI w)), (7, .int (nI y)), (6, .int (nI x)), (5, .int (nI k)), (4, .ref (G + 1)), (3, .ref G), (2, .ref X), (0, .ref S), (1, .int (nI a))] [] T Q := by
  have h1 : ¬ w < 8 := by omega
  refine eN_iload (M := ML_vault) dL_vault_98 (pc' := 100) rfl rfl ?_
  refine (ev_iconst (M := ML_vault) (v := (nI 4)) rfl dL_vault_100 (pc' := 101) rfl).mpr ?_
  refine (ev_icmp_ge (M := ML_vault) (t := 120) dL_vault_101 (by decide) (pc' := 104) rfl).mpr (ifT (by first | assumption | omega | rfl | exact fun q => q (by assumption) | exact fun q => q rfl | (simp (disch := omega) only [nle_t, nle_f, nlt_t, nlt_f, neq_t, neq_f, i_lt0, i_le0, i_0le, i_0lt, i_eq0, i_lt, i_le, i_eq, nI_add, i_sub, i_cl, i_m1a, i_m1b, i_m1c, i_m1d, i_m1e, i_am1, i_ite0, m1_le, m1_m1, m1_ge0, not_true_eq_false, not_false_eq_true, or_self, or_false, false_or, or_true, true_or, and_self, and_true, true_and])) ?_)
  refine eN_iload (M := ML_vault) dL_vault_120 (pc' := 122) rfl rfl ?_
  refine (ev_bipush (M := ML_vault) (v := (nI 8)) rfl dL_vault_122 (pc' := 124) rfl).mpr ?_
  refine (ev_icmp_ge (M := ML_vault) (t := 168) dL_vault_124 (by decide) (pc' := 127) rfl).mpr (ifT (by first | assumption | omega | rfl | exact fun q => q (by assumption) | exact fun q => q rfl | (simp (disch := omega) only [nle_t, nle_f, nlt_t, nlt_f, neq_t, neq_f, i_lt0, i_le0, i_0le, i_0lt, i_eq0, i_lt, i_le, i_eq, nI_add, i_sub, i_cl, i_m1a, i_m1b, i_m1c, i_m1d, i_m1e, i_am1, i_ite0, m1_le, m1_m1, m1_ge0, not_true_eq_false, not_false_eq_true, or_self, or_false, false_or, or_true, true_or, and_self, and_true, true_and])) ?_)
  refine eN_iload (M := ML_vault) dL_vault_168 (pc' := 170) rfl rfl ?_
  refine (ev_bipush (M := ML_vault) (v := (nI 10)) rfl dL_vault_170 (pc' := 172) rfl).mpr ?_
  refine (ev_icmp_ge (M := ML_vault) (t := 221) dL_vault_172 (by decide) (pc' := 175) rfl).mpr (ifF (by first | assumption | omega | rfl | exact fun q => q (by assumption) | exact fun q => q rfl | (simp (disch := omega) only [nle_t, nle_f, nlt_t, nlt_f, neq_t, neq_f, i_lt0, i_le0, i_0le, i_0lt, i_eq0, i_lt, i_le, i_eq, nI_add, i_sub, i_cl, i_m1a, i_m1b, i_m1c, i_m1d, i_m1e, i_am1, i_ite0, m1_le, m1_m1, m1_ge0, not_true_eq_false, not_false_eq_true, or_self, or_false, false_or, or_true, true_or, and_self, and_true, true_and])) ?_)
  refine eN_iload (M := ML_vault) dL_vault_175 (pc' := 177) rfl rfl ?_
  refine (ev_iconst (M := ML_vault) (v := (nI 3)) rfl dL_vault_177 (pc' := 178) rfl).mpr ?_
  refine eN_irem (M := ML_vault) dL_vault_178 (pc' := 179) rfl (by omega) ?_
  refine (ev_istore (M := ML_vault) dL_vault_179 (by decide) (pc' := 181) rfl).mpr ?_
  refine eN_aload_n (M := ML_vault) (k := 3) rfl dL_vault_181 (pc' := 182) rfl rfl ?_
  refine eN_iload (M := ML_vault) dL_vault_182 (pc' := 184) rfl rfl ?_
  refine eN_iload (M := ML_vault) dL_vault_184 (pc' := 186) rfl rfl ?_
  refine (ev_bipush (M := ML_vault) (v := (nI 64)) rfl dL_vault_186 (pc' := 188) rfl).mpr ?_
  refine eN_irem (M := ML_vault) dL_vault_188 (pc' := 189) rfl (by omega) ?_
  refine (ev_cS3 (M := ML_vault) dL_vault_189 c_9_62 (by decide) mL_kept rfl rfl (pc' := 192) rfl).mpr ⟨(Nat.le_of_ble_eq_true rfl), eN_c c1 (by first | rfl | (simp (disch := omega) only [nI_add, i_sub]) | (simp only [*])) ?_⟩
  refine (ev_istore (M := ML_vault) dL_vault_192 (by decide) (pc' := 194) rfl).mpr ?_
  refine eN_iload (M := ML_vault) dL_vault_194 (pc' := 196) rfl rfl ?_
  refine (ev_if_lt (M := ML_vault) (t := 211) dL_vault_196 (by decide) (pc' := 199) rfl).mpr (ifF (by first | assumption | omega | rfl | exact fun q => q (by assumption) | exact fun q => q rfl | (simp (disch := omega) only [nle_t, nle_f, nlt_t, nlt_f, neq_t, neq_f, i_lt0, i_le0, i_0le, i_0lt, i_eq0, i_lt, i_le, i_eq, nI_add, i_sub, i_cl, i_m1a, i_m1b, i_m1c, i_m1d, i_m1e, i_am1, i_ite0, m1_le, m1_m1, m1_ge0, not_true_eq_false, not_false_eq_true, or_self, or_false, false_or, or_true, true_or, and_self, and_true, true_and])) ?_)
  refine eN_aload_n (M := ML_vault) (k := 2) rfl dL_vault_199 (pc' := 200) rfl rfl ?_
  refine eN_aload_n (M := ML_vault) (k := 3) rfl dL_vault_200 (pc' := 201) rfl rfl ?_
  refine eN_iload (M := ML_vault) dL_vault_201 (pc' := 203) rfl rfl ?_
  refine eN_iload (M := ML_vault) dL_vault_203 (pc' := 205) rfl rfl ?_
  refine (ev_cS4 (M := ML_vault) dL_vault_205 c_9_173 (by decide) mL_forgets rfl rfl (pc' := 208) rfl).mpr ⟨(Nat.le_of_ble_eq_true rfl), eN_c c2 (by first | rfl | (simp (disch := omega) only [nI_add, i_sub]) | (simp only [*])) ?_⟩
  refine (ev_if_eq (M := ML_vault) (t := 215) dL_vault_208 (by decide) (pc' := 211) rfl).mpr (ifF (by first | assumption | omega | rfl | exact fun q => q (by assumption) | exact fun q => q rfl | (simp (disch := omega) only [nle_t, nle_f, nlt_t, nlt_f, neq_t, neq_f, i_lt0, i_le0, i_0le, i_0lt, i_eq0, i_lt, i_le, i_eq, nI_add, i_sub, i_cl, i_m1a, i_m1b, i_m1c, i_m1d, i_m1e, i_am1, i_ite0, m1_le, m1_m1, m1_ge0, not_true_eq_false, not_false_eq_true, or_self, or_false, false_or, or_true, true_or, and_self, and_true, true_and])) ?_)
  refine (ev_iconst (M := ML_vault) (v := (nI 1)) rfl dL_vault_211 (pc' := 212) rfl).mpr ?_
  refine (ev_goto (M := ML_vault) (pc' := 216) dL_vault_212 (by decide)).mpr ?_
  refine (ev_istore (M := ML_vault) dL_vault_216 (by decide) (pc' := 218) rfl).mpr ?_
  refine (ev_goto (M := ML_vault) (pc' := 273) dL_vault_218 (by decide)).mpr ?_
  exact ev_more (by repeat (first | exact trivial | refine ⟨rfl, ?_⟩)) (by exact rfl) (by exact rfl) hq
theorem Z_va7 (hw : w = 10) (c1 : Call (d + 10) 142 [.ref X, .ref G] T (.inl (some (.int (nI 1)))) T') (hq : Ev (d + 10) ML_vault [] 273 [(9, .int (nI 1)), (7, .int (nI y)), (6, .int (nI x)), (5, .int (nI k)), (4, .ref (G + 1)), (3, .ref G), (2, .ref X), (0, .ref S), (1, .int (nI a))] [] T' Q) : Ev (d + 10) ML_vault [] 98 [(9, .int (nI 1)), (8, .int (nI w)), (7, .int (nI y)), (6, .int (nI x)), (5, .int (nI k)), (4, .ref (G + 1)), (3, .ref G), (2, .ref X), (0, .ref S), (1, .int (nI a))] [] T Q := by
  subst hw
  refine eN_iload (M := ML_vault) dL_vault_98 (pc' := 100) rfl rfl ?_
  refine (ev_iconst (M := ML_vault) (v := (nI 4)) rfl dL_vault_100 (pc' := 101) rfl).mpr ?_
  refine (ev_icmp_ge (M := ML_vault) (t := 120) dL_vault_101 (by decide) (pc' := 104) rfl).mpr (ifT (by first | assumption | omega | rfl | exact fun q => q (by assumption) | exact fun q => q rfl | (simp (disch := omega) only [nle_t, nle_f, nlt_t, nlt_f, neq_t, neq_f, i_lt0, i_le0, i_0le, i_0lt, i_eq0, i_lt, i_le, i_eq, nI_add, i_sub, i_cl, i_m1a, i_m1b, i_m1c, i_m1d, i_m1e, i_am1, i_ite0, m1_le, m1_m1, m1_ge0, not_true_eq_false, not_false_eq_true, or_self, or_false, false_or, or_true, true_or, and_self, and_true, true_and])) ?_)
  refine eN_iload (M := ML_vault) dL_vault_120 (pc' := 122) rfl rfl ?_
  refine (ev_bipush (M := ML_vault) (v := (nI 8)) rfl dL_vault_122 (pc' := 124) rfl).mpr ?_
  refine (ev_icmp_ge (M := ML_vault) (t := 168) dL_vault_124 (by decide) (pc' := 127) rfl).mpr (ifT (by first | assumption | omega | rfl | exact fun q => q (by assumption) | exact fun q => q rfl | (simp (disch := omega) only [nle_t, nle_f, nlt_t, nlt_f, neq_t, neq_f, i_lt0, i_le0, i_0le, i_0lt, i_eq0, i_lt, i_le, i_eq, nI_add, i_sub, i_cl, i_m1a, i_m1b, i_m1c, i_m1d, i_m1e, i_am1, i_ite0, m1_le, m1_m1, m1_ge0, not_true_eq_false, not_false_eq_true, or_self, or_false, false_or, or_true, true_or, and_self, and_true, true_and])) ?_)
  refine eN_iload (M := ML_vault) dL_vault_168 (pc' := 170) rfl rfl ?_
  refine (ev_bipush (M := ML_vault) (v := (nI 10)) rfl dL_vault_170 (pc' := 172) rfl).mpr ?_
  refine (ev_icmp_ge (M := ML_vault) (t := 221) dL_vault_172 (by decide) (pc' := 175) rfl).mpr (ifT (by first | assumption | omega | rfl | exact fun q => q (by assumption) | exact fun q => q rfl | (simp (disch := omega) only [nle_t, nle_f, nlt_t, nlt_f, neq_t, neq_f, i_lt0, i_le0, i_0le, i_0lt, i_eq0, i_lt, i_le, i_eq, nI_add, i_sub, i_cl, i_m1a, i_m1b, i_m1c, i_m1d, i_m1e, i_am1, i_ite0, m1_le, m1_m1, m1_ge0, not_true_eq_false, not_false_eq_true, or_self, or_false, false_or, or_true, true_or, and_self, and_true, true_and])) ?_)
  refine eN_iload (M := ML_vault) dL_vault_221 (pc' := 223) rfl rfl ?_
  refine (ev_bipush (M := ML_vault) (v := (nI 10)) rfl dL_vault_223 (pc' := 225) rfl).mpr ?_
  refine (ev_icmp_ne (M := ML_vault) (t := 238) dL_vault_225 (by decide) (pc' := 228) rfl).mpr (ifF (by first | assumption | omega | rfl | exact fun q => q (by assumption) | exact fun q => q rfl | (simp (disch := omega) only [nle_t, nle_f, nlt_t, nlt_f, neq_t, neq_f, i_lt0, i_le0, i_0le, i_0lt, i_eq0, i_lt, i_le, i_eq, nI_add, i_sub, i_cl, i_m1a, i_m1b, i_m1c, i_m1d, i_m1e, i_am1, i_ite0, m1_le, m1_m1, m1_ge0, not_true_eq_false, not_false_eq_true, or_self, or_false, false_or, or_true, true_or, and_self, and_true, true_and])) ?_)
  refine eN_aload_n (M := ML_vault) (k := 2) rfl dL_vault_228 (pc' := 229) rfl rfl ?_
  refine eN_aload_n (M := ML_vault) (k := 3) rfl dL_vault_229 (pc' := 230) rfl rfl ?_
  refine (ev_cS2 (M := ML_vault) dL_vault_230 c_9_176 (by decide) mL_collects rfl rfl (pc' := 233) rfl).mpr ⟨(Nat.le_of_ble_eq_true rfl), eN_c c1 (by first | rfl | (simp (disch := omega) only [nI_add, i_sub]) | (simp only [*])) ?_⟩
  refine (ev_istore (M := ML_vault) dL_vault_233 (by decide) (pc' := 235) rfl).mpr ?_
  refine (ev_goto (M := ML_vault) (pc' := 273) dL_vault_235 (by decide)).mpr ?_
  exact ev_more (by repeat (first | exact trivial | refine ⟨rfl, ?_⟩)) (by exact rfl) (by exact rfl) hq
theorem Z_va8 (k8 : tK T X = 8) (k8' : tK T1 X = 8) (hw : w = 11) (hx : x < 2147483648) (hx4 : x % 4 = 0) (hl : l ≤ 240) (c1 : Call (d + 10) 84 [.ref X] T (.inl (some (.int (nI l)))) T1) (c2 : Call (d + 10) 85 [.ref X] T1 (.inl (some (.int (nI 0)))) T1) (c3 : Call (d + 10) 88 [.ref X] T1 (.inl (some (.int (nI 0)))) T') (hq : Ev (d + 10) ML_vault [] 273 [(9, .int (nI 1)), (7, .int (nI y)), (6, .int (nI x)), (5, .int (nI k)), (4, .ref (G + 1)), (3, .ref G), (2, .ref X), (0, .ref S), (1, .int (nI a))] [] T' Q) : Ev (d + 10) ML_vault [] 98 [(9, .int (nI 1)), (8, .int (nI w)), (7, .int (nI y)), (6, .int (nI x)), (5, .int (nI k)), (4, .ref (G + 1)), (3, .ref G), (2, .ref X), (0, .ref S), (1, .int (nI a))] [] T Q := by
  subst hw
  refine eN_iload (M := ML_vault) dL_vault_98 (pc' := 100) rfl rfl ?_
  refine (ev_iconst (M := ML_vault) (v := (nI 4)) rfl dL_vault_100 (pc' := 101) rfl).mpr ?_
  refine (ev_icmp_ge (M := ML_vault) (t := 120) dL_vault_101 (by decide) (pc' := 104) rfl).mpr (ifT (by first | assumption | omega | rfl | exact fun q => q (by assumption) | exact fun q => q rfl | (simp (disch := omega) only [nle_t, nle_f, nlt_t, nlt_f, neq_t, neq_f, i_lt0, i_le0, i_0le, i_0lt, i_eq0, i_lt, i_le, i_eq, nI_add, i_sub, i_cl, i_m1a, i_m1b, i_m1c, i_m1d, i_m1e, i_am1, i_ite0, m1_le, m1_m1, m1_ge0, not_true_eq_false, not_false_eq_true, or_self, or_false, false_or, or_true, true_or, and_self, and_true, true_and])) ?_)
  refine eN_iload (M := ML_vault) dL_vault_120 (pc' := 122) rfl rfl ?_
  refine (ev_bipush (M := ML_vault) (v := (nI 8)) rfl dL_vault_122 (pc' := 124) rfl).mpr ?_
  refine (ev_icmp_ge (M := ML_vault) (t := 168) dL_vault_124 (by decide) (pc' := 127) rfl).mpr (ifT (by first | assumption | omega | rfl | exact fun q => q (by assumption) | exact fun q => q rfl | (simp (disch := omega) only [nle_t, nle_f, nlt_t, nlt_f, neq_t, neq_f, i_lt0, i_le0, i_0le, i_0lt, i_eq0, i_lt, i_le, i_eq, nI_add, i_sub, i_cl, i_m1a, i_m1b, i_m1c, i_m1d, i_m1e, i_am1, i_ite0, m1_le, m1_m1, m1_ge0, not_true_eq_false, not_false_eq_true, or_self, or_false, false_or, or_true, true_or, and_self, and_true, true_and])) ?_)
  refine eN_iload (M := ML_vault) dL_vault_168 (pc' := 170) rfl rfl ?_
  refine (ev_bipush (M := ML_vault) (v := (nI 10)) rfl dL_vault_170 (pc' := 172) rfl).mpr ?_
  refine (ev_icmp_ge (M := ML_vault) (t := 221) dL_vault_172 (by decide) (pc' := 175) rfl).mpr (ifT (by first | assumption | omega | rfl | exact fun q => q (by assumption) | exact fun q => q rfl | (simp (disch := omega) only [nle_t, nle_f, nlt_t, nlt_f, neq_t, neq_f, i_lt0, i_le0, i_0le, i_0lt, i_eq0, i_lt, i_le, i_eq, nI_add, i_sub, i_cl, i_m1a, i_m1b, i_m1c, i_m1d, i_m1e, i_am1, i_ite0, m1_le, m1_m1, m1_ge0, not_true_eq_false, not_false_eq_true, or_self, or_false, false_or, or_true, true_or, and_self, and_true, true_and])) ?_)
  refine eN_iload (M := ML_vault) dL_vault_221 (pc' := 223) rfl rfl ?_
  refine (ev_bipush (M := ML_vault) (v := (nI 10)) rfl dL_vault_223 (pc' := 225) rfl).mpr ?_
  refine (ev_icmp_ne (M := ML_vault) (t := 238) dL_vault_225 (by decide) (pc' := 228) rfl).mpr (ifT (by first | assumption | omega | rfl | exact fun q => q (by assumption) | exact fun q => q rfl | (simp (disch := omega) only [nle_t, nle_f, nlt_t, nlt_f, neq_t, neq_f, i_lt0, i_le0, i_0le, i_0lt, i_eq0, i_lt, i_le, i_eq, nI_add, i_sub, i_cl, i_m1a, i_m1b, i_m1c, i_m1d, i_m1e, i_am1, i_ite0, m1_le, m1_m1, m1_ge0, not_true_eq_false, not_false_eq_true, or_self, or_false, false_or, or_true, true_or, and_self, and_true, true_and])) ?_)
  refine eN_iload (M := ML_vault) dL_vault_238 (pc' := 240) rfl rfl ?_
  refine (ev_iconst (M := ML_vault) (v := (nI 4)) rfl dL_vault_240 (pc' := 241) rfl).mpr ?_
  refine eN_irem (M := ML_vault) dL_vault_241 (pc' := 242) rfl (by omega) ?_
  refine (ev_if_ne (M := ML_vault) (t := 273) dL_vault_242 (by decide) (pc' := 245) rfl).mpr (ifF (by first | assumption | omega | rfl | exact fun q => q (by assumption) | exact fun q => q rfl | (simp (disch := omega) only [nle_t, nle_f, nlt_t, nlt_f, neq_t, neq_f, i_lt0, i_le0, i_0le, i_0lt, i_eq0, i_lt, i_le, i_eq, nI_add, i_sub, i_cl, i_m1a, i_m1b, i_m1c, i_m1d, i_m1e, i_am1, i_ite0, m1_le, m1_m1, m1_ge0, not_true_eq_false, not_false_eq_true, or_self, or_false, false_or, or_true, true_or, and_self, and_true, true_and])) ?_)
  refine eN_aload_n (M := ML_vault) (k := 2) rfl dL_vault_245 (pc' := 246) rfl rfl ?_
  refine (ev_cV0 (M := ML_vault) (kk := 8) dL_vault_246 c_9_180 mX6_clearDraft rfl rfl (by decide) rfl (pc' := 249) rfl).mpr ⟨(by assumption), (Nat.le_of_ble_eq_true rfl), eN_c c1 (by first | rfl | (simp (disch := omega) only [nI_add, i_sub]) | (simp only [*])) ?_⟩
  refine (ev_if_lt (M := ML_vault) (t := 270) dL_vault_249 (by decide) (pc' := 252) rfl).mpr (ifF (by first | assumption | omega | rfl | exact fun q => q (by assumption) | exact fun q => q rfl | (simp (disch := omega) only [nle_t, nle_f, nlt_t, nlt_f, neq_t, neq_f, i_lt0, i_le0, i_0le, i_0lt, i_eq0, i_lt, i_le, i_eq, nI_add, i_sub, i_cl, i_m1a, i_m1b, i_m1c, i_m1d, i_m1e, i_am1, i_ite0, m1_le, m1_m1, m1_ge0, not_true_eq_false, not_false_eq_true, or_self, or_false, false_or, or_true, true_or, and_self, and_true, true_and])) ?_)
  refine eN_aload_n (M := ML_vault) (k := 2) rfl dL_vault_252 (pc' := 253) rfl rfl ?_
  refine (ev_cV0 (M := ML_vault) (kk := 8) dL_vault_253 c_9_129 mX6_draftLength rfl rfl (by decide) rfl (pc' := 256) rfl).mpr ⟨(by assumption), (Nat.le_of_ble_eq_true rfl), eN_c c2 (by first | rfl | (simp (disch := omega) only [nI_add, i_sub]) | (simp only [*])) ?_⟩
  refine (ev_if_ne (M := ML_vault) (t := 270) dL_vault_256 (by decide) (pc' := 259) rfl).mpr (ifF (by first | assumption | omega | rfl | exact fun q => q (by assumption) | exact fun q => q rfl | (simp (disch := omega) only [nle_t, nle_f, nlt_t, nlt_f, neq_t, neq_f, i_lt0, i_le0, i_0le, i_0lt, i_eq0, i_lt, i_le, i_eq, nI_add, i_sub, i_cl, i_m1a, i_m1b, i_m1c, i_m1d, i_m1e, i_am1, i_ite0, m1_le, m1_m1, m1_ge0, not_true_eq_false, not_false_eq_true, or_self, or_false, false_or, or_true, true_or, and_self, and_true, true_and])) ?_)
  refine eN_aload_n (M := ML_vault) (k := 2) rfl dL_vault_259 (pc' := 260) rfl rfl ?_
  refine (ev_cV0 (M := ML_vault) (kk := 8) dL_vault_260 c_9_117 mX6_wouldStore rfl rfl (by decide) rfl (pc' := 263) rfl).mpr ⟨(by assumption), (Nat.le_of_ble_eq_true rfl), eN_c c3 (by first | rfl | (simp (disch := omega) only [nI_add, i_sub]) | (simp only [*])) ?_⟩
  refine (ev_if_ne (M := ML_vault) (t := 270) dL_vault_263 (by decide) (pc' := 266) rfl).mpr (ifF (by first | assumption | omega | rfl | exact fun q => q (by assumption) | exact fun q => q rfl | (simp (disch := omega) only [nle_t, nle_f, nlt_t, nlt_f, neq_t, neq_f, i_lt0, i_le0, i_0le, i_0lt, i_eq0, i_lt, i_le, i_eq, nI_add, i_sub, i_cl, i_m1a, i_m1b, i_m1c, i_m1d, i_m1e, i_am1, i_ite0, m1_le, m1_m1, m1_ge0, not_true_eq_false, not_false_eq_true, or_self, or_false, false_or, or_true, true_or, and_self, and_true, true_and])) ?_)
  refine (ev_iconst (M := ML_vault) (v := (nI 1)) rfl dL_vault_266 (pc' := 267) rfl).mpr ?_
  refine (ev_goto (M := ML_vault) (pc' := 271) dL_vault_267 (by decide)).mpr ?_
  refine (ev_istore (M := ML_vault) dL_vault_271 (by decide) (pc' := 273) rfl).mpr ?_
  exact ev_more (by repeat (first | exact trivial | refine ⟨rfl, ?_⟩)) (by exact rfl) (by exact rfl) hq
theorem Z_va9 (hw : w = 11) (hx : x < 2147483648) (hx4 : ¬ x % 4 = 0) (hq : Ev (d + 10) ML_vault [] 273 [(9, .int (nI 1)), (7, .int (nI y)), (6, .int (nI x)), (5, .int (nI k)), (4, .ref (G + 1)), (3, .ref G), (2, .ref X), (0, .ref S), (1, .int (nI a))] [] T Q) : Ev (d + 10) ML_vault [] 98 [(9, .int (nI 1)), (8, .int (nI w)), (7, .int (nI y)), (6, .int (nI x)), (5, .int (nI k)), (4, .ref (G + 1)), (3, .ref G), (2, .ref X), (0, .ref S), (1, .int (nI a))] [] T Q := by
  subst hw
  refine eN_iload (M := ML_vault) dL_vault_98 (pc' := 100) rfl rfl ?_
  refine (ev_iconst (M := ML_vault) (v := (nI 4)) rfl dL_vault_100 (pc' := 101) rfl).mpr ?_
  refine (ev_icmp_ge (M := ML_vault) (t := 120) dL_vault_101 (by decide) (pc' := 104) rfl).mpr (ifT (by first | assumption | omega | rfl | exact fun q => q (by assumption) | exact fun q => q rfl | (simp (disch := omega) only [nle_t, nle_f, nlt_t, nlt_f, neq_t, neq_f, i_lt0, i_le0, i_0le, i_0lt, i_eq0, i_lt, i_le, i_eq, nI_add, i_sub, i_cl, i_m1a, i_m1b, i_m1c, i_m1d, i_m1e, i_am1, i_ite0, m1_le, m1_m1, m1_ge0, not_true_eq_false, not_false_eq_true, or_self, or_false, false_or, or_true, true_or, and_self, and_true, true_and])) ?_)
  refine eN_iload (M := ML_vault) dL_vault_120 (pc' := 122) rfl rfl ?_
  refine (ev_bipush (M := ML_vault) (v := (nI 8)) rfl dL_vault_122 (pc' := 124) rfl).mpr ?_
  refine (ev_icmp_ge (M := ML_vault) (t := 168) dL_vault_124 (by decide) (pc' := 127) rfl).mpr (ifT (by first | assumption | omega | rfl | exact fun q => q (by assumption) | exact fun q => q rfl | (simp (disch := omega) only [nle_t, nle_f, nlt_t, nlt_f, neq_t, neq_f, i_lt0, i_le0, i_0le, i_0lt, i_eq0, i_lt, i_le, i_eq, nI_add, i_sub, i_cl, i_m1a, i_m1b, i_m1c, i_m1d, i_m1e, i_am1, i_ite0, m1_le, m1_m1, m1_ge0, not_true_eq_false, not_false_eq_true, or_self, or_false, false_or, or_true, true_or, and_self, and_true, true_and])) ?_)
  refine eN_iload (M := ML_vault) dL_vault_168 (pc' := 170) rfl rfl ?_
  refine (ev_bipush (M := ML_vault) (v := (nI 10)) rfl dL_vault_170 (pc' := 172) rfl).mpr ?_
  refine (ev_icmp_ge (M := ML_vault) (t := 221) dL_vault_172 (by decide) (pc' := 175) rfl).mpr (ifT (by first | assumption | omega | rfl | exact fun q => q (by assumption) | exact fun q => q rfl | (simp (disch := omega) only [nle_t, nle_f, nlt_t, nlt_f, neq_t, neq_f, i_lt0, i_le0, i_0le, i_0lt, i_eq0, i_lt, i_le, i_eq, nI_add, i_sub, i_cl, i_m1a, i_m1b, i_m1c, i_m1d, i_m1e, i_am1, i_ite0, m1_le, m1_m1, m1_ge0, not_true_eq_false, not_false_eq_true, or_self, or_false, false_or, or_true, true_or, and_self, and_true, true_and])) ?_)
  refine eN_iload (M := ML_vault) dL_vault_221 (pc' := 223) rfl rfl ?_
  refine (ev_bipush (M := ML_vault) (v := (nI 10)) rfl dL_vault_223 (pc' := 225) rfl).mpr ?_
  refine (ev_icmp_ne (M := ML_vault) (t := 238) dL_vault_225 (by decide) (pc' := 228) rfl).mpr (ifT (by first | assumption | omega | rfl | exact fun q => q (by assumption) | exact fun q => q rfl | (simp (disch := omega) only [nle_t, nle_f, nlt_t, nlt_f, neq_t, neq_f, i_lt0, i_le0, i_0le, i_0lt, i_eq0, i_lt, i_le, i_eq, nI_add, i_sub, i_cl, i_m1a, i_m1b, i_m1c, i_m1d, i_m1e, i_am1, i_ite0, m1_le, m1_m1, m1_ge0, not_true_eq_false, not_false_eq_true, or_self, or_false, false_or, or_true, true_or, and_self, and_true, true_and])) ?_)
  refine eN_iload (M := ML_vault) dL_vault_238 (pc' := 240) rfl rfl ?_
  refine (ev_iconst (M := ML_vault) (v := (nI 4)) rfl dL_vault_240 (pc' := 241) rfl).mpr ?_
  refine eN_irem (M := ML_vault) dL_vault_241 (pc' := 242) rfl (by omega) ?_
  refine (ev_if_ne (M := ML_vault) (t := 273) dL_vault_242 (by decide) (pc' := 245) rfl).mpr (ifT (by first | assumption | omega | rfl | exact fun q => q (by assumption) | exact fun q => q rfl | (simp (disch := omega) only [nle_t, nle_f, nlt_t, nlt_f, neq_t, neq_f, i_lt0, i_le0, i_0le, i_0lt, i_eq0, i_lt, i_le, i_eq, nI_add, i_sub, i_cl, i_m1a, i_m1b, i_m1c, i_m1d, i_m1e, i_am1, i_ite0, m1_le, m1_m1, m1_ge0, not_true_eq_false, not_false_eq_true, or_self, or_false, false_or, or_true, true_or, and_self, and_true, true_and])) ?_)
  exact ev_more (by repeat (first | exact trivial | refine ⟨rfl, ?_⟩)) (by exact rfl) (by exact rfl) hq
theorem Z_vaa (hx : x < 2147483648) (hy : y < 2147483648) (hk : k < 40) (c1 : Call (d + 10) 136 [.ref X, .ref G, .int (nI (x / 3)), .int (nI (y / 3))] T (.inl (some (.int (nI 1)))) T) (c2 : Call (d + 10) 138 [.ref X, .ref G] T (.inl (some (.int (nI 1)))) T) (c3 : Call (d + 10) 139 [.ref X] T (.inl (some (.int (nI 1)))) T) (hq : Ev (d + 10) ML_vault [] 22 [(5, .int (nI (k + 1))), (4, .ref (G + 1)), (3, .ref G), (2, .ref X), (0, .ref S), (1, .int (nI a))] [] T Q) : Ev (d + 10) ML_vault [] 273 [(9, .int (nI 1)), (7, .int (nI y)), (6, .int (nI x)), (5, .int (nI k)), (4, .ref (G + 1)), (3, .ref G), (2, .ref X), (0, .ref S), (1, .int (nI a))] [] T Q := by
  refine eN_iload (M := ML_vault) dL_vault_273 (pc' := 275) rfl rfl ?_
  refine (ev_if_eq (M := ML_vault) (t := 309) dL_vault_275 (by decide) (pc' := 278) rfl).mpr (ifF (by first | assumption | omega | rfl | exact fun q => q (by assumption) | exact fun q => q rfl | (simp (disch := omega) only [nle_t, nle_f, nlt_t, nlt_f, neq_t, neq_f, i_lt0, i_le0, i_0le, i_0lt, i_eq0, i_lt, i_le, i_eq, nI_add, i_sub, i_cl, i_m1a, i_m1b, i_m1c, i_m1d, i_m1e, i_am1, i_ite0, m1_le, m1_m1, m1_ge0, not_true_eq_false, not_false_eq_true, or_self, or_false, false_or, or_true, true_or, and_self, and_true, true_and])) ?_)
  refine eN_aload_n (M := ML_vault) (k := 2) rfl dL_vault_278 (pc' := 279) rfl rfl ?_
  refine eN_aload_n (M := ML_vault) (k := 3) rfl dL_vault_279 (pc' := 280) rfl rfl ?_
  refine eN_iload (M := ML_vault) dL_vault_280 (pc' := 282) rfl rfl ?_
  refine (ev_iconst (M := ML_vault) (v := (nI 3)) rfl dL_vault_282 (pc' := 283) rfl).mpr ?_
  refine eN_idiv (M := ML_vault) dL_vault_283 (pc' := 284) rfl (by omega) ?_
  refine eN_iload (M := ML_vault) dL_vault_284 (pc' := 286) rfl rfl ?_
  refine (ev_iconst (M := ML_vault) (v := (nI 3)) rfl dL_vault_286 (pc' := 287) rfl).mpr ?_
  refine eN_idiv (M := ML_vault) dL_vault_287 (pc' := 288) rfl (by omega) ?_
  refine (ev_cS4 (M := ML_vault) dL_vault_288 c_9_183 (by decide) mL_areVersions rfl rfl (pc' := 291) rfl).mpr ⟨(Nat.le_of_ble_eq_true rfl), eN_c c1 (by first | rfl | (simp (disch := omega) only [nI_add, i_sub]) | (simp only [*])) ?_⟩
  refine (ev_if_eq (M := ML_vault) (t := 309) dL_vault_291 (by decide) (pc' := 294) rfl).mpr (ifF (by first | assumption | omega | rfl | exact fun q => q (by assumption) | exact fun q => q rfl | (simp (disch := omega) only [nle_t, nle_f, nlt_t, nlt_f, neq_t, neq_f, i_lt0, i_le0, i_0le, i_0lt, i_eq0, i_lt, i_le, i_eq, nI_add, i_sub, i_cl, i_m1a, i_m1b, i_m1c, i_m1d, i_m1e, i_am1, i_ite0, m1_le, m1_m1, m1_ge0, not_true_eq_false, not_false_eq_true, or_self, or_false, false_or, or_true, true_or, and_self, and_true, true_and])) ?_)
  refine eN_aload_n (M := ML_vault) (k := 2) rfl dL_vault_294 (pc' := 295) rfl rfl ?_
  refine eN_aload_n (M := ML_vault) (k := 3) rfl dL_vault_295 (pc' := 296) rfl rfl ?_
  refine (ev_cS2 (M := ML_vault) dL_vault_296 c_9_186 (by decide) mL_areChunks rfl rfl (pc' := 299) rfl).mpr ⟨(Nat.le_of_ble_eq_true rfl), eN_c c2 (by first | rfl | (simp (disch := omega) only [nI_add, i_sub]) | (simp only [*])) ?_⟩
  refine (ev_if_eq (M := ML_vault) (t := 309) dL_vault_299 (by decide) (pc' := 302) rfl).mpr (ifF (by first | assumption | omega | rfl | exact fun q => q (by assumption) | exact fun q => q rfl | (simp (disch := omega) only [nle_t, nle_f, nlt_t, nlt_f, neq_t, neq_f, i_lt0, i_le0, i_0le, i_0lt, i_eq0, i_lt, i_le, i_eq, nI_add, i_sub, i_cl, i_m1a, i_m1b, i_m1c, i_m1d, i_m1e, i_am1, i_ite0, m1_le, m1_m1, m1_ge0, not_true_eq_false, not_false_eq_true, or_self, or_false, false_or, or_true, true_or, and_self, and_true, true_and])) ?_)
  refine eN_aload_n (M := ML_vault) (k := 2) rfl dL_vault_302 (pc' := 303) rfl rfl ?_
  refine (ev_cS1 (M := ML_vault) dL_vault_303 c_9_189 (by decide) mL_isCache rfl rfl (pc' := 306) rfl).mpr ⟨(Nat.le_of_ble_eq_true rfl), eN_c c3 (by first | rfl | (simp (disch := omega) only [nI_add, i_sub]) | (simp only [*])) ?_⟩
  refine (ev_if_ne (M := ML_vault) (t := 311) dL_vault_306 (by decide) (pc' := 309) rfl).mpr (ifT (by first | assumption | omega | rfl | exact fun q => q (by assumption) | exact fun q => q rfl | (simp (disch := omega) only [nle_t, nle_f, nlt_t, nlt_f, neq_t, neq_f, i_lt0, i_le0, i_0le, i_0lt, i_eq0, i_lt, i_le, i_eq, nI_add, i_sub, i_cl, i_m1a, i_m1b, i_m1c, i_m1d, i_m1e, i_am1, i_ite0, m1_le, m1_m1, m1_ge0, not_true_eq_false, not_false_eq_true, or_self, or_false, false_or, or_true, true_or, and_self, and_true, true_and])) ?_)
  refine eN_iinc (M := ML_vault) (v := 1) rfl dL_vault_311 (by decide) (pc' := 314) rfl rfl ?_
  refine (ev_goto (M := ML_vault) (pc' := 22) dL_vault_314 (by decide)).mpr ?_
  exact ev_more (by repeat (first | exact trivial | refine ⟨rfl, ?_⟩)) (by exact rfl) (by exact rfl) hq
theorem Z_vab (hQ : Q (.inl (some (.int (nI 1)))) T) : Ev (d + 10) ML_vault [] 22 [(5, .int (nI 40)), (4, .ref (G + 1)), (3, .ref G), (2, .ref X), (0, .ref S), (1, .int (nI a))] [] T Q := by
  refine eN_iload (M := ML_vault) dL_vault_22 (pc' := 24) rfl rfl ?_
  refine (ev_bipush (M := ML_vault) (v := (nI 40)) rfl dL_vault_24 (pc' := 26) rfl).mpr ?_
  refine (ev_icmp_ge (M := ML_vault) (t := 317) dL_vault_26 (by decide) (pc' := 29) rfl).mpr (ifT (by first | assumption | omega | rfl | exact fun q => q (by assumption) | exact fun q => q rfl | (simp (disch := omega) only [nle_t, nle_f, nlt_t, nlt_f, neq_t, neq_f, i_lt0, i_le0, i_0le, i_0lt, i_eq0, i_lt, i_le, i_eq, nI_add, i_sub, i_cl, i_m1a, i_m1b, i_m1c, i_m1d, i_m1e, i_am1, i_ite0, m1_le, m1_m1, m1_ge0, not_true_eq_false, not_false_eq_true, or_self, or_false, false_or, or_true, true_or, and_self, and_true, true_and])) ?_)
  refine (ev_iconst (M := ML_vault) (v := (nI 1)) rfl dL_vault_317 (pc' := 318) rfl).mpr ?_
  refine (ev_zretI (M := ML_vault) rfl dL_vault_318 (by omega)).mpr ?_
  exact hQ
end Z
end VLT
