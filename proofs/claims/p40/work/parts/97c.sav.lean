/-! saves -/
section SAV
variable {d S X G L n0 u0 c : Nat} {va ba ca : Nat → Nat} {dr kl : List Nat} {vf vn : Nat → Nat} {vb ve : Nat → List Nat} {vp : Nat → Option Nat} {nx na : Nat → Nat} {sv : Nat} {cb : Nat → List Nat} {us : Nat → Nat} {bl cs : List Nat} {co : Nat → List Nat} {op hi re st : Nat} {rw : List Nat} {bx : Nat → Nat} {ud : Nat} {T T' T1 T2 : TS}
theorem sJ_id {a i : Nat} {v : Int64} (h : tJ T a i = v) : sJ a i v T = T := by
  have e : up2 (tJ T) a i v = tJ T := by
    funext b j
    rw [up2_e]
    split
    · rename_i q; rw [q.1, q.2, h]
    · rfl
  unfold sJ
  rw [e]
  rfl
theorem sJ_sJ {a i : Nat} {v w : Int64} : sJ a i v (sJ a i w T) = sJ a i v T := by
  have e : up2 (up2 (tJ T) a i w) a i v = up2 (tJ T) a i v := by
    funext b j
    rw [up2_e, up2_e, up2_e]
    split <;> rfl
  unfold sJ
  show (_, _, _, _, _, _, _, up2 (up2 (tJ T) a i w) a i v, _) = _
  rw [e]
  rfl
section Z
variable {j v w s h r w' n e m i p q : Nat} {lt : Int32} {Q : Post}
theorem Z_sa1 (k8 : tK T X = 8) (k8' : tK T1 X = 8) (hh : h < 1000000) (hr : r < 1000000) (hv : v < 1000000) (c0 : Call (d + 9) 88 [.ref X] T (.inl (some (.int (nI w)))) T1) (c1 : Call (d + 9) 113 [.ref X] T1 (.inl (some (.int (nI s)))) T1) (c2 : Call (d + 9) 111 [.ref X] T1 (.inl (some (.int (nI h)))) T1) (c3 : Call (d + 9) 112 [.ref X] T1 (.inl (some (.int (nI r)))) T1) (c4 : Call (d + 9) 93 [.ref X, .int (nI j)] T1 (.inl (some (.int lt))) T1) (c5 : Call (d + 9) 87 [.ref X, .int (nI j)] T1 (.inl (some (.int (nI v)))) T2) (hq : Ev (d + 9) ML_saves [] 51 [(9, .int (nI v)), (8, .int lt), (7, .int (nI h)), (6, .int (nI (h + r))), (5, .int (nI s)), (4, .int (nI w)), (0, .ref X), (1, .ref G), (2, .int (nI j)), (3, .int (nI v))] [] T2 Q) : Ev (d + 9) ML_saves [] 0 [(0, .ref X), (1, .ref G), (2, .int (nI j)), (3, .int (nI v))] [] T Q := by
  refine eN_aload_n (M := ML_saves) (k := 0) rfl dL_saves_0 (pc' := 1) rfl rfl ?_
  refine (ev_cV0 (M := ML_saves) (kk := 8) dL_saves_1 c_9_117 mX6_wouldStore rfl rfl (by decide) rfl (pc' := 4) rfl).mpr ⟨(by assumption), (Nat.le_of_ble_eq_true rfl), eN_c c0 (by first | rfl | (simp (disch := omega) only [nI_add, i_sub]) | (simp only [*])) ?_⟩
  refine (ev_istore (M := ML_saves) dL_saves_4 (by decide) (pc' := 6) rfl).mpr ?_
  refine eN_aload_n (M := ML_saves) (k := 0) rfl dL_saves_6 (pc' := 7) rfl rfl ?_
  refine (ev_cV0 (M := ML_saves) (kk := 8) dL_saves_7 c_9_101 mX6_storedBytes rfl rfl (by decide) rfl (pc' := 10) rfl).mpr ⟨(by assumption), (Nat.le_of_ble_eq_true rfl), eN_c c1 (by first | rfl | (simp (disch := omega) only [nI_add, i_sub]) | (simp only [*])) ?_⟩
  refine (ev_istore (M := ML_saves) dL_saves_10 (by decide) (pc' := 12) rfl).mpr ?_
  refine eN_aload_n (M := ML_saves) (k := 0) rfl dL_saves_12 (pc' := 13) rfl rfl ?_
  refine (ev_cV0 (M := ML_saves) (kk := 8) dL_saves_13 c_9_120 mX6_cacheHits rfl rfl (by decide) rfl (pc' := 16) rfl).mpr ⟨(by assumption), (Nat.le_of_ble_eq_true rfl), eN_c c2 (by first | rfl | (simp (disch := omega) only [nI_add, i_sub]) | (simp only [*])) ?_⟩
  refine eN_aload_n (M := ML_saves) (k := 0) rfl dL_saves_16 (pc' := 17) rfl rfl ?_
  refine (ev_cV0 (M := ML_saves) (kk := 8) dL_saves_17 c_9_123 mX6_indexReads rfl rfl (by decide) rfl (pc' := 20) rfl).mpr ⟨(by assumption), (Nat.le_of_ble_eq_true rfl), eN_c c3 (by first | rfl | (simp (disch := omega) only [nI_add, i_sub]) | (simp only [*])) ?_⟩
  refine eN_iadd (M := ML_saves) dL_saves_20 (pc' := 21) rfl ?_
  refine (ev_istore (M := ML_saves) dL_saves_21 (by decide) (pc' := 23) rfl).mpr ?_
  refine eN_aload_n (M := ML_saves) (k := 0) rfl dL_saves_23 (pc' := 24) rfl rfl ?_
  refine (ev_cV0 (M := ML_saves) (kk := 8) dL_saves_24 c_9_120 mX6_cacheHits rfl rfl (by decide) rfl (pc' := 27) rfl).mpr ⟨(by assumption), (Nat.le_of_ble_eq_true rfl), eN_c c2 (by first | rfl | (simp (disch := omega) only [nI_add, i_sub]) | (simp only [*])) ?_⟩
  refine (ev_istore (M := ML_saves) dL_saves_27 (by decide) (pc' := 29) rfl).mpr ?_
  refine eN_aload_n (M := ML_saves) (k := 0) rfl dL_saves_29 (pc' := 30) rfl rfl ?_
  refine eN_iload_n (M := ML_saves) (k := 2) rfl dL_saves_30 (pc' := 31) rfl rfl ?_
  refine (ev_cV1 (M := ML_saves) (kk := 8) dL_saves_31 c_9_59 mX6_latest rfl rfl (by decide) rfl (pc' := 34) rfl).mpr ⟨(by assumption), (Nat.le_of_ble_eq_true rfl), eN_c c4 (by first | rfl | (simp (disch := omega) only [nI_add, i_sub]) | (simp only [*])) ?_⟩
  refine (ev_istore (M := ML_saves) dL_saves_34 (by decide) (pc' := 36) rfl).mpr ?_
  refine eN_aload_n (M := ML_saves) (k := 0) rfl dL_saves_36 (pc' := 37) rfl rfl ?_
  refine eN_iload_n (M := ML_saves) (k := 2) rfl dL_saves_37 (pc' := 38) rfl rfl ?_
  refine (ev_cV1 (M := ML_saves) (kk := 8) dL_saves_38 c_9_126 mX6_save rfl rfl (by decide) rfl (pc' := 41) rfl).mpr ⟨(by assumption), (Nat.le_of_ble_eq_true rfl), eN_c c5 (by first | rfl | (simp (disch := omega) only [nI_add, i_sub]) | (simp only [*])) ?_⟩
  refine (ev_istore (M := ML_saves) dL_saves_41 (by decide) (pc' := 43) rfl).mpr ?_
  refine eN_iload (M := ML_saves) dL_saves_43 (pc' := 45) rfl rfl ?_
  refine eN_iload_n (M := ML_saves) (k := 3) rfl dL_saves_45 (pc' := 46) rfl rfl ?_
  refine (ev_icmp_eq (M := ML_saves) (t := 51) dL_saves_46 (by decide) (pc' := 49) rfl).mpr (ifT (by first | assumption | omega | rfl | exact fun q => q (by assumption) | exact fun q => q rfl | (simp (disch := omega) only [nle_t, nle_f, nlt_t, nlt_f, neq_t, neq_f, i_lt0, i_le0, i_0le, i_0lt, i_eq0, i_lt, i_le, i_eq, nI_add, i_sub, i_cl, i_m1a, i_m1b, i_m1c, i_m1d, i_m1e, i_am1, i_ite0, m1_le, m1_m1, m1_ge0, not_true_eq_false, not_false_eq_true, or_self, or_false, false_or, or_true, true_or, and_self, and_true, true_and])) ?_)
  exact ev_more (by repeat (first | exact trivial | refine ⟨rfl, ?_⟩)) (by exact rfl) (by exact rfl) hq
theorem Z_sa2 (g1 : tK T G = 22) (g2 : tl T G = 7) (hj : j < 6) (hv : v < 64) (hq : Ev (d + 9) ML_saves [] 61 [(9, .int (nI v)), (8, .int lt), (7, .int (nI h)), (6, .int (nI r)), (5, .int (nI s)), (4, .int (nI w)), (0, .ref X), (1, .ref G), (2, .int (nI j)), (3, .int (nI v))] [] (sJ G j (tJ T G j ||| (1 <<< ((nI v).toInt64 &&& 63))) T) Q) : Ev (d + 9) ML_saves [] 51 [(9, .int (nI v)), (8, .int lt), (7, .int (nI h)), (6, .int (nI r)), (5, .int (nI s)), (4, .int (nI w)), (0, .ref X), (1, .ref G), (2, .int (nI j)), (3, .int (nI v))] [] T Q := by
  refine eN_aload_n (M := ML_saves) (k := 1) rfl dL_saves_51 (pc' := 52) rfl rfl ?_
  refine eN_iload_n (M := ML_saves) (k := 2) rfl dL_saves_52 (pc' := 53) rfl rfl ?_
  refine (ev_dup2 (M := ML_saves) dL_saves_53 (pc' := 54) rfl).mpr ?_
  refine eN_laload (M := ML_saves) dL_saves_54 (pc' := 55) rfl (by assumption) (by assumption) (by omega) ?_
  refine (ev_lconst (M := ML_saves) (v := 1) rfl dL_saves_55 (pc' := 56) rfl).mpr ?_
  refine eN_iload (M := ML_saves) dL_saves_56 (pc' := 58) rfl rfl ?_
  refine (ev_lshl (M := ML_saves) dL_saves_58 (pc' := 59) rfl).mpr ?_
  refine (ev_lor (M := ML_saves) dL_saves_59 (pc' := 60) rfl).mpr ?_
  refine eN_lastore (M := ML_saves) dL_saves_60 (pc' := 61) rfl (by assumption) (by assumption) (by omega) ?_
  exact ev_more (by repeat (first | exact trivial | refine ⟨rfl, ?_⟩)) (by exact rfl) (by exact rfl) hq
theorem Z_sa3 {l N : Nat} (k8 : tK T X = 8) (k8' : tK T1 X = 8) (hl : l ≤ 240) (hs : s < 1000000) (hw : w < 1000000) (hh : h < 1000000) (h2 : p < 1000000) (hhp : h ≤ p) (hq2 : q < 1000000) (hN : N ≤ 30) (hr : r < 2000000) (hpq : p + q = r + N) (c1 : Call (d + 9) 94 [.ref X, .int (nI j), .int (nI v)] T (.inl (some (.int (nI l)))) T) (c2 : Call (d + 9) 85 [.ref X] T (.inl (some (.int (nI l)))) T) (c3 : Call (d + 9) 113 [.ref X] T (.inl (some (.int (nI (s + w))))) T) (c4 : Call (d + 9) 88 [.ref X] T (.inl (some (.int (nI 0)))) T1) (c5 : Call (d + 9) 111 [.ref X] T1 (.inl (some (.int (nI p)))) T1) (c6 : Call (d + 9) 112 [.ref X] T1 (.inl (some (.int (nI q)))) T1) (c7 : Call (d + 9) 97 [.ref X, .int (nI j), .int (nI v)] T1 (.inl (some (.int (nI N)))) T1) (hq : Ev (d + 9) ML_saves [] 135 [(11, .int (nI 0)), (10, .int (nI 1)), (9, .int (nI v)), (8, .int lt), (0, .ref X), (1, .ref G), (2, .int (nI j))] [] T1 Q) : Ev (d + 9) ML_saves [] 61 [(9, .int (nI v)), (8, .int lt), (7, .int (nI h)), (6, .int (nI r)), (5, .int (nI s)), (4, .int (nI w)), (0, .ref X), (1, .ref G), (2, .int (nI j)), (3, .int (nI v))] [] T Q := by
  refine eN_aload_n (M := ML_saves) (k := 0) rfl dL_saves_61 (pc' := 62) rfl rfl ?_
  refine eN_iload_n (M := ML_saves) (k := 2) rfl dL_saves_62 (pc' := 63) rfl rfl ?_
  refine eN_iload (M := ML_saves) dL_saves_63 (pc' := 65) rfl rfl ?_
  refine (ev_cV2 (M := ML_saves) (kk := 8) dL_saves_65 c_9_16 mX6_length rfl rfl (by decide) rfl (pc' := 68) rfl).mpr ⟨(by assumption), (Nat.le_of_ble_eq_true rfl), eN_c c1 (by first | rfl | (simp (disch := omega) only [nI_add, i_sub]) | (simp only [*])) ?_⟩
  refine eN_aload_n (M := ML_saves) (k := 0) rfl dL_saves_68 (pc' := 69) rfl rfl ?_
  refine (ev_cV0 (M := ML_saves) (kk := 8) dL_saves_69 c_9_129 mX6_draftLength rfl rfl (by decide) rfl (pc' := 72) rfl).mpr ⟨(by assumption), (Nat.le_of_ble_eq_true rfl), eN_c c2 (by first | rfl | (simp (disch := omega) only [nI_add, i_sub]) | (simp only [*])) ?_⟩
  refine (ev_icmp_ne (M := ML_saves) (t := 129) dL_saves_72 (by decide) (pc' := 75) rfl).mpr (ifF (by first | assumption | omega | rfl | exact fun q => q (by assumption) | exact fun q => q rfl | (simp (disch := omega) only [nle_t, nle_f, nlt_t, nlt_f, neq_t, neq_f, i_lt0, i_le0, i_0le, i_0lt, i_eq0, i_lt, i_le, i_eq, nI_add, i_sub, i_cl, i_m1a, i_m1b, i_m1c, i_m1d, i_m1e, i_am1, i_ite0, m1_le, m1_m1, m1_ge0, not_true_eq_false, not_false_eq_true, or_self, or_false, false_or, or_true, true_or, and_self, and_true, true_and])) ?_)
  refine eN_aload_n (M := ML_saves) (k := 0) rfl dL_saves_75 (pc' := 76) rfl rfl ?_
  refine (ev_cV0 (M := ML_saves) (kk := 8) dL_saves_76 c_9_101 mX6_storedBytes rfl rfl (by decide) rfl (pc' := 79) rfl).mpr ⟨(by assumption), (Nat.le_of_ble_eq_true rfl), eN_c c3 (by first | rfl | (simp (disch := omega) only [nI_add, i_sub]) | (simp only [*])) ?_⟩
  refine eN_iload (M := ML_saves) dL_saves_79 (pc' := 81) rfl rfl ?_
  refine eN_iload (M := ML_saves) dL_saves_81 (pc' := 83) rfl rfl ?_
  refine eN_iadd (M := ML_saves) dL_saves_83 (pc' := 84) rfl ?_
  refine (ev_icmp_ne (M := ML_saves) (t := 129) dL_saves_84 (by decide) (pc' := 87) rfl).mpr (ifF (by first | assumption | omega | rfl | exact fun q => q (by assumption) | exact fun q => q rfl | (simp (disch := omega) only [nle_t, nle_f, nlt_t, nlt_f, neq_t, neq_f, i_lt0, i_le0, i_0le, i_0lt, i_eq0, i_lt, i_le, i_eq, nI_add, i_sub, i_cl, i_m1a, i_m1b, i_m1c, i_m1d, i_m1e, i_am1, i_ite0, m1_le, m1_m1, m1_ge0, not_true_eq_false, not_false_eq_true, or_self, or_false, false_or, or_true, true_or, and_self, and_true, true_and])) ?_)
  refine eN_aload_n (M := ML_saves) (k := 0) rfl dL_saves_87 (pc' := 88) rfl rfl ?_
  refine (ev_cV0 (M := ML_saves) (kk := 8) dL_saves_88 c_9_117 mX6_wouldStore rfl rfl (by decide) rfl (pc' := 91) rfl).mpr ⟨(by assumption), (Nat.le_of_ble_eq_true rfl), eN_c c4 (by first | rfl | (simp (disch := omega) only [nI_add, i_sub]) | (simp only [*])) ?_⟩
  refine (ev_if_ne (M := ML_saves) (t := 129) dL_saves_91 (by decide) (pc' := 94) rfl).mpr (ifF (by first | assumption | omega | rfl | exact fun q => q (by assumption) | exact fun q => q rfl | (simp (disch := omega) only [nle_t, nle_f, nlt_t, nlt_f, neq_t, neq_f, i_lt0, i_le0, i_0le, i_0lt, i_eq0, i_lt, i_le, i_eq, nI_add, i_sub, i_cl, i_m1a, i_m1b, i_m1c, i_m1d, i_m1e, i_am1, i_ite0, m1_le, m1_m1, m1_ge0, not_true_eq_false, not_false_eq_true, or_self, or_false, false_or, or_true, true_or, and_self, and_true, true_and])) ?_)
  refine eN_aload_n (M := ML_saves) (k := 0) rfl dL_saves_94 (pc' := 95) rfl rfl ?_
  refine (ev_cV0 (M := ML_saves) (kk := 8) dL_saves_95 c_9_120 mX6_cacheHits rfl rfl (by decide) rfl (pc' := 98) rfl).mpr ⟨(by assumption), (Nat.le_of_ble_eq_true rfl), eN_c c5 (by first | rfl | (simp (disch := omega) only [nI_add, i_sub]) | (simp only [*])) ?_⟩
  refine eN_iload (M := ML_saves) dL_saves_98 (pc' := 100) rfl rfl ?_
  refine (ev_icmp_lt (M := ML_saves) (t := 129) dL_saves_100 (by decide) (pc' := 103) rfl).mpr (ifF (by first | assumption | omega | rfl | exact fun q => q (by assumption) | exact fun q => q rfl | (simp (disch := omega) only [nle_t, nle_f, nlt_t, nlt_f, neq_t, neq_f, i_lt0, i_le0, i_0le, i_0lt, i_eq0, i_lt, i_le, i_eq, nI_add, i_sub, i_cl, i_m1a, i_m1b, i_m1c, i_m1d, i_m1e, i_am1, i_ite0, m1_le, m1_m1, m1_ge0, not_true_eq_false, not_false_eq_true, or_self, or_false, false_or, or_true, true_or, and_self, and_true, true_and])) ?_)
  refine eN_aload_n (M := ML_saves) (k := 0) rfl dL_saves_103 (pc' := 104) rfl rfl ?_
  refine (ev_cV0 (M := ML_saves) (kk := 8) dL_saves_104 c_9_120 mX6_cacheHits rfl rfl (by decide) rfl (pc' := 107) rfl).mpr ⟨(by assumption), (Nat.le_of_ble_eq_true rfl), eN_c c5 (by first | rfl | (simp (disch := omega) only [nI_add, i_sub]) | (simp only [*])) ?_⟩
  refine eN_aload_n (M := ML_saves) (k := 0) rfl dL_saves_107 (pc' := 108) rfl rfl ?_
  refine (ev_cV0 (M := ML_saves) (kk := 8) dL_saves_108 c_9_123 mX6_indexReads rfl rfl (by decide) rfl (pc' := 111) rfl).mpr ⟨(by assumption), (Nat.le_of_ble_eq_true rfl), eN_c c6 (by first | rfl | (simp (disch := omega) only [nI_add, i_sub]) | (simp only [*])) ?_⟩
  refine eN_iadd (M := ML_saves) dL_saves_111 (pc' := 112) rfl ?_
  refine eN_iload (M := ML_saves) dL_saves_112 (pc' := 114) rfl rfl ?_
  refine eN_aload_n (M := ML_saves) (k := 0) rfl dL_saves_114 (pc' := 115) rfl rfl ?_
  refine eN_iload_n (M := ML_saves) (k := 2) rfl dL_saves_115 (pc' := 116) rfl rfl ?_
  refine eN_iload (M := ML_saves) dL_saves_116 (pc' := 118) rfl rfl ?_
  refine (ev_cV2 (M := ML_saves) (kk := 8) dL_saves_118 c_9_29 mX6_chunksOf rfl rfl (by decide) rfl (pc' := 121) rfl).mpr ⟨(by assumption), (Nat.le_of_ble_eq_true rfl), eN_c c7 (by first | rfl | (simp (disch := omega) only [nI_add, i_sub]) | (simp only [*])) ?_⟩
  refine eN_iadd (M := ML_saves) dL_saves_121 (pc' := 122) rfl ?_
  refine (ev_icmp_ne (M := ML_saves) (t := 129) dL_saves_122 (by decide) (pc' := 125) rfl).mpr (ifF (by first | assumption | omega | rfl | exact fun q => q (by assumption) | exact fun q => q rfl | (simp (disch := omega) only [nle_t, nle_f, nlt_t, nlt_f, neq_t, neq_f, i_lt0, i_le0, i_0le, i_0lt, i_eq0, i_lt, i_le, i_eq, nI_add, i_sub, i_cl, i_m1a, i_m1b, i_m1c, i_m1d, i_m1e, i_am1, i_ite0, m1_le, m1_m1, m1_ge0, not_true_eq_false, not_false_eq_true, or_self, or_false, false_or, or_true, true_or, and_self, and_true, true_and])) ?_)
  refine (ev_iconst (M := ML_saves) (v := (nI 1)) rfl dL_saves_125 (pc' := 126) rfl).mpr ?_
  refine (ev_goto (M := ML_saves) (pc' := 130) dL_saves_126 (by decide)).mpr ?_
  refine (ev_istore (M := ML_saves) dL_saves_130 (by decide) (pc' := 132) rfl).mpr ?_
  refine (ev_iconst (M := ML_saves) (v := (nI 0)) rfl dL_saves_132 (pc' := 133) rfl).mpr ?_
  refine (ev_istore (M := ML_saves) dL_saves_133 (by decide) (pc' := 135) rfl).mpr ?_
  exact ev_more (by repeat (first | exact trivial | refine ⟨rfl, ?_⟩)) (by exact rfl) (by exact rfl) hq
theorem Z_sa4 {l : Nat} (k8 : tK T X = 8) (hl : l ≤ 240) (hi : i < l) (he : e < 256) (c1 : Call (d + 9) 85 [.ref X] T (.inl (some (.int (nI l)))) T) (c2 : Call (d + 9) 96 [.ref X, .int (nI j), .int (nI v), .int (nI i)] T (.inl (some (.int (nI e)))) T) (c3 : Call (d + 9) 86 [.ref X, .int (nI i)] T (.inl (some (.int (nI e)))) T) (hq : Ev (d + 9) ML_saves [] 135 [(11, .int (nI (i + 1))), (10, .int (nI 1)), (9, .int (nI v)), (8, .int lt), (0, .ref X), (1, .ref G), (2, .int (nI j))] [] T Q) : Ev (d + 9) ML_saves [] 135 [(11, .int (nI i)), (10, .int (nI 1)), (9, .int (nI v)), (8, .int lt), (0, .ref X), (1, .ref G), (2, .int (nI j))] [] T Q := by
  refine eN_iload (M := ML_saves) dL_saves_135 (pc' := 137) rfl rfl ?_
  refine eN_aload_n (M := ML_saves) (k := 0) rfl dL_saves_137 (pc' := 138) rfl rfl ?_
  refine (ev_cV0 (M := ML_saves) (kk := 8) dL_saves_138 c_9_129 mX6_draftLength rfl rfl (by decide) rfl (pc' := 141) rfl).mpr ⟨(by assumption), (Nat.le_of_ble_eq_true rfl), eN_c c1 (by first | rfl | (simp (disch := omega) only [nI_add, i_sub]) | (simp only [*])) ?_⟩
  refine (ev_icmp_ge (M := ML_saves) (t := 180) dL_saves_141 (by decide) (pc' := 144) rfl).mpr (ifF (by first | assumption | omega | rfl | exact fun q => q (by assumption) | exact fun q => q rfl | (simp (disch := omega) only [nle_t, nle_f, nlt_t, nlt_f, neq_t, neq_f, i_lt0, i_le0, i_0le, i_0lt, i_eq0, i_lt, i_le, i_eq, nI_add, i_sub, i_cl, i_m1a, i_m1b, i_m1c, i_m1d, i_m1e, i_am1, i_ite0, m1_le, m1_m1, m1_ge0, not_true_eq_false, not_false_eq_true, or_self, or_false, false_or, or_true, true_or, and_self, and_true, true_and])) ?_)
  refine eN_iload (M := ML_saves) dL_saves_144 (pc' := 146) rfl rfl ?_
  refine (ev_if_eq (M := ML_saves) (t := 171) dL_saves_146 (by decide) (pc' := 149) rfl).mpr (ifF (by first | assumption | omega | rfl | exact fun q => q (by assumption) | exact fun q => q rfl | (simp (disch := omega) only [nle_t, nle_f, nlt_t, nlt_f, neq_t, neq_f, i_lt0, i_le0, i_0le, i_0lt, i_eq0, i_lt, i_le, i_eq, nI_add, i_sub, i_cl, i_m1a, i_m1b, i_m1c, i_m1d, i_m1e, i_am1, i_ite0, m1_le, m1_m1, m1_ge0, not_true_eq_false, not_false_eq_true, or_self, or_false, false_or, or_true, true_or, and_self, and_true, true_and])) ?_)
  refine eN_aload_n (M := ML_saves) (k := 0) rfl dL_saves_149 (pc' := 150) rfl rfl ?_
  refine eN_iload_n (M := ML_saves) (k := 2) rfl dL_saves_150 (pc' := 151) rfl rfl ?_
  refine eN_iload (M := ML_saves) dL_saves_151 (pc' := 153) rfl rfl ?_
  refine eN_iload (M := ML_saves) dL_saves_153 (pc' := 155) rfl rfl ?_
  refine (ev_cV3 (M := ML_saves) (kk := 8) dL_saves_155 c_9_26 mX6_byteByCopy rfl rfl (by decide) rfl (pc' := 158) rfl).mpr ⟨(by assumption), (Nat.le_of_ble_eq_true rfl), eN_c c2 (by first | rfl | (simp (disch := omega) only [nI_add, i_sub]) | (simp only [*])) ?_⟩
  refine eN_aload_n (M := ML_saves) (k := 0) rfl dL_saves_158 (pc' := 159) rfl rfl ?_
  refine eN_iload (M := ML_saves) dL_saves_159 (pc' := 161) rfl rfl ?_
  refine (ev_cV1 (M := ML_saves) (kk := 8) dL_saves_161 c_9_132 mX6_draftAt rfl rfl (by decide) rfl (pc' := 164) rfl).mpr ⟨(by assumption), (Nat.le_of_ble_eq_true rfl), eN_c c3 (by first | rfl | (simp (disch := omega) only [nI_add, i_sub]) | (simp only [*])) ?_⟩
  refine (ev_icmp_ne (M := ML_saves) (t := 171) dL_saves_164 (by decide) (pc' := 167) rfl).mpr (ifF (by first | assumption | omega | rfl | exact fun q => q (by assumption) | exact fun q => q rfl | (simp (disch := omega) only [nle_t, nle_f, nlt_t, nlt_f, neq_t, neq_f, i_lt0, i_le0, i_0le, i_0lt, i_eq0, i_lt, i_le, i_eq, nI_add, i_sub, i_cl, i_m1a, i_m1b, i_m1c, i_m1d, i_m1e, i_am1, i_ite0, m1_le, m1_m1, m1_ge0, not_true_eq_false, not_false_eq_true, or_self, or_false, false_or, or_true, true_or, and_self, and_true, true_and])) ?_)
  refine (ev_iconst (M := ML_saves) (v := (nI 1)) rfl dL_saves_167 (pc' := 168) rfl).mpr ?_
  refine (ev_goto (M := ML_saves) (pc' := 172) dL_saves_168 (by decide)).mpr ?_
  refine (ev_istore (M := ML_saves) dL_saves_172 (by decide) (pc' := 174) rfl).mpr ?_
  refine eN_iinc (M := ML_saves) (v := 1) rfl dL_saves_174 (by decide) (pc' := 177) rfl rfl ?_
  refine (ev_goto (M := ML_saves) (pc' := 135) dL_saves_177 (by decide)).mpr ?_
  exact ev_more (by repeat (first | exact trivial | refine ⟨rfl, ?_⟩)) (by exact rfl) (by exact rfl) hq
theorem Z_sa5 {l : Nat} (k8 : tK T X = 8) (hl : l ≤ 240) (c1 : Call (d + 9) 85 [.ref X] T (.inl (some (.int (nI l)))) T) (hq : Ev (d + 9) ML_saves [] 183 [(11, .int (nI 0)), (10, .int (nI 1)), (9, .int (nI v)), (8, .int lt), (0, .ref X), (1, .ref G), (2, .int (nI j))] [] T Q) : Ev (d + 9) ML_saves [] 135 [(11, .int (nI l)), (10, .int (nI 1)), (9, .int (nI v)), (8, .int lt), (0, .ref X), (1, .ref G), (2, .int (nI j))] [] T Q := by
  refine eN_iload (M := ML_saves) dL_saves_135 (pc' := 137) rfl rfl ?_
  refine eN_aload_n (M := ML_saves) (k := 0) rfl dL_saves_137 (pc' := 138) rfl rfl ?_
  refine (ev_cV0 (M := ML_saves) (kk := 8) dL_saves_138 c_9_129 mX6_draftLength rfl rfl (by decide) rfl (pc' := 141) rfl).mpr ⟨(by assumption), (Nat.le_of_ble_eq_true rfl), eN_c c1 (by first | rfl | (simp (disch := omega) only [nI_add, i_sub]) | (simp only [*])) ?_⟩
  refine (ev_icmp_ge (M := ML_saves) (t := 180) dL_saves_141 (by decide) (pc' := 144) rfl).mpr (ifT (by first | assumption | omega | rfl | exact fun q => q (by assumption) | exact fun q => q rfl | (simp (disch := omega) only [nle_t, nle_f, nlt_t, nlt_f, neq_t, neq_f, i_lt0, i_le0, i_0le, i_0lt, i_eq0, i_lt, i_le, i_eq, nI_add, i_sub, i_cl, i_m1a, i_m1b, i_m1c, i_m1d, i_m1e, i_am1, i_ite0, m1_le, m1_m1, m1_ge0, not_true_eq_false, not_false_eq_true, or_self, or_false, false_or, or_true, true_or, and_self, and_true, true_and])) ?_)
  refine (ev_iconst (M := ML_saves) (v := (nI 0)) rfl dL_saves_180 (pc' := 181) rfl).mpr ?_
  refine (ev_istore (M := ML_saves) dL_saves_181 (by decide) (pc' := 183) rfl).mpr ?_
  exact ev_more (by repeat (first | exact trivial | refine ⟨rfl, ?_⟩)) (by exact rfl) (by exact rfl) hq
theorem Z_sa6 {N : Nat} (k8 : tK T X = 8) (g1 : tK T G = 22) (g2 : tl T G = 7) (g3 : tJ T G 6 = jN m) (hm : m < 1000000) (hN : N ≤ 30) (hi : i < N) (he : e < 1000000) (c1 : Call (d + 9) 97 [.ref X, .int (nI j), .int (nI v)] T (.inl (some (.int (nI N)))) T) (c2 : Call (d + 9) 98 [.ref X, .int (nI j), .int (nI v), .int (nI i)] T (.inl (some (.int (nI e)))) T) (k8' : tK (sJ G 6 (jN (max m (e + 1))) T) X = 8) (c3 : Call (d + 9) 102 [.ref X, .int (nI e)] (sJ G 6 (jN (max m (e + 1))) T) (.inl (some (.int (nI 1)))) (sJ G 6 (jN (max m (e + 1))) T)) (hq : Ev (d + 9) ML_saves [] 183 [(11, .int (nI (i + 1))), (10, .int (nI 1)), (9, .int (nI v)), (8, .int lt), (0, .ref X), (1, .ref G), (2, .int (nI j))] [] (sJ G 6 (jN (max m (e + 1))) T) Q) : Ev (d + 9) ML_saves [] 183 [(11, .int (nI i)), (10, .int (nI 1)), (9, .int (nI v)), (8, .int lt), (0, .ref X), (1, .ref G), (2, .int (nI j))] [] T Q := by
  by_cases h : e + 1 ≤ m
  · have hle : lg_cmp (nI (e + 1)).toInt64 (tJ T G 6) ≤ 0 := by rw [g3, lj_le (by omega) (by omega)]; omega
    rw [Nat.max_eq_left h, ← g3] at k8' c3 hq
    refine eN_iload (M := ML_saves) dL_saves_183 (pc' := 185) rfl rfl ?_
    refine eN_aload_n (M := ML_saves) (k := 0) rfl dL_saves_185 (pc' := 186) rfl rfl ?_
    refine eN_iload_n (M := ML_saves) (k := 2) rfl dL_saves_186 (pc' := 187) rfl rfl ?_
    refine eN_iload (M := ML_saves) dL_saves_187 (pc' := 189) rfl rfl ?_
    refine (ev_cV2 (M := ML_saves) (kk := 8) dL_saves_189 c_9_29 mX6_chunksOf rfl rfl (by decide) rfl (pc' := 192) rfl).mpr ⟨(by assumption), (Nat.le_of_ble_eq_true rfl), eN_c c1 (by first | rfl | (simp (disch := omega) only [nI_add, i_sub]) | (simp only [*])) ?_⟩
    refine (ev_icmp_ge (M := ML_saves) (t := 254) dL_saves_192 (by decide) (pc' := 195) rfl).mpr (ifF (by first | assumption | omega | rfl | exact fun q => q (by assumption) | exact fun q => q rfl | (simp (disch := omega) only [nle_t, nle_f, nlt_t, nlt_f, neq_t, neq_f, i_lt0, i_le0, i_0le, i_0lt, i_eq0, i_lt, i_le, i_eq, nI_add, i_sub, i_cl, i_m1a, i_m1b, i_m1c, i_m1d, i_m1e, i_am1, i_ite0, m1_le, m1_m1, m1_ge0, not_true_eq_false, not_false_eq_true, or_self, or_false, false_or, or_true, true_or, and_self, and_true, true_and])) ?_)
    refine eN_iload (M := ML_saves) dL_saves_195 (pc' := 197) rfl rfl ?_
    refine (ev_if_eq (M := ML_saves) (t := 254) dL_saves_197 (by decide) (pc' := 200) rfl).mpr (ifF (by first | assumption | omega | rfl | exact fun q => q (by assumption) | exact fun q => q rfl | (simp (disch := omega) only [nle_t, nle_f, nlt_t, nlt_f, neq_t, neq_f, i_lt0, i_le0, i_0le, i_0lt, i_eq0, i_lt, i_le, i_eq, nI_add, i_sub, i_cl, i_m1a, i_m1b, i_m1c, i_m1d, i_m1e, i_am1, i_ite0, m1_le, m1_m1, m1_ge0, not_true_eq_false, not_false_eq_true, or_self, or_false, false_or, or_true, true_or, and_self, and_true, true_and])) ?_)
    refine eN_aload_n (M := ML_saves) (k := 0) rfl dL_saves_200 (pc' := 201) rfl rfl ?_
    refine eN_iload_n (M := ML_saves) (k := 2) rfl dL_saves_201 (pc' := 202) rfl rfl ?_
    refine eN_iload (M := ML_saves) dL_saves_202 (pc' := 204) rfl rfl ?_
    refine eN_iload (M := ML_saves) dL_saves_204 (pc' := 206) rfl rfl ?_
    refine (ev_cV3 (M := ML_saves) (kk := 8) dL_saves_206 c_9_32 mX6_chunkAt rfl rfl (by decide) rfl (pc' := 209) rfl).mpr ⟨(by assumption), (Nat.le_of_ble_eq_true rfl), eN_c c2 (by first | rfl | (simp (disch := omega) only [nI_add, i_sub]) | (simp only [*])) ?_⟩
    refine (ev_istore (M := ML_saves) dL_saves_209 (by decide) (pc' := 211) rfl).mpr ?_
    refine eN_aload_n (M := ML_saves) (k := 1) rfl dL_saves_211 (pc' := 212) rfl rfl ?_
    refine (ev_bipush (M := ML_saves) (v := (nI 6)) rfl dL_saves_212 (pc' := 214) rfl).mpr ?_
    refine eN_iload (M := ML_saves) dL_saves_214 (pc' := 216) rfl rfl ?_
    refine (ev_iconst (M := ML_saves) (v := (nI 1)) rfl dL_saves_216 (pc' := 217) rfl).mpr ?_
    refine eN_iadd (M := ML_saves) dL_saves_217 (pc' := 218) rfl ?_
    refine (ev_i2l (M := ML_saves) dL_saves_218 (pc' := 219) rfl).mpr ?_
    refine eN_aload_n (M := ML_saves) (k := 1) rfl dL_saves_219 (pc' := 220) rfl rfl ?_
    refine (ev_bipush (M := ML_saves) (v := (nI 6)) rfl dL_saves_220 (pc' := 222) rfl).mpr ?_
    refine eN_laload (M := ML_saves) dL_saves_222 (pc' := 223) rfl (by assumption) (by assumption) (by omega) ?_
    refine (ev_lcmp (M := ML_saves) dL_saves_223 (pc' := 224) rfl).mpr ?_
    refine (ev_if_le (M := ML_saves) (t := 235) dL_saves_224 (by decide) (pc' := 227) rfl).mpr (ifT (by first | assumption | omega | rfl | exact fun q => q (by assumption) | exact fun q => q rfl | (simp (disch := omega) only [nle_t, nle_f, nlt_t, nlt_f, neq_t, neq_f, i_lt0, i_le0, i_0le, i_0lt, i_eq0, i_lt, i_le, i_eq, nI_add, i_sub, i_cl, i_m1a, i_m1b, i_m1c, i_m1d, i_m1e, i_am1, i_ite0, m1_le, m1_m1, m1_ge0, not_true_eq_false, not_false_eq_true, or_self, or_false, false_or, or_true, true_or, and_self, and_true, true_and])) ?_)
    refine eN_aload_n (M := ML_saves) (k := 1) rfl dL_saves_235 (pc' := 236) rfl rfl ?_
    refine (ev_bipush (M := ML_saves) (v := (nI 6)) rfl dL_saves_236 (pc' := 238) rfl).mpr ?_
    refine eN_laload (M := ML_saves) dL_saves_238 (pc' := 239) rfl (by assumption) (by assumption) (by omega) ?_
    refine eN_lastore (M := ML_saves) dL_saves_239 (pc' := 240) rfl (by assumption) (by assumption) (by omega) ?_
    refine eN_aload_n (M := ML_saves) (k := 0) rfl dL_saves_240 (pc' := 241) rfl rfl ?_
    refine eN_iload (M := ML_saves) dL_saves_241 (pc' := 243) rfl rfl ?_
    refine (ev_cV1 (M := ML_saves) (kk := 8) dL_saves_243 c_9_84 mX6_isStored rfl rfl (by decide) rfl (pc' := 246) rfl).mpr ⟨(by assumption), (Nat.le_of_ble_eq_true rfl), eN_c c3 (by first | rfl | (simp (disch := omega) only [nI_add, i_sub]) | (simp only [*])) ?_⟩
    refine (ev_istore (M := ML_saves) dL_saves_246 (by decide) (pc' := 248) rfl).mpr ?_
    refine eN_iinc (M := ML_saves) (v := 1) rfl dL_saves_248 (by decide) (pc' := 251) rfl rfl ?_
    refine (ev_goto (M := ML_saves) (pc' := 183) dL_saves_251 (by decide)).mpr ?_
    exact ev_more (by repeat (first | exact trivial | refine ⟨rfl, ?_⟩)) (by exact rfl) (by exact rfl) hq
  · have hle : ¬ lg_cmp (nI (e + 1)).toInt64 (tJ T G 6) ≤ 0 := by rw [g3, lj_le (by omega) (by omega)]; omega
    rw [Nat.max_eq_right (by omega), ← lj_c] at k8' c3 hq
    refine eN_iload (M := ML_saves) dL_saves_183 (pc' := 185) rfl rfl ?_
    refine eN_aload_n (M := ML_saves) (k := 0) rfl dL_saves_185 (pc' := 186) rfl rfl ?_
    refine eN_iload_n (M := ML_saves) (k := 2) rfl dL_saves_186 (pc' := 187) rfl rfl ?_
    refine eN_iload (M := ML_saves) dL_saves_187 (pc' := 189) rfl rfl ?_
    refine (ev_cV2 (M := ML_saves) (kk := 8) dL_saves_189 c_9_29 mX6_chunksOf rfl rfl (by decide) rfl (pc' := 192) rfl).mpr ⟨(by assumption), (Nat.le_of_ble_eq_true rfl), eN_c c1 (by first | rfl | (simp (disch := omega) only [nI_add, i_sub]) | (simp only [*])) ?_⟩
    refine (ev_icmp_ge (M := ML_saves) (t := 254) dL_saves_192 (by decide) (pc' := 195) rfl).mpr (ifF (by first | assumption | omega | rfl | exact fun q => q (by assumption) | exact fun q => q rfl | (simp (disch := omega) only [nle_t, nle_f, nlt_t, nlt_f, neq_t, neq_f, i_lt0, i_le0, i_0le, i_0lt, i_eq0, i_lt, i_le, i_eq, nI_add, i_sub, i_cl, i_m1a, i_m1b, i_m1c, i_m1d, i_m1e, i_am1, i_ite0, m1_le, m1_m1, m1_ge0, not_true_eq_false, not_false_eq_true, or_self, or_false, false_or, or_true, true_or, and_self, and_true, true_and])) ?_)
    refine eN_iload (M := ML_saves) dL_saves_195 (pc' := 197) rfl rfl ?_
    refine (ev_if_eq (M := ML_saves) (t := 254) dL_saves_197 (by decide) (pc' := 200) rfl).mpr (ifF (by first | assumption | omega | rfl | exact fun q => q (by assumption) | exact fun q => q rfl | (simp (disch := omega) only [nle_t, nle_f, nlt_t, nlt_f, neq_t, neq_f, i_lt0, i_le0, i_0le, i_0lt, i_eq0, i_lt, i_le, i_eq, nI_add, i_sub, i_cl, i_m1a, i_m1b, i_m1c, i_m1d, i_m1e, i_am1, i_ite0, m1_le, m1_m1, m1_ge0, not_true_eq_false, not_false_eq_true, or_self, or_false, false_or, or_true, true_or, and_self, and_true, true_and])) ?_)
    refine eN_aload_n (M := ML_saves) (k := 0) rfl dL_saves_200 (pc' := 201) rfl rfl ?_
    refine eN_iload_n (M := ML_saves) (k := 2) rfl dL_saves_201 (pc' := 202) rfl rfl ?_
    refine eN_iload (M := ML_saves) dL_saves_202 (pc' := 204) rfl rfl ?_
    refine eN_iload (M := ML_saves) dL_saves_204 (pc' := 206) rfl rfl ?_
    refine (ev_cV3 (M := ML_saves) (kk := 8) dL_saves_206 c_9_32 mX6_chunkAt rfl rfl (by decide) rfl (pc' := 209) rfl).mpr ⟨(by assumption), (Nat.le_of_ble_eq_true rfl), eN_c c2 (by first | rfl | (simp (disch := omega) only [nI_add, i_sub]) | (simp only [*])) ?_⟩
    refine (ev_istore (M := ML_saves) dL_saves_209 (by decide) (pc' := 211) rfl).mpr ?_
    refine eN_aload_n (M := ML_saves) (k := 1) rfl dL_saves_211 (pc' := 212) rfl rfl ?_
    refine (ev_bipush (M := ML_saves) (v := (nI 6)) rfl dL_saves_212 (pc' := 214) rfl).mpr ?_
    refine eN_iload (M := ML_saves) dL_saves_214 (pc' := 216) rfl rfl ?_
    refine (ev_iconst (M := ML_saves) (v := (nI 1)) rfl dL_saves_216 (pc' := 217) rfl).mpr ?_
    refine eN_iadd (M := ML_saves) dL_saves_217 (pc' := 218) rfl ?_
    refine (ev_i2l (M := ML_saves) dL_saves_218 (pc' := 219) rfl).mpr ?_
    refine eN_aload_n (M := ML_saves) (k := 1) rfl dL_saves_219 (pc' := 220) rfl rfl ?_
    refine (ev_bipush (M := ML_saves) (v := (nI 6)) rfl dL_saves_220 (pc' := 222) rfl).mpr ?_
    refine eN_laload (M := ML_saves) dL_saves_222 (pc' := 223) rfl (by assumption) (by assumption) (by omega) ?_
    refine (ev_lcmp (M := ML_saves) dL_saves_223 (pc' := 224) rfl).mpr ?_
    refine (ev_if_le (M := ML_saves) (t := 235) dL_saves_224 (by decide) (pc' := 227) rfl).mpr (ifF (by first | assumption | omega | rfl | exact fun q => q (by assumption) | exact fun q => q rfl | (simp (disch := omega) only [nle_t, nle_f, nlt_t, nlt_f, neq_t, neq_f, i_lt0, i_le0, i_0le, i_0lt, i_eq0, i_lt, i_le, i_eq, nI_add, i_sub, i_cl, i_m1a, i_m1b, i_m1c, i_m1d, i_m1e, i_am1, i_ite0, m1_le, m1_m1, m1_ge0, not_true_eq_false, not_false_eq_true, or_self, or_false, false_or, or_true, true_or, and_self, and_true, true_and])) ?_)
    refine eN_iload (M := ML_saves) dL_saves_227 (pc' := 229) rfl rfl ?_
    refine (ev_iconst (M := ML_saves) (v := (nI 1)) rfl dL_saves_229 (pc' := 230) rfl).mpr ?_
    refine eN_iadd (M := ML_saves) dL_saves_230 (pc' := 231) rfl ?_
    refine (ev_i2l (M := ML_saves) dL_saves_231 (pc' := 232) rfl).mpr ?_
    refine (ev_goto (M := ML_saves) (pc' := 239) dL_saves_232 (by decide)).mpr ?_
    refine eN_lastore (M := ML_saves) dL_saves_239 (pc' := 240) rfl (by assumption) (by assumption) (by omega) ?_
    refine eN_aload_n (M := ML_saves) (k := 0) rfl dL_saves_240 (pc' := 241) rfl rfl ?_
    refine eN_iload (M := ML_saves) dL_saves_241 (pc' := 243) rfl rfl ?_
    refine (ev_cV1 (M := ML_saves) (kk := 8) dL_saves_243 c_9_84 mX6_isStored rfl rfl (by decide) rfl (pc' := 246) rfl).mpr ⟨(by assumption), (Nat.le_of_ble_eq_true rfl), eN_c c3 (by first | rfl | (simp (disch := omega) only [nI_add, i_sub]) | (simp only [*])) ?_⟩
    refine (ev_istore (M := ML_saves) dL_saves_246 (by decide) (pc' := 248) rfl).mpr ?_
    refine eN_iinc (M := ML_saves) (v := 1) rfl dL_saves_248 (by decide) (pc' := 251) rfl rfl ?_
    refine (ev_goto (M := ML_saves) (pc' := 183) dL_saves_251 (by decide)).mpr ?_
    exact ev_more (by repeat (first | exact trivial | refine ⟨rfl, ?_⟩)) (by exact rfl) (by exact rfl) hq
/-- behind the loops -/
theorem Z_sa7 (k8 : tK T X = 8) (c1 : Call (d + 9) 97 [.ref X, .int (nI j), .int (nI v)] T (.inl (some (.int (nI 0)))) T) (b : Int32) (hb : b = -1 ∨ b = lt) (c2 : Call (d + 9) 99 [.ref X, .int (nI j), .int (nI v)] T (.inl (some (.int b))) T) (c3 : Call (d + 9) 133 [.ref X, .int (nI j), .int (nI v)] T (.inl (some (.int (nI 1)))) T) (hQ : Q (.inl (some (.int (nI 1)))) T) : Ev (d + 9) ML_saves [] 183 [(11, .int (nI 0)), (10, .int (nI 1)), (9, .int (nI v)), (8, .int lt), (0, .ref X), (1, .ref G), (2, .int (nI j))] [] T Q := by
  by_cases h : b = -1
  · subst h
    refine eN_iload (M := ML_saves) dL_saves_183 (pc' := 185) rfl rfl ?_
    refine eN_aload_n (M := ML_saves) (k := 0) rfl dL_saves_185 (pc' := 186) rfl rfl ?_
    refine eN_iload_n (M := ML_saves) (k := 2) rfl dL_saves_186 (pc' := 187) rfl rfl ?_
    refine eN_iload (M := ML_saves) dL_saves_187 (pc' := 189) rfl rfl ?_
    refine (ev_cV2 (M := ML_saves) (kk := 8) dL_saves_189 c_9_29 mX6_chunksOf rfl rfl (by decide) rfl (pc' := 192) rfl).mpr ⟨(by assumption), (Nat.le_of_ble_eq_true rfl), eN_c c1 (by first | rfl | (simp (disch := omega) only [nI_add, i_sub]) | (simp only [*])) ?_⟩
    refine (ev_icmp_ge (M := ML_saves) (t := 254) dL_saves_192 (by decide) (pc' := 195) rfl).mpr (ifT (by first | assumption | omega | rfl | exact fun q => q (by assumption) | exact fun q => q rfl | (simp (disch := omega) only [nle_t, nle_f, nlt_t, nlt_f, neq_t, neq_f, i_lt0, i_le0, i_0le, i_0lt, i_eq0, i_lt, i_le, i_eq, nI_add, i_sub, i_cl, i_m1a, i_m1b, i_m1c, i_m1d, i_m1e, i_am1, i_ite0, m1_le, m1_m1, m1_ge0, not_true_eq_false, not_false_eq_true, or_self, or_false, false_or, or_true, true_or, and_self, and_true, true_and])) ?_)
    refine eN_aload_n (M := ML_saves) (k := 0) rfl dL_saves_254 (pc' := 255) rfl rfl ?_
    refine eN_iload_n (M := ML_saves) (k := 2) rfl dL_saves_255 (pc' := 256) rfl rfl ?_
    refine eN_iload (M := ML_saves) dL_saves_256 (pc' := 258) rfl rfl ?_
    refine (ev_cV2 (M := ML_saves) (kk := 8) dL_saves_258 c_9_29 mX6_chunksOf rfl rfl (by decide) rfl (pc' := 261) rfl).mpr ⟨(by assumption), (Nat.le_of_ble_eq_true rfl), eN_c c1 (by first | rfl | (simp (disch := omega) only [nI_add, i_sub]) | (simp only [*])) ?_⟩
    refine (ev_istore (M := ML_saves) dL_saves_261 (by decide) (pc' := 263) rfl).mpr ?_
    refine eN_iload (M := ML_saves) dL_saves_263 (pc' := 265) rfl rfl ?_
    refine (ev_if_eq (M := ML_saves) (t := 323) dL_saves_265 (by decide) (pc' := 268) rfl).mpr (ifF (by first | assumption | omega | rfl | exact fun q => q (by assumption) | exact fun q => q rfl | (simp (disch := omega) only [nle_t, nle_f, nlt_t, nlt_f, neq_t, neq_f, i_lt0, i_le0, i_0le, i_0lt, i_eq0, i_lt, i_le, i_eq, nI_add, i_sub, i_cl, i_m1a, i_m1b, i_m1c, i_m1d, i_m1e, i_am1, i_ite0, m1_le, m1_m1, m1_ge0, not_true_eq_false, not_false_eq_true, or_self, or_false, false_or, or_true, true_or, and_self, and_true, true_and])) ?_)
    refine eN_aload_n (M := ML_saves) (k := 0) rfl dL_saves_268 (pc' := 269) rfl rfl ?_
    refine eN_iload_n (M := ML_saves) (k := 2) rfl dL_saves_269 (pc' := 270) rfl rfl ?_
    refine eN_iload (M := ML_saves) dL_saves_270 (pc' := 272) rfl rfl ?_
    refine (ev_cV2 (M := ML_saves) (kk := 8) dL_saves_272 c_9_39 mX6_baseOf rfl rfl (by decide) rfl (pc' := 275) rfl).mpr ⟨(by assumption), (Nat.le_of_ble_eq_true rfl), eN_c c2 (by first | rfl | (simp (disch := omega) only [nI_add, i_sub]) | (simp only [*])) ?_⟩
    refine (ev_iconst (M := ML_saves) (v := (-1)) rfl dL_saves_275 (pc' := 276) rfl).mpr ?_
    refine (ev_icmp_eq (M := ML_saves) (t := 291) dL_saves_276 (by decide) (pc' := 279) rfl).mpr (ifT (by first | assumption | omega | rfl | exact fun q => q (by assumption) | exact fun q => q rfl | (simp (disch := omega) only [nle_t, nle_f, nlt_t, nlt_f, neq_t, neq_f, i_lt0, i_le0, i_0le, i_0lt, i_eq0, i_lt, i_le, i_eq, nI_add, i_sub, i_cl, i_m1a, i_m1b, i_m1c, i_m1d, i_m1e, i_am1, i_ite0, m1_le, m1_m1, m1_ge0, not_true_eq_false, not_false_eq_true, or_self, or_false, false_or, or_true, true_or, and_self, and_true, true_and])) ?_)
    refine eN_iload (M := ML_saves) dL_saves_291 (pc' := 293) rfl rfl ?_
    refine (ev_if_eq (M := ML_saves) (t := 319) dL_saves_293 (by decide) (pc' := 296) rfl).mpr (ifT (by first | assumption | omega | rfl | exact fun q => q (by assumption) | exact fun q => q rfl | (simp (disch := omega) only [nle_t, nle_f, nlt_t, nlt_f, neq_t, neq_f, i_lt0, i_le0, i_0le, i_0lt, i_eq0, i_lt, i_le, i_eq, nI_add, i_sub, i_cl, i_m1a, i_m1b, i_m1c, i_m1d, i_m1e, i_am1, i_ite0, m1_le, m1_m1, m1_ge0, not_true_eq_false, not_false_eq_true, or_self, or_false, false_or, or_true, true_or, and_self, and_true, true_and])) ?_)
    refine (ev_iconst (M := ML_saves) (v := (nI 1)) rfl dL_saves_319 (pc' := 320) rfl).mpr ?_
    refine (ev_goto (M := ML_saves) (pc' := 324) dL_saves_320 (by decide)).mpr ?_
    refine (ev_istore (M := ML_saves) dL_saves_324 (by decide) (pc' := 326) rfl).mpr ?_
    refine eN_iload (M := ML_saves) dL_saves_326 (pc' := 328) rfl rfl ?_
    refine (ev_if_eq (M := ML_saves) (t := 345) dL_saves_328 (by decide) (pc' := 331) rfl).mpr (ifF (by first | assumption | omega | rfl | exact fun q => q (by assumption) | exact fun q => q rfl | (simp (disch := omega) only [nle_t, nle_f, nlt_t, nlt_f, neq_t, neq_f, i_lt0, i_le0, i_0le, i_0lt, i_eq0, i_lt, i_le, i_eq, nI_add, i_sub, i_cl, i_m1a, i_m1b, i_m1c, i_m1d, i_m1e, i_am1, i_ite0, m1_le, m1_m1, m1_ge0, not_true_eq_false, not_false_eq_true, or_self, or_false, false_or, or_true, true_or, and_self, and_true, true_and])) ?_)
    refine eN_aload_n (M := ML_saves) (k := 0) rfl dL_saves_331 (pc' := 332) rfl rfl ?_
    refine eN_iload_n (M := ML_saves) (k := 2) rfl dL_saves_332 (pc' := 333) rfl rfl ?_
    refine eN_iload (M := ML_saves) dL_saves_333 (pc' := 335) rfl rfl ?_
    refine (ev_cS3 (M := ML_saves) dL_saves_335 c_9_73 (by decide) mL_isVersion rfl rfl (pc' := 338) rfl).mpr ⟨(Nat.le_of_ble_eq_true rfl), eN_c c3 (by first | rfl | (simp (disch := omega) only [nI_add, i_sub]) | (simp only [*])) ?_⟩
    refine (ev_if_eq (M := ML_saves) (t := 345) dL_saves_338 (by decide) (pc' := 341) rfl).mpr (ifF (by first | assumption | omega | rfl | exact fun q => q (by assumption) | exact fun q => q rfl | (simp (disch := omega) only [nle_t, nle_f, nlt_t, nlt_f, neq_t, neq_f, i_lt0, i_le0, i_0le, i_0lt, i_eq0, i_lt, i_le, i_eq, nI_add, i_sub, i_cl, i_m1a, i_m1b, i_m1c, i_m1d, i_m1e, i_am1, i_ite0, m1_le, m1_m1, m1_ge0, not_true_eq_false, not_false_eq_true, or_self, or_false, false_or, or_true, true_or, and_self, and_true, true_and])) ?_)
    refine (ev_iconst (M := ML_saves) (v := (nI 1)) rfl dL_saves_341 (pc' := 342) rfl).mpr ?_
    refine (ev_goto (M := ML_saves) (pc' := 346) dL_saves_342 (by decide)).mpr ?_
    refine (ev_zretI (M := ML_saves) rfl dL_saves_346 (by omega)).mpr ?_
    exact hQ
  · have h2 := hb.resolve_left h
    subst h2
    refine eN_iload (M := ML_saves) dL_saves_183 (pc' := 185) rfl rfl ?_
    refine eN_aload_n (M := ML_saves) (k := 0) rfl dL_saves_185 (pc' := 186) rfl rfl ?_
    refine eN_iload_n (M := ML_saves) (k := 2) rfl dL_saves_186 (pc' := 187) rfl rfl ?_
    refine eN_iload (M := ML_saves) dL_saves_187 (pc' := 189) rfl rfl ?_
    refine (ev_cV2 (M := ML_saves) (kk := 8) dL_saves_189 c_9_29 mX6_chunksOf rfl rfl (by decide) rfl (pc' := 192) rfl).mpr ⟨(by assumption), (Nat.le_of_ble_eq_true rfl), eN_c c1 (by first | rfl | (simp (disch := omega) only [nI_add, i_sub]) | (simp only [*])) ?_⟩
    refine (ev_icmp_ge (M := ML_saves) (t := 254) dL_saves_192 (by decide) (pc' := 195) rfl).mpr (ifT (by first | assumption | omega | rfl | exact fun q => q (by assumption) | exact fun q => q rfl | (simp (disch := omega) only [nle_t, nle_f, nlt_t, nlt_f, neq_t, neq_f, i_lt0, i_le0, i_0le, i_0lt, i_eq0, i_lt, i_le, i_eq, nI_add, i_sub, i_cl, i_m1a, i_m1b, i_m1c, i_m1d, i_m1e, i_am1, i_ite0, m1_le, m1_m1, m1_ge0, not_true_eq_false, not_false_eq_true, or_self, or_false, false_or, or_true, true_or, and_self, and_true, true_and])) ?_)
    refine eN_aload_n (M := ML_saves) (k := 0) rfl dL_saves_254 (pc' := 255) rfl rfl ?_
    refine eN_iload_n (M := ML_saves) (k := 2) rfl dL_saves_255 (pc' := 256) rfl rfl ?_
    refine eN_iload (M := ML_saves) dL_saves_256 (pc' := 258) rfl rfl ?_
    refine (ev_cV2 (M := ML_saves) (kk := 8) dL_saves_258 c_9_29 mX6_chunksOf rfl rfl (by decide) rfl (pc' := 261) rfl).mpr ⟨(by assumption), (Nat.le_of_ble_eq_true rfl), eN_c c1 (by first | rfl | (simp (disch := omega) only [nI_add, i_sub]) | (simp only [*])) ?_⟩
    refine (ev_istore (M := ML_saves) dL_saves_261 (by decide) (pc' := 263) rfl).mpr ?_
    refine eN_iload (M := ML_saves) dL_saves_263 (pc' := 265) rfl rfl ?_
    refine (ev_if_eq (M := ML_saves) (t := 323) dL_saves_265 (by decide) (pc' := 268) rfl).mpr (ifF (by first | assumption | omega | rfl | exact fun q => q (by assumption) | exact fun q => q rfl | (simp (disch := omega) only [nle_t, nle_f, nlt_t, nlt_f, neq_t, neq_f, i_lt0, i_le0, i_0le, i_0lt, i_eq0, i_lt, i_le, i_eq, nI_add, i_sub, i_cl, i_m1a, i_m1b, i_m1c, i_m1d, i_m1e, i_am1, i_ite0, m1_le, m1_m1, m1_ge0, not_true_eq_false, not_false_eq_true, or_self, or_false, false_or, or_true, true_or, and_self, and_true, true_and])) ?_)
    refine eN_aload_n (M := ML_saves) (k := 0) rfl dL_saves_268 (pc' := 269) rfl rfl ?_
    refine eN_iload_n (M := ML_saves) (k := 2) rfl dL_saves_269 (pc' := 270) rfl rfl ?_
    refine eN_iload (M := ML_saves) dL_saves_270 (pc' := 272) rfl rfl ?_
    refine (ev_cV2 (M := ML_saves) (kk := 8) dL_saves_272 c_9_39 mX6_baseOf rfl rfl (by decide) rfl (pc' := 275) rfl).mpr ⟨(by assumption), (Nat.le_of_ble_eq_true rfl), eN_c c2 (by first | rfl | (simp (disch := omega) only [nI_add, i_sub]) | (simp only [*])) ?_⟩
    refine (ev_iconst (M := ML_saves) (v := (-1)) rfl dL_saves_275 (pc' := 276) rfl).mpr ?_
    refine (ev_icmp_eq (M := ML_saves) (t := 291) dL_saves_276 (by decide) (pc' := 279) rfl).mpr (ifF (by first | assumption | omega | rfl | exact fun q => q (by assumption) | exact fun q => q rfl | (simp (disch := omega) only [nle_t, nle_f, nlt_t, nlt_f, neq_t, neq_f, i_lt0, i_le0, i_0le, i_0lt, i_eq0, i_lt, i_le, i_eq, nI_add, i_sub, i_cl, i_m1a, i_m1b, i_m1c, i_m1d, i_m1e, i_am1, i_ite0, m1_le, m1_m1, m1_ge0, not_true_eq_false, not_false_eq_true, or_self, or_false, false_or, or_true, true_or, and_self, and_true, true_and])) ?_)
    refine eN_aload_n (M := ML_saves) (k := 0) rfl dL_saves_279 (pc' := 280) rfl rfl ?_
    refine eN_iload_n (M := ML_saves) (k := 2) rfl dL_saves_280 (pc' := 281) rfl rfl ?_
    refine eN_iload (M := ML_saves) dL_saves_281 (pc' := 283) rfl rfl ?_
    refine (ev_cV2 (M := ML_saves) (kk := 8) dL_saves_283 c_9_39 mX6_baseOf rfl rfl (by decide) rfl (pc' := 286) rfl).mpr ⟨(by assumption), (Nat.le_of_ble_eq_true rfl), eN_c c2 (by first | rfl | (simp (disch := omega) only [nI_add, i_sub]) | (simp only [*])) ?_⟩
    refine eN_iload (M := ML_saves) dL_saves_286 (pc' := 288) rfl rfl ?_
    refine (ev_icmp_ne (M := ML_saves) (t := 323) dL_saves_288 (by decide) (pc' := 291) rfl).mpr (ifF (by first | assumption | omega | rfl | exact fun q => q (by assumption) | exact fun q => q rfl | (simp (disch := omega) only [nle_t, nle_f, nlt_t, nlt_f, neq_t, neq_f, i_lt0, i_le0, i_0le, i_0lt, i_eq0, i_lt, i_le, i_eq, nI_add, i_sub, i_cl, i_m1a, i_m1b, i_m1c, i_m1d, i_m1e, i_am1, i_ite0, m1_le, m1_m1, m1_ge0, not_true_eq_false, not_false_eq_true, or_self, or_false, false_or, or_true, true_or, and_self, and_true, true_and])) ?_)
    refine eN_iload (M := ML_saves) dL_saves_291 (pc' := 293) rfl rfl ?_
    refine (ev_if_eq (M := ML_saves) (t := 319) dL_saves_293 (by decide) (pc' := 296) rfl).mpr (ifT (by first | assumption | omega | rfl | exact fun q => q (by assumption) | exact fun q => q rfl | (simp (disch := omega) only [nle_t, nle_f, nlt_t, nlt_f, neq_t, neq_f, i_lt0, i_le0, i_0le, i_0lt, i_eq0, i_lt, i_le, i_eq, nI_add, i_sub, i_cl, i_m1a, i_m1b, i_m1c, i_m1d, i_m1e, i_am1, i_ite0, m1_le, m1_m1, m1_ge0, not_true_eq_false, not_false_eq_true, or_self, or_false, false_or, or_true, true_or, and_self, and_true, true_and])) ?_)
    refine (ev_iconst (M := ML_saves) (v := (nI 1)) rfl dL_saves_319 (pc' := 320) rfl).mpr ?_
    refine (ev_goto (M := ML_saves) (pc' := 324) dL_saves_320 (by decide)).mpr ?_
    refine (ev_istore (M := ML_saves) dL_saves_324 (by decide) (pc' := 326) rfl).mpr ?_
    refine eN_iload (M := ML_saves) dL_saves_326 (pc' := 328) rfl rfl ?_
    refine (ev_if_eq (M := ML_saves) (t := 345) dL_saves_328 (by decide) (pc' := 331) rfl).mpr (ifF (by first | assumption | omega | rfl | exact fun q => q (by assumption) | exact fun q => q rfl | (simp (disch := omega) only [nle_t, nle_f, nlt_t, nlt_f, neq_t, neq_f, i_lt0, i_le0, i_0le, i_0lt, i_eq0, i_lt, i_le, i_eq, nI_add, i_sub, i_cl, i_m1a, i_m1b, i_m1c, i_m1d, i_m1e, i_am1, i_ite0, m1_le, m1_m1, m1_ge0, not_true_eq_false, not_false_eq_true, or_self, or_false, false_or, or_true, true_or, and_self, and_true, true_and])) ?_)
    refine eN_aload_n (M := ML_saves) (k := 0) rfl dL_saves_331 (pc' := 332) rfl rfl ?_
    refine eN_iload_n (M := ML_saves) (k := 2) rfl dL_saves_332 (pc' := 333) rfl rfl ?_
    refine eN_iload (M := ML_saves) dL_saves_333 (pc' := 335) rfl rfl ?_
    refine (ev_cS3 (M := ML_saves) dL_saves_335 c_9_73 (by decide) mL_isVersion rfl rfl (pc' := 338) rfl).mpr ⟨(Nat.le_of_ble_eq_true rfl), eN_c c3 (by first | rfl | (simp (disch := omega) only [nI_add, i_sub]) | (simp only [*])) ?_⟩
    refine (ev_if_eq (M := ML_saves) (t := 345) dL_saves_338 (by decide) (pc' := 341) rfl).mpr (ifF (by first | assumption | omega | rfl | exact fun q => q (by assumption) | exact fun q => q rfl | (simp (disch := omega) only [nle_t, nle_f, nlt_t, nlt_f, neq_t, neq_f, i_lt0, i_le0, i_0le, i_0lt, i_eq0, i_lt, i_le, i_eq, nI_add, i_sub, i_cl, i_m1a, i_m1b, i_m1c, i_m1d, i_m1e, i_am1, i_ite0, m1_le, m1_m1, m1_ge0, not_true_eq_false, not_false_eq_true, or_self, or_false, false_or, or_true, true_or, and_self, and_true, true_and])) ?_)
    refine (ev_iconst (M := ML_saves) (v := (nI 1)) rfl dL_saves_341 (pc' := 342) rfl).mpr ?_
    refine (ev_goto (M := ML_saves) (pc' := 346) dL_saves_342 (by decide)).mpr ?_
    refine (ev_zretI (M := ML_saves) rfl dL_saves_346 (by omega)).mpr ?_
    exact hQ
theorem Z_sa8 {N : Nat} (k8 : tK T X = 8) (hN : N ≤ 30) (h0 : 1 ≤ N) (hp : p < 1000000) (c1 : Call (d + 9) 97 [.ref X, .int (nI j), .int (nI v)] T (.inl (some (.int (nI N)))) T) (b : Int32) (hb : b = -1 ∨ b = lt) (c2 : Call (d + 9) 99 [.ref X, .int (nI j), .int (nI v)] T (.inl (some (.int b))) T) (c3 : Call (d + 9) 133 [.ref X, .int (nI j), .int (nI v)] T (.inl (some (.int (nI 1)))) T) (c4 : Call (d + 9) 110 [.ref X, .int (nI 0)] T (.inl (some (.int (nI p)))) T) (c5 : Call (d + 9) 98 [.ref X, .int (nI j), .int (nI v), .int (nI (N - 1))] T (.inl (some (.int (nI e)))) T) (c6 : Call (d + 9) 107 [.ref X, .int (nI e)] T (.inl (some (.int (nI p)))) T) (hQ : Q (.inl (some (.int (nI 1)))) T) : Ev (d + 9) ML_saves [] 183 [(11, .int (nI N)), (10, .int (nI 1)), (9, .int (nI v)), (8, .int lt), (0, .ref X), (1, .ref G), (2, .int (nI j))] [] T Q := by
  by_cases h : b = -1
  · subst h
    refine eN_iload (M := ML_saves) dL_saves_183 (pc' := 185) rfl rfl ?_
    refine eN_aload_n (M := ML_saves) (k := 0) rfl dL_saves_185 (pc' := 186) rfl rfl ?_
    refine eN_iload_n (M := ML_saves) (k := 2) rfl dL_saves_186 (pc' := 187) rfl rfl ?_
    refine eN_iload (M := ML_saves) dL_saves_187 (pc' := 189) rfl rfl ?_
    refine (ev_cV2 (M := ML_saves) (kk := 8) dL_saves_189 c_9_29 mX6_chunksOf rfl rfl (by decide) rfl (pc' := 192) rfl).mpr ⟨(by assumption), (Nat.le_of_ble_eq_true rfl), eN_c c1 (by first | rfl | (simp (disch := omega) only [nI_add, i_sub]) | (simp only [*])) ?_⟩
    refine (ev_icmp_ge (M := ML_saves) (t := 254) dL_saves_192 (by decide) (pc' := 195) rfl).mpr (ifT (by first | assumption | omega | rfl | exact fun q => q (by assumption) | exact fun q => q rfl | (simp (disch := omega) only [nle_t, nle_f, nlt_t, nlt_f, neq_t, neq_f, i_lt0, i_le0, i_0le, i_0lt, i_eq0, i_lt, i_le, i_eq, nI_add, i_sub, i_cl, i_m1a, i_m1b, i_m1c, i_m1d, i_m1e, i_am1, i_ite0, m1_le, m1_m1, m1_ge0, not_true_eq_false, not_false_eq_true, or_self, or_false, false_or, or_true, true_or, and_self, and_true, true_and])) ?_)
    refine eN_aload_n (M := ML_saves) (k := 0) rfl dL_saves_254 (pc' := 255) rfl rfl ?_
    refine eN_iload_n (M := ML_saves) (k := 2) rfl dL_saves_255 (pc' := 256) rfl rfl ?_
    refine eN_iload (M := ML_saves) dL_saves_256 (pc' := 258) rfl rfl ?_
    refine (ev_cV2 (M := ML_saves) (kk := 8) dL_saves_258 c_9_29 mX6_chunksOf rfl rfl (by decide) rfl (pc' := 261) rfl).mpr ⟨(by assumption), (Nat.le_of_ble_eq_true rfl), eN_c c1 (by first | rfl | (simp (disch := omega) only [nI_add, i_sub]) | (simp only [*])) ?_⟩
    refine (ev_istore (M := ML_saves) dL_saves_261 (by decide) (pc' := 263) rfl).mpr ?_
    refine eN_iload (M := ML_saves) dL_saves_263 (pc' := 265) rfl rfl ?_
    refine (ev_if_eq (M := ML_saves) (t := 323) dL_saves_265 (by decide) (pc' := 268) rfl).mpr (ifF (by first | assumption | omega | rfl | exact fun q => q (by assumption) | exact fun q => q rfl | (simp (disch := omega) only [nle_t, nle_f, nlt_t, nlt_f, neq_t, neq_f, i_lt0, i_le0, i_0le, i_0lt, i_eq0, i_lt, i_le, i_eq, nI_add, i_sub, i_cl, i_m1a, i_m1b, i_m1c, i_m1d, i_m1e, i_am1, i_ite0, m1_le, m1_m1, m1_ge0, not_true_eq_false, not_false_eq_true, or_self, or_false, false_or, or_true, true_or, and_self, and_true, true_and])) ?_)
    refine eN_aload_n (M := ML_saves) (k := 0) rfl dL_saves_268 (pc' := 269) rfl rfl ?_
    refine eN_iload_n (M := ML_saves) (k := 2) rfl dL_saves_269 (pc' := 270) rfl rfl ?_
    refine eN_iload (M := ML_saves) dL_saves_270 (pc' := 272) rfl rfl ?_
    refine (ev_cV2 (M := ML_saves) (kk := 8) dL_saves_272 c_9_39 mX6_baseOf rfl rfl (by decide) rfl (pc' := 275) rfl).mpr ⟨(by assumption), (Nat.le_of_ble_eq_true rfl), eN_c c2 (by first | rfl | (simp (disch := omega) only [nI_add, i_sub]) | (simp only [*])) ?_⟩
    refine (ev_iconst (M := ML_saves) (v := (-1)) rfl dL_saves_275 (pc' := 276) rfl).mpr ?_
    refine (ev_icmp_eq (M := ML_saves) (t := 291) dL_saves_276 (by decide) (pc' := 279) rfl).mpr (ifT (by first | assumption | omega | rfl | exact fun q => q (by assumption) | exact fun q => q rfl | (simp (disch := omega) only [nle_t, nle_f, nlt_t, nlt_f, neq_t, neq_f, i_lt0, i_le0, i_0le, i_0lt, i_eq0, i_lt, i_le, i_eq, nI_add, i_sub, i_cl, i_m1a, i_m1b, i_m1c, i_m1d, i_m1e, i_am1, i_ite0, m1_le, m1_m1, m1_ge0, not_true_eq_false, not_false_eq_true, or_self, or_false, false_or, or_true, true_or, and_self, and_true, true_and])) ?_)
    refine eN_iload (M := ML_saves) dL_saves_291 (pc' := 293) rfl rfl ?_
    refine (ev_if_eq (M := ML_saves) (t := 319) dL_saves_293 (by decide) (pc' := 296) rfl).mpr (ifF (by first | assumption | omega | rfl | exact fun q => q (by assumption) | exact fun q => q rfl | (simp (disch := omega) only [nle_t, nle_f, nlt_t, nlt_f, neq_t, neq_f, i_lt0, i_le0, i_0le, i_0lt, i_eq0, i_lt, i_le, i_eq, nI_add, i_sub, i_cl, i_m1a, i_m1b, i_m1c, i_m1d, i_m1e, i_am1, i_ite0, m1_le, m1_m1, m1_ge0, not_true_eq_false, not_false_eq_true, or_self, or_false, false_or, or_true, true_or, and_self, and_true, true_and])) ?_)
    refine eN_aload_n (M := ML_saves) (k := 0) rfl dL_saves_296 (pc' := 297) rfl rfl ?_
    refine (ev_iconst (M := ML_saves) (v := (nI 0)) rfl dL_saves_297 (pc' := 298) rfl).mpr ?_
    refine (ev_cV1 (M := ML_saves) (kk := 8) dL_saves_298 c_9_114 mX6_cached rfl rfl (by decide) rfl (pc' := 301) rfl).mpr ⟨(by assumption), (Nat.le_of_ble_eq_true rfl), eN_c c4 (by first | rfl | (simp (disch := omega) only [nI_add, i_sub]) | (simp only [*])) ?_⟩
    refine eN_aload_n (M := ML_saves) (k := 0) rfl dL_saves_301 (pc' := 302) rfl rfl ?_
    refine eN_aload_n (M := ML_saves) (k := 0) rfl dL_saves_302 (pc' := 303) rfl rfl ?_
    refine eN_iload_n (M := ML_saves) (k := 2) rfl dL_saves_303 (pc' := 304) rfl rfl ?_
    refine eN_iload (M := ML_saves) dL_saves_304 (pc' := 306) rfl rfl ?_
    refine eN_iload (M := ML_saves) dL_saves_306 (pc' := 308) rfl rfl ?_
    refine (ev_iconst (M := ML_saves) (v := (nI 1)) rfl dL_saves_308 (pc' := 309) rfl).mpr ?_
    refine eN_isub (M := ML_saves) dL_saves_309 (pc' := 310) rfl (by omega) ?_
    refine (ev_cV3 (M := ML_saves) (kk := 8) dL_saves_310 c_9_32 mX6_chunkAt rfl rfl (by decide) rfl (pc' := 313) rfl).mpr ⟨(by assumption), (Nat.le_of_ble_eq_true rfl), eN_c c5 (by first | rfl | (simp (disch := omega) only [nI_add, i_sub]) | (simp only [*])) ?_⟩
    refine (ev_cV1 (M := ML_saves) (kk := 8) dL_saves_313 c_9_88 mX6_containerOf rfl rfl (by decide) rfl (pc' := 316) rfl).mpr ⟨(by assumption), (Nat.le_of_ble_eq_true rfl), eN_c c6 (by first | rfl | (simp (disch := omega) only [nI_add, i_sub]) | (simp only [*])) ?_⟩
    refine (ev_icmp_ne (M := ML_saves) (t := 323) dL_saves_316 (by decide) (pc' := 319) rfl).mpr (ifF (by first | assumption | omega | rfl | exact fun q => q (by assumption) | exact fun q => q rfl | (simp (disch := omega) only [nle_t, nle_f, nlt_t, nlt_f, neq_t, neq_f, i_lt0, i_le0, i_0le, i_0lt, i_eq0, i_lt, i_le, i_eq, nI_add, i_sub, i_cl, i_m1a, i_m1b, i_m1c, i_m1d, i_m1e, i_am1, i_ite0, m1_le, m1_m1, m1_ge0, not_true_eq_false, not_false_eq_true, or_self, or_false, false_or, or_true, true_or, and_self, and_true, true_and])) ?_)
    refine (ev_iconst (M := ML_saves) (v := (nI 1)) rfl dL_saves_319 (pc' := 320) rfl).mpr ?_
    refine (ev_goto (M := ML_saves) (pc' := 324) dL_saves_320 (by decide)).mpr ?_
    refine (ev_istore (M := ML_saves) dL_saves_324 (by decide) (pc' := 326) rfl).mpr ?_
    refine eN_iload (M := ML_saves) dL_saves_326 (pc' := 328) rfl rfl ?_
    refine (ev_if_eq (M := ML_saves) (t := 345) dL_saves_328 (by decide) (pc' := 331) rfl).mpr (ifF (by first | assumption | omega | rfl | exact fun q => q (by assumption) | exact fun q => q rfl | (simp (disch := omega) only [nle_t, nle_f, nlt_t, nlt_f, neq_t, neq_f, i_lt0, i_le0, i_0le, i_0lt, i_eq0, i_lt, i_le, i_eq, nI_add, i_sub, i_cl, i_m1a, i_m1b, i_m1c, i_m1d, i_m1e, i_am1, i_ite0, m1_le, m1_m1, m1_ge0, not_true_eq_false, not_false_eq_true, or_self, or_false, false_or, or_true, true_or, and_self, and_true, true_and])) ?_)
    refine eN_aload_n (M := ML_saves) (k := 0) rfl dL_saves_331 (pc' := 332) rfl rfl ?_
    refine eN_iload_n (M := ML_saves) (k := 2) rfl dL_saves_332 (pc' := 333) rfl rfl ?_
    refine eN_iload (M := ML_saves) dL_saves_333 (pc' := 335) rfl rfl ?_
    refine (ev_cS3 (M := ML_saves) dL_saves_335 c_9_73 (by decide) mL_isVersion rfl rfl (pc' := 338) rfl).mpr ⟨(Nat.le_of_ble_eq_true rfl), eN_c c3 (by first | rfl | (simp (disch := omega) only [nI_add, i_sub]) | (simp only [*])) ?_⟩
    refine (ev_if_eq (M := ML_saves) (t := 345) dL_saves_338 (by decide) (pc' := 341) rfl).mpr (ifF (by first | assumption | omega | rfl | exact fun q => q (by assumption) | exact fun q => q rfl | (simp (disch := omega) only [nle_t, nle_f, nlt_t, nlt_f, neq_t, neq_f, i_lt0, i_le0, i_0le, i_0lt, i_eq0, i_lt, i_le, i_eq, nI_add, i_sub, i_cl, i_m1a, i_m1b, i_m1c, i_m1d, i_m1e, i_am1, i_ite0, m1_le, m1_m1, m1_ge0, not_true_eq_false, not_false_eq_true, or_self, or_false, false_or, or_true, true_or, and_self, and_true, true_and])) ?_)
    refine (ev_iconst (M := ML_saves) (v := (nI 1)) rfl dL_saves_341 (pc' := 342) rfl).mpr ?_
    refine (ev_goto (M := ML_saves) (pc' := 346) dL_saves_342 (by decide)).mpr ?_
    refine (ev_zretI (M := ML_saves) rfl dL_saves_346 (by omega)).mpr ?_
    exact hQ
  · have h2 := hb.resolve_left h
    subst h2
    refine eN_iload (M := ML_saves) dL_saves_183 (pc' := 185) rfl rfl ?_
    refine eN_aload_n (M := ML_saves) (k := 0) rfl dL_saves_185 (pc' := 186) rfl rfl ?_
    refine eN_iload_n (M := ML_saves) (k := 2) rfl dL_saves_186 (pc' := 187) rfl rfl ?_
    refine eN_iload (M := ML_saves) dL_saves_187 (pc' := 189) rfl rfl ?_
    refine (ev_cV2 (M := ML_saves) (kk := 8) dL_saves_189 c_9_29 mX6_chunksOf rfl rfl (by decide) rfl (pc' := 192) rfl).mpr ⟨(by assumption), (Nat.le_of_ble_eq_true rfl), eN_c c1 (by first | rfl | (simp (disch := omega) only [nI_add, i_sub]) | (simp only [*])) ?_⟩
    refine (ev_icmp_ge (M := ML_saves) (t := 254) dL_saves_192 (by decide) (pc' := 195) rfl).mpr (ifT (by first | assumption | omega | rfl | exact fun q => q (by assumption) | exact fun q => q rfl | (simp (disch := omega) only [nle_t, nle_f, nlt_t, nlt_f, neq_t, neq_f, i_lt0, i_le0, i_0le, i_0lt, i_eq0, i_lt, i_le, i_eq, nI_add, i_sub, i_cl, i_m1a, i_m1b, i_m1c, i_m1d, i_m1e, i_am1, i_ite0, m1_le, m1_m1, m1_ge0, not_true_eq_false, not_false_eq_true, or_self, or_false, false_or, or_true, true_or, and_self, and_true, true_and])) ?_)
    refine eN_aload_n (M := ML_saves) (k := 0) rfl dL_saves_254 (pc' := 255) rfl rfl ?_
    refine eN_iload_n (M := ML_saves) (k := 2) rfl dL_saves_255 (pc' := 256) rfl rfl ?_
    refine eN_iload (M := ML_saves) dL_saves_256 (pc' := 258) rfl rfl ?_
    refine (ev_cV2 (M := ML_saves) (kk := 8) dL_saves_258 c_9_29 mX6_chunksOf rfl rfl (by decide) rfl (pc' := 261) rfl).mpr ⟨(by assumption), (Nat.le_of_ble_eq_true rfl), eN_c c1 (by first | rfl | (simp (disch := omega) only [nI_add, i_sub]) | (simp only [*])) ?_⟩
    refine (ev_istore (M := ML_saves) dL_saves_261 (by decide) (pc' := 263) rfl).mpr ?_
    refine eN_iload (M := ML_saves) dL_saves_263 (pc' := 265) rfl rfl ?_
    refine (ev_if_eq (M := ML_saves) (t := 323) dL_saves_265 (by decide) (pc' := 268) rfl).mpr (ifF (by first | assumption | omega | rfl | exact fun q => q (by assumption) | exact fun q => q rfl | (simp (disch := omega) only [nle_t, nle_f, nlt_t, nlt_f, neq_t, neq_f, i_lt0, i_le0, i_0le, i_0lt, i_eq0, i_lt, i_le, i_eq, nI_add, i_sub, i_cl, i_m1a, i_m1b, i_m1c, i_m1d, i_m1e, i_am1, i_ite0, m1_le, m1_m1, m1_ge0, not_true_eq_false, not_false_eq_true, or_self, or_false, false_or, or_true, true_or, and_self, and_true, true_and])) ?_)
    refine eN_aload_n (M := ML_saves) (k := 0) rfl dL_saves_268 (pc' := 269) rfl rfl ?_
    refine eN_iload_n (M := ML_saves) (k := 2) rfl dL_saves_269 (pc' := 270) rfl rfl ?_
    refine eN_iload (M := ML_saves) dL_saves_270 (pc' := 272) rfl rfl ?_
    refine (ev_cV2 (M := ML_saves) (kk := 8) dL_saves_272 c_9_39 mX6_baseOf rfl rfl (by decide) rfl (pc' := 275) rfl).mpr ⟨(by assumption), (Nat.le_of_ble_eq_true rfl), eN_c c2 (by first | rfl | (simp (disch := omega) only [nI_add, i_sub]) | (simp only [*])) ?_⟩
    refine (ev_iconst (M := ML_saves) (v := (-1)) rfl dL_saves_275 (pc' := 276) rfl).mpr ?_
    refine (ev_icmp_eq (M := ML_saves) (t := 291) dL_saves_276 (by decide) (pc' := 279) rfl).mpr (ifF (by first | assumption | omega | rfl | exact fun q => q (by assumption) | exact fun q => q rfl | (simp (disch := omega) only [nle_t, nle_f, nlt_t, nlt_f, neq_t, neq_f, i_lt0, i_le0, i_0le, i_0lt, i_eq0, i_lt, i_le, i_eq, nI_add, i_sub, i_cl, i_m1a, i_m1b, i_m1c, i_m1d, i_m1e, i_am1, i_ite0, m1_le, m1_m1, m1_ge0, not_true_eq_false, not_false_eq_true, or_self, or_false, false_or, or_true, true_or, and_self, and_true, true_and])) ?_)
    refine eN_aload_n (M := ML_saves) (k := 0) rfl dL_saves_279 (pc' := 280) rfl rfl ?_
    refine eN_iload_n (M := ML_saves) (k := 2) rfl dL_saves_280 (pc' := 281) rfl rfl ?_
    refine eN_iload (M := ML_saves) dL_saves_281 (pc' := 283) rfl rfl ?_
    refine (ev_cV2 (M := ML_saves) (kk := 8) dL_saves_283 c_9_39 mX6_baseOf rfl rfl (by decide) rfl (pc' := 286) rfl).mpr ⟨(by assumption), (Nat.le_of_ble_eq_true rfl), eN_c c2 (by first | rfl | (simp (disch := omega) only [nI_add, i_sub]) | (simp only [*])) ?_⟩
    refine eN_iload (M := ML_saves) dL_saves_286 (pc' := 288) rfl rfl ?_
    refine (ev_icmp_ne (M := ML_saves) (t := 323) dL_saves_288 (by decide) (pc' := 291) rfl).mpr (ifF (by first | assumption | omega | rfl | exact fun q => q (by assumption) | exact fun q => q rfl | (simp (disch := omega) only [nle_t, nle_f, nlt_t, nlt_f, neq_t, neq_f, i_lt0, i_le0, i_0le, i_0lt, i_eq0, i_lt, i_le, i_eq, nI_add, i_sub, i_cl, i_m1a, i_m1b, i_m1c, i_m1d, i_m1e, i_am1, i_ite0, m1_le, m1_m1, m1_ge0, not_true_eq_false, not_false_eq_true, or_self, or_false, false_or, or_true, true_or, and_self, and_true, true_and])) ?_)
    refine eN_iload (M := ML_saves) dL_saves_291 (pc' := 293) rfl rfl ?_
    refine (ev_if_eq (M := ML_saves) (t := 319) dL_saves_293 (by decide) (pc' := 296) rfl).mpr (ifF (by first | assumption | omega | rfl | exact fun q => q (by assumption) | exact fun q => q rfl | (simp (disch := omega) only [nle_t, nle_f, nlt_t, nlt_f, neq_t, neq_f, i_lt0, i_le0, i_0le, i_0lt, i_eq0, i_lt, i_le, i_eq, nI_add, i_sub, i_cl, i_m1a, i_m1b, i_m1c, i_m1d, i_m1e, i_am1, i_ite0, m1_le, m1_m1, m1_ge0, not_true_eq_false, not_false_eq_true, or_self, or_false, false_or, or_true, true_or, and_self, and_true, true_and])) ?_)
    refine eN_aload_n (M := ML_saves) (k := 0) rfl dL_saves_296 (pc' := 297) rfl rfl ?_
    refine (ev_iconst (M := ML_saves) (v := (nI 0)) rfl dL_saves_297 (pc' := 298) rfl).mpr ?_
    refine (ev_cV1 (M := ML_saves) (kk := 8) dL_saves_298 c_9_114 mX6_cached rfl rfl (by decide) rfl (pc' := 301) rfl).mpr ⟨(by assumption), (Nat.le_of_ble_eq_true rfl), eN_c c4 (by first | rfl | (simp (disch := omega) only [nI_add, i_sub]) | (simp only [*])) ?_⟩
    refine eN_aload_n (M := ML_saves) (k := 0) rfl dL_saves_301 (pc' := 302) rfl rfl ?_
    refine eN_aload_n (M := ML_saves) (k := 0) rfl dL_saves_302 (pc' := 303) rfl rfl ?_
    refine eN_iload_n (M := ML_saves) (k := 2) rfl dL_saves_303 (pc' := 304) rfl rfl ?_
    refine eN_iload (M := ML_saves) dL_saves_304 (pc' := 306) rfl rfl ?_
    refine eN_iload (M := ML_saves) dL_saves_306 (pc' := 308) rfl rfl ?_
    refine (ev_iconst (M := ML_saves) (v := (nI 1)) rfl dL_saves_308 (pc' := 309) rfl).mpr ?_
    refine eN_isub (M := ML_saves) dL_saves_309 (pc' := 310) rfl (by omega) ?_
    refine (ev_cV3 (M := ML_saves) (kk := 8) dL_saves_310 c_9_32 mX6_chunkAt rfl rfl (by decide) rfl (pc' := 313) rfl).mpr ⟨(by assumption), (Nat.le_of_ble_eq_true rfl), eN_c c5 (by first | rfl | (simp (disch := omega) only [nI_add, i_sub]) | (simp only [*])) ?_⟩
    refine (ev_cV1 (M := ML_saves) (kk := 8) dL_saves_313 c_9_88 mX6_containerOf rfl rfl (by decide) rfl (pc' := 316) rfl).mpr ⟨(by assumption), (Nat.le_of_ble_eq_true rfl), eN_c c6 (by first | rfl | (simp (disch := omega) only [nI_add, i_sub]) | (simp only [*])) ?_⟩
    refine (ev_icmp_ne (M := ML_saves) (t := 323) dL_saves_316 (by decide) (pc' := 319) rfl).mpr (ifF (by first | assumption | omega | rfl | exact fun q => q (by assumption) | exact fun q => q rfl | (simp (disch := omega) only [nle_t, nle_f, nlt_t, nlt_f, neq_t, neq_f, i_lt0, i_le0, i_0le, i_0lt, i_eq0, i_lt, i_le, i_eq, nI_add, i_sub, i_cl, i_m1a, i_m1b, i_m1c, i_m1d, i_m1e, i_am1, i_ite0, m1_le, m1_m1, m1_ge0, not_true_eq_false, not_false_eq_true, or_self, or_false, false_or, or_true, true_or, and_self, and_true, true_and])) ?_)
    refine (ev_iconst (M := ML_saves) (v := (nI 1)) rfl dL_saves_319 (pc' := 320) rfl).mpr ?_
    refine (ev_goto (M := ML_saves) (pc' := 324) dL_saves_320 (by decide)).mpr ?_
    refine (ev_istore (M := ML_saves) dL_saves_324 (by decide) (pc' := 326) rfl).mpr ?_
    refine eN_iload (M := ML_saves) dL_saves_326 (pc' := 328) rfl rfl ?_
    refine (ev_if_eq (M := ML_saves) (t := 345) dL_saves_328 (by decide) (pc' := 331) rfl).mpr (ifF (by first | assumption | omega | rfl | exact fun q => q (by assumption) | exact fun q => q rfl | (simp (disch := omega) only [nle_t, nle_f, nlt_t, nlt_f, neq_t, neq_f, i_lt0, i_le0, i_0le, i_0lt, i_eq0, i_lt, i_le, i_eq, nI_add, i_sub, i_cl, i_m1a, i_m1b, i_m1c, i_m1d, i_m1e, i_am1, i_ite0, m1_le, m1_m1, m1_ge0, not_true_eq_false, not_false_eq_true, or_self, or_false, false_or, or_true, true_or, and_self, and_true, true_and])) ?_)
    refine eN_aload_n (M := ML_saves) (k := 0) rfl dL_saves_331 (pc' := 332) rfl rfl ?_
    refine eN_iload_n (M := ML_saves) (k := 2) rfl dL_saves_332 (pc' := 333) rfl rfl ?_
    refine eN_iload (M := ML_saves) dL_saves_333 (pc' := 335) rfl rfl ?_
    refine (ev_cS3 (M := ML_saves) dL_saves_335 c_9_73 (by decide) mL_isVersion rfl rfl (pc' := 338) rfl).mpr ⟨(Nat.le_of_ble_eq_true rfl), eN_c c3 (by first | rfl | (simp (disch := omega) only [nI_add, i_sub]) | (simp only [*])) ?_⟩
    refine (ev_if_eq (M := ML_saves) (t := 345) dL_saves_338 (by decide) (pc' := 341) rfl).mpr (ifF (by first | assumption | omega | rfl | exact fun q => q (by assumption) | exact fun q => q rfl | (simp (disch := omega) only [nle_t, nle_f, nlt_t, nlt_f, neq_t, neq_f, i_lt0, i_le0, i_0le, i_0lt, i_eq0, i_lt, i_le, i_eq, nI_add, i_sub, i_cl, i_m1a, i_m1b, i_m1c, i_m1d, i_m1e, i_am1, i_ite0, m1_le, m1_m1, m1_ge0, not_true_eq_false, not_false_eq_true, or_self, or_false, false_or, or_true, true_or, and_self, and_true, true_and])) ?_)
    refine (ev_iconst (M := ML_saves) (v := (nI 1)) rfl dL_saves_341 (pc' := 342) rfl).mpr ?_
    refine (ev_goto (M := ML_saves) (pc' := 346) dL_saves_342 (by decide)).mpr ?_
    refine (ev_zretI (M := ML_saves) rfl dL_saves_346 (by omega)).mpr ?_
    exact hQ
end Z
end SAV
