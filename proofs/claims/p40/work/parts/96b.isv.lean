/-! isVersion -/
section ISV
variable {d X : Nat} {va ba ca : Nat → Nat} {dr kl : List Nat} {vf vn : Nat → Nat} {vb ve : Nat → List Nat} {vp : Nat → Option Nat} {nx : Nat → Nat} {sv : Nat} {cb : Nat → List Nat} {us : Nat → Nat} {bl cs : List Nat} {co : Nat → List Nat} {op hi re st : Nat} {rw : List Nat} {bx : Nat → Nat} {ud : Nat} {T : TS}
/-- the sum of the last eight bytes ahead of e, none ahead of b -/
def wS (xs : List Nat) (b e : Nat) : Nat := sm (fun i => xs.getD (e - min 8 (e - b) + i) 0) (min 8 (e - b))
theorem wS_0 (xs : List Nat) (b : Nat) : wS xs b b = 0 := by
  unfold wS
  rw [Nat.sub_self, Nat.min_eq_right (Nat.zero_le _)]
  rfl
theorem wS_s1 {xs : List Nat} {b e : Nat} (hb : b ≤ e) (h : e + 1 - b ≤ 8) : wS xs b (e + 1) = wS xs b e + xs.getD e 0 := by
  unfold wS
  rw [Nat.min_eq_right h, Nat.min_eq_right (by omega), show e + 1 - b = (e - b) + 1 by omega, show e + 1 - (e - b + 1) = b by omega, show e - (e - b) = b by omega]
  show sm _ (e - b) + xs.getD (b + (e - b)) 0 = _
  rw [show b + (e - b) = e by omega]
theorem wS_s2 {xs : List Nat} {b e : Nat} (hb : b ≤ e) (h : 8 < e + 1 - b) : wS xs b (e + 1) + xs.getD (e - 8) 0 = wS xs b e + xs.getD e 0 := by
  unfold wS
  rw [Nat.min_eq_left (by omega), Nat.min_eq_left (by omega)]
  have h1 := sm_shift (f := fun i => xs.getD (e - 8 + i) 0) 8
  have h2 : sm (fun i => xs.getD (e - 8 + i) 0) (8 + 1) = sm (fun i => xs.getD (e - 8 + i) 0) 8 + xs.getD (e - 8 + 8) 0 := rfl
  have h3 : sm (fun i => xs.getD (e - 8 + (i + 1)) 0) 8 = sm (fun i => xs.getD (e + 1 - 8 + i) 0) 8 := sm_congr (fun i _ => by show xs.getD (e - 8 + (i + 1)) 0 = xs.getD (e + 1 - 8 + i) 0; rw [show e - 8 + (i + 1) = e + 1 - 8 + i by omega])
  rw [show e - 8 + 8 = e by omega] at h2
  have h4 : xs.getD (e - 8 + 0) 0 = xs.getD (e - 8) 0 := rfl
  have h1 : sm (fun i => xs.getD (e - 8 + i) 0) (8 + 1) = xs.getD (e - 8 + 0) 0 + sm (fun i => xs.getD (e - 8 + (i + 1)) 0) 8 := h1
  omega
theorem wS_w {xs : List Nat} {b e : Nat} (h : 8 ≤ e - b) : wS xs b e = wsum xs e := by
  unfold wS wsum
  rw [Nat.min_eq_left h]
theorem wS_lt {xs : List Nat} {b e : Nat} (hx : ∀ x ∈ xs, x < 256) : wS xs b e ≤ 2040 := by
  have := sm_le (f := fun i => xs.getD (e - min 8 (e - b) + i) 0) (B := 255) (n := min 8 (e - b)) (fun i hi => by
    by_cases q : e - min 8 (e - b) + i < xs.length
    · have := hx _ (gD_mem q)
      show xs.getD _ 0 ≤ 255
      omega
    · show xs.getD _ 0 ≤ 255
      rw [List.getD_eq_getElem?_getD, List.getElem?_eq_none (by omega)]
      exact Nat.zero_le _)
  have h8 : min 8 (e - b) ≤ 8 := Nat.min_le_left _ _
  unfold wS
  omega
section Z
variable {f v n b s c a x m : Nat} {Q : Post}
theorem Z_iv1 (k8 : tK T X = 8) (ha : a < n) (hn : n ≤ 240) (hb : b ≤ a) (hs : s ≤ 2040) (hx : x < 256) (c1 : Call (d + 5) 95 [.ref X, .int (nI f), .int (nI v), .int (nI a)] T (.inl (some (.int (nI x)))) T) (c2 : Call (d + 5) 96 [.ref X, .int (nI f), .int (nI v), .int (nI a)] T (.inl (some (.int (nI x)))) T) (hm : a - b + 1 ≤ 8) (hq : Ev (d + 5) ML_isVersion [] 106 [(9, .int (nI (a - b + 1))), (8, .int (nI x)), (7, .int (nI a)), (6, .int (nI c)), (5, .int (nI (s + x))), (4, .int (nI b)), (3, .int (nI n)), (0, .ref X), (1, .int (nI f)), (2, .int (nI v))] [] T Q) : Ev (d + 5) ML_isVersion [] 19 [(7, .int (nI a)), (6, .int (nI c)), (5, .int (nI s)), (4, .int (nI b)), (3, .int (nI n)), (0, .ref X), (1, .int (nI f)), (2, .int (nI v))] [] T Q := by
  refine eN_iload (M := ML_isVersion) dL_isVersion_19 (pc' := 21) rfl rfl ?_
  refine eN_iload_n (M := ML_isVersion) (k := 3) rfl dL_isVersion_21 (pc' := 22) rfl rfl ?_
  refine (ev_icmp_ge (M := ML_isVersion) (t := 184) dL_isVersion_22 (by decide) (pc' := 25) rfl).mpr (ifF (by first | assumption | omega | rfl | exact fun q => q (by assumption) | exact fun q => q rfl | (simp (disch := omega) only [nle_t, nle_f, nlt_t, nlt_f, neq_t, neq_f, i_lt0, i_le0, i_0le, i_0lt, i_eq0, i_lt, i_le, i_eq, nI_add, i_sub, i_cl, i_m1a, i_m1b, i_m1c, i_m1d, i_m1e, i_am1, i_ite0, m1_le, m1_m1, m1_ge0, not_true_eq_false, not_false_eq_true, or_self, or_false, false_or, or_true, true_or, and_self, and_true, true_and])) ?_)
  refine eN_aload_n (M := ML_isVersion) (k := 0) rfl dL_isVersion_25 (pc' := 26) rfl rfl ?_
  refine eN_iload_n (M := ML_isVersion) (k := 1) rfl dL_isVersion_26 (pc' := 27) rfl rfl ?_
  refine eN_iload_n (M := ML_isVersion) (k := 2) rfl dL_isVersion_27 (pc' := 28) rfl rfl ?_
  refine eN_iload (M := ML_isVersion) dL_isVersion_28 (pc' := 30) rfl rfl ?_
  refine (ev_cV3 (M := ML_isVersion) (kk := 8) dL_isVersion_30 c_9_22 mX6_byteAt rfl rfl (by decide) rfl (pc' := 33) rfl).mpr ⟨(by assumption), (Nat.le_of_ble_eq_true rfl), eN_c c1 (by first | rfl | (simp (disch := omega) only [nI_add, i_sub]) | (simp only [*])) ?_⟩
  refine (ev_istore (M := ML_isVersion) dL_isVersion_33 (by decide) (pc' := 35) rfl).mpr ?_
  refine eN_iload (M := ML_isVersion) dL_isVersion_35 (pc' := 37) rfl rfl ?_
  refine eN_aload_n (M := ML_isVersion) (k := 0) rfl dL_isVersion_37 (pc' := 38) rfl rfl ?_
  refine eN_iload_n (M := ML_isVersion) (k := 1) rfl dL_isVersion_38 (pc' := 39) rfl rfl ?_
  refine eN_iload_n (M := ML_isVersion) (k := 2) rfl dL_isVersion_39 (pc' := 40) rfl rfl ?_
  refine eN_iload (M := ML_isVersion) dL_isVersion_40 (pc' := 42) rfl rfl ?_
  refine (ev_cV3 (M := ML_isVersion) (kk := 8) dL_isVersion_42 c_9_26 mX6_byteByCopy rfl rfl (by decide) rfl (pc' := 45) rfl).mpr ⟨(by assumption), (Nat.le_of_ble_eq_true rfl), eN_c c2 (by first | rfl | (simp (disch := omega) only [nI_add, i_sub]) | (simp only [*])) ?_⟩
  refine (ev_icmp_ne (M := ML_isVersion) (t := 61) dL_isVersion_45 (by decide) (pc' := 48) rfl).mpr (ifF (by first | assumption | omega | rfl | exact fun q => q (by assumption) | exact fun q => q rfl | (simp (disch := omega) only [nle_t, nle_f, nlt_t, nlt_f, neq_t, neq_f, i_lt0, i_le0, i_0le, i_0lt, i_eq0, i_lt, i_le, i_eq, nI_add, i_sub, i_cl, i_m1a, i_m1b, i_m1c, i_m1d, i_m1e, i_am1, i_ite0, m1_le, m1_m1, m1_ge0, not_true_eq_false, not_false_eq_true, or_self, or_false, false_or, or_true, true_or, and_self, and_true, true_and])) ?_)
  refine eN_iload (M := ML_isVersion) dL_isVersion_48 (pc' := 50) rfl rfl ?_
  refine (ev_if_lt (M := ML_isVersion) (t := 61) dL_isVersion_50 (by decide) (pc' := 53) rfl).mpr (ifF (by first | assumption | omega | rfl | exact fun q => q (by assumption) | exact fun q => q rfl | (simp (disch := omega) only [nle_t, nle_f, nlt_t, nlt_f, neq_t, neq_f, i_lt0, i_le0, i_0le, i_0lt, i_eq0, i_lt, i_le, i_eq, nI_add, i_sub, i_cl, i_m1a, i_m1b, i_m1c, i_m1d, i_m1e, i_am1, i_ite0, m1_le, m1_m1, m1_ge0, not_true_eq_false, not_false_eq_true, or_self, or_false, false_or, or_true, true_or, and_self, and_true, true_and])) ?_)
  refine eN_iload (M := ML_isVersion) dL_isVersion_53 (pc' := 55) rfl rfl ?_
  refine (ev_sipush (M := ML_isVersion) (v := (nI 255)) rfl dL_isVersion_55 (pc' := 58) rfl).mpr ?_
  refine (ev_icmp_le (M := ML_isVersion) (t := 63) dL_isVersion_58 (by decide) (pc' := 61) rfl).mpr (ifT (by first | assumption | omega | rfl | exact fun q => q (by assumption) | exact fun q => q rfl | (simp (disch := omega) only [nle_t, nle_f, nlt_t, nlt_f, neq_t, neq_f, i_lt0, i_le0, i_0le, i_0lt, i_eq0, i_lt, i_le, i_eq, nI_add, i_sub, i_cl, i_m1a, i_m1b, i_m1c, i_m1d, i_m1e, i_am1, i_ite0, m1_le, m1_m1, m1_ge0, not_true_eq_false, not_false_eq_true, or_self, or_false, false_or, or_true, true_or, and_self, and_true, true_and])) ?_)
  refine eN_iload (M := ML_isVersion) dL_isVersion_63 (pc' := 65) rfl rfl ?_
  refine eN_iload (M := ML_isVersion) dL_isVersion_65 (pc' := 67) rfl rfl ?_
  refine eN_isub (M := ML_isVersion) dL_isVersion_67 (pc' := 68) rfl (by omega) ?_
  refine (ev_iconst (M := ML_isVersion) (v := (nI 1)) rfl dL_isVersion_68 (pc' := 69) rfl).mpr ?_
  refine eN_iadd (M := ML_isVersion) dL_isVersion_69 (pc' := 70) rfl ?_
  refine (ev_istore (M := ML_isVersion) dL_isVersion_70 (by decide) (pc' := 72) rfl).mpr ?_
  refine eN_iload (M := ML_isVersion) dL_isVersion_72 (pc' := 74) rfl rfl ?_
  refine eN_iload (M := ML_isVersion) dL_isVersion_74 (pc' := 76) rfl rfl ?_
  refine eN_iadd (M := ML_isVersion) dL_isVersion_76 (pc' := 77) rfl ?_
  refine (ev_istore (M := ML_isVersion) dL_isVersion_77 (by decide) (pc' := 79) rfl).mpr ?_
  refine eN_iload (M := ML_isVersion) dL_isVersion_79 (pc' := 81) rfl rfl ?_
  refine eN_iload (M := ML_isVersion) dL_isVersion_81 (pc' := 83) rfl rfl ?_
  refine (ev_bipush (M := ML_isVersion) (v := (nI 8)) rfl dL_isVersion_83 (pc' := 85) rfl).mpr ?_
  refine (ev_icmp_le (M := ML_isVersion) (t := 102) dL_isVersion_85 (by decide) (pc' := 88) rfl).mpr (ifT (by first | assumption | omega | rfl | exact fun q => q (by assumption) | exact fun q => q rfl | (simp (disch := omega) only [nle_t, nle_f, nlt_t, nlt_f, neq_t, neq_f, i_lt0, i_le0, i_0le, i_0lt, i_eq0, i_lt, i_le, i_eq, nI_add, i_sub, i_cl, i_m1a, i_m1b, i_m1c, i_m1d, i_m1e, i_am1, i_ite0, m1_le, m1_m1, m1_ge0, not_true_eq_false, not_false_eq_true, or_self, or_false, false_or, or_true, true_or, and_self, and_true, true_and])) ?_)
  refine (ev_iconst (M := ML_isVersion) (v := (nI 0)) rfl dL_isVersion_102 (pc' := 103) rfl).mpr ?_
  refine eN_isub (M := ML_isVersion) dL_isVersion_103 (pc' := 104) rfl (by omega) ?_
  refine (ev_istore (M := ML_isVersion) dL_isVersion_104 (by decide) (pc' := 106) rfl).mpr ?_
  exact ev_more (by repeat (first | exact trivial | refine ⟨rfl, ?_⟩)) (by exact rfl) (by exact rfl) hq
theorem Z_iv2 {y : Nat} (k8 : tK T X = 8) (ha : a < n) (hn : n ≤ 240) (hb : b ≤ a) (hs : s ≤ 2040) (hx : x < 256) (hy : y ≤ s + x) (c1 : Call (d + 5) 95 [.ref X, .int (nI f), .int (nI v), .int (nI a)] T (.inl (some (.int (nI x)))) T) (c2 : Call (d + 5) 96 [.ref X, .int (nI f), .int (nI v), .int (nI a)] T (.inl (some (.int (nI x)))) T) (c3 : Call (d + 5) 96 [.ref X, .int (nI f), .int (nI v), .int (nI (a - 8))] T (.inl (some (.int (nI y)))) T) (hm : 8 < a - b + 1) (hq : Ev (d + 5) ML_isVersion [] 106 [(9, .int (nI (a - b + 1))), (8, .int (nI x)), (7, .int (nI a)), (6, .int (nI c)), (5, .int (nI (s + x - y))), (4, .int (nI b)), (3, .int (nI n)), (0, .ref X), (1, .int (nI f)), (2, .int (nI v))] [] T Q) : Ev (d + 5) ML_isVersion [] 19 [(7, .int (nI a)), (6, .int (nI c)), (5, .int (nI s)), (4, .int (nI b)), (3, .int (nI n)), (0, .ref X), (1, .int (nI f)), (2, .int (nI v))] [] T Q := by
  refine eN_iload (M := ML_isVersion) dL_isVersion_19 (pc' := 21) rfl rfl ?_
  refine eN_iload_n (M := ML_isVersion) (k := 3) rfl dL_isVersion_21 (pc' := 22) rfl rfl ?_
  refine (ev_icmp_ge (M := ML_isVersion) (t := 184) dL_isVersion_22 (by decide) (pc' := 25) rfl).mpr (ifF (by first | assumption | omega | rfl | exact fun q => q (by assumption) | exact fun q => q rfl | (simp (disch := omega) only [nle_t, nle_f, nlt_t, nlt_f, neq_t, neq_f, i_lt0, i_le0, i_0le, i_0lt, i_eq0, i_lt, i_le, i_eq, nI_add, i_sub, i_cl, i_m1a, i_m1b, i_m1c, i_m1d, i_m1e, i_am1, i_ite0, m1_le, m1_m1, m1_ge0, not_true_eq_false, not_false_eq_true, or_self, or_false, false_or, or_true, true_or, and_self, and_true, true_and])) ?_)
  refine eN_aload_n (M := ML_isVersion) (k := 0) rfl dL_isVersion_25 (pc' := 26) rfl rfl ?_
  refine eN_iload_n (M := ML_isVersion) (k := 1) rfl dL_isVersion_26 (pc' := 27) rfl rfl ?_
  refine eN_iload_n (M := ML_isVersion) (k := 2) rfl dL_isVersion_27 (pc' := 28) rfl rfl ?_
  refine eN_iload (M := ML_isVersion) dL_isVersion_28 (pc' := 30) rfl rfl ?_
  refine (ev_cV3 (M := ML_isVersion) (kk := 8) dL_isVersion_30 c_9_22 mX6_byteAt rfl rfl (by decide) rfl (pc' := 33) rfl).mpr ⟨(by assumption), (Nat.le_of_ble_eq_true rfl), eN_c c1 (by first | rfl | (simp (disch := omega) only [nI_add, i_sub]) | (simp only [*])) ?_⟩
  refine (ev_istore (M := ML_isVersion) dL_isVersion_33 (by decide) (pc' := 35) rfl).mpr ?_
  refine eN_iload (M := ML_isVersion) dL_isVersion_35 (pc' := 37) rfl rfl ?_
  refine eN_aload_n (M := ML_isVersion) (k := 0) rfl dL_isVersion_37 (pc' := 38) rfl rfl ?_
  refine eN_iload_n (M := ML_isVersion) (k := 1) rfl dL_isVersion_38 (pc' := 39) rfl rfl ?_
  refine eN_iload_n (M := ML_isVersion) (k := 2) rfl dL_isVersion_39 (pc' := 40) rfl rfl ?_
  refine eN_iload (M := ML_isVersion) dL_isVersion_40 (pc' := 42) rfl rfl ?_
  refine (ev_cV3 (M := ML_isVersion) (kk := 8) dL_isVersion_42 c_9_26 mX6_byteByCopy rfl rfl (by decide) rfl (pc' := 45) rfl).mpr ⟨(by assumption), (Nat.le_of_ble_eq_true rfl), eN_c c2 (by first | rfl | (simp (disch := omega) only [nI_add, i_sub]) | (simp only [*])) ?_⟩
  refine (ev_icmp_ne (M := ML_isVersion) (t := 61) dL_isVersion_45 (by decide) (pc' := 48) rfl).mpr (ifF (by first | assumption | omega | rfl | exact fun q => q (by assumption) | exact fun q => q rfl | (simp (disch := omega) only [nle_t, nle_f, nlt_t, nlt_f, neq_t, neq_f, i_lt0, i_le0, i_0le, i_0lt, i_eq0, i_lt, i_le, i_eq, nI_add, i_sub, i_cl, i_m1a, i_m1b, i_m1c, i_m1d, i_m1e, i_am1, i_ite0, m1_le, m1_m1, m1_ge0, not_true_eq_false, not_false_eq_true, or_self, or_false, false_or, or_true, true_or, and_self, and_true, true_and])) ?_)
  refine eN_iload (M := ML_isVersion) dL_isVersion_48 (pc' := 50) rfl rfl ?_
  refine (ev_if_lt (M := ML_isVersion) (t := 61) dL_isVersion_50 (by decide) (pc' := 53) rfl).mpr (ifF (by first | assumption | omega | rfl | exact fun q => q (by assumption) | exact fun q => q rfl | (simp (disch := omega) only [nle_t, nle_f, nlt_t, nlt_f, neq_t, neq_f, i_lt0, i_le0, i_0le, i_0lt, i_eq0, i_lt, i_le, i_eq, nI_add, i_sub, i_cl, i_m1a, i_m1b, i_m1c, i_m1d, i_m1e, i_am1, i_ite0, m1_le, m1_m1, m1_ge0, not_true_eq_false, not_false_eq_true, or_self, or_false, false_or, or_true, true_or, and_self, and_true, true_and])) ?_)
  refine eN_iload (M := ML_isVersion) dL_isVersion_53 (pc' := 55) rfl rfl ?_
  refine (ev_sipush (M := ML_isVersion) (v := (nI 255)) rfl dL_isVersion_55 (pc' := 58) rfl).mpr ?_
  refine (ev_icmp_le (M := ML_isVersion) (t := 63) dL_isVersion_58 (by decide) (pc' := 61) rfl).mpr (ifT (by first | assumption | omega | rfl | exact fun q => q (by assumption) | exact fun q => q rfl | (simp (disch := omega) only [nle_t, nle_f, nlt_t, nlt_f, neq_t, neq_f, i_lt0, i_le0, i_0le, i_0lt, i_eq0, i_lt, i_le, i_eq, nI_add, i_sub, i_cl, i_m1a, i_m1b, i_m1c, i_m1d, i_m1e, i_am1, i_ite0, m1_le, m1_m1, m1_ge0, not_true_eq_false, not_false_eq_true, or_self, or_false, false_or, or_true, true_or, and_self, and_true, true_and])) ?_)
  refine eN_iload (M := ML_isVersion) dL_isVersion_63 (pc' := 65) rfl rfl ?_
  refine eN_iload (M := ML_isVersion) dL_isVersion_65 (pc' := 67) rfl rfl ?_
  refine eN_isub (M := ML_isVersion) dL_isVersion_67 (pc' := 68) rfl (by omega) ?_
  refine (ev_iconst (M := ML_isVersion) (v := (nI 1)) rfl dL_isVersion_68 (pc' := 69) rfl).mpr ?_
  refine eN_iadd (M := ML_isVersion) dL_isVersion_69 (pc' := 70) rfl ?_
  refine (ev_istore (M := ML_isVersion) dL_isVersion_70 (by decide) (pc' := 72) rfl).mpr ?_
  refine eN_iload (M := ML_isVersion) dL_isVersion_72 (pc' := 74) rfl rfl ?_
  refine eN_iload (M := ML_isVersion) dL_isVersion_74 (pc' := 76) rfl rfl ?_
  refine eN_iadd (M := ML_isVersion) dL_isVersion_76 (pc' := 77) rfl ?_
  refine (ev_istore (M := ML_isVersion) dL_isVersion_77 (by decide) (pc' := 79) rfl).mpr ?_
  refine eN_iload (M := ML_isVersion) dL_isVersion_79 (pc' := 81) rfl rfl ?_
  refine eN_iload (M := ML_isVersion) dL_isVersion_81 (pc' := 83) rfl rfl ?_
  refine (ev_bipush (M := ML_isVersion) (v := (nI 8)) rfl dL_isVersion_83 (pc' := 85) rfl).mpr ?_
  refine (ev_icmp_le (M := ML_isVersion) (t := 102) dL_isVersion_85 (by decide) (pc' := 88) rfl).mpr (ifF (by first | assumption | omega | rfl | exact fun q => q (by assumption) | exact fun q => q rfl | (simp (disch := omega) only [nle_t, nle_f, nlt_t, nlt_f, neq_t, neq_f, i_lt0, i_le0, i_0le, i_0lt, i_eq0, i_lt, i_le, i_eq, nI_add, i_sub, i_cl, i_m1a, i_m1b, i_m1c, i_m1d, i_m1e, i_am1, i_ite0, m1_le, m1_m1, m1_ge0, not_true_eq_false, not_false_eq_true, or_self, or_false, false_or, or_true, true_or, and_self, and_true, true_and])) ?_)
  refine eN_aload_n (M := ML_isVersion) (k := 0) rfl dL_isVersion_88 (pc' := 89) rfl rfl ?_
  refine eN_iload_n (M := ML_isVersion) (k := 1) rfl dL_isVersion_89 (pc' := 90) rfl rfl ?_
  refine eN_iload_n (M := ML_isVersion) (k := 2) rfl dL_isVersion_90 (pc' := 91) rfl rfl ?_
  refine eN_iload (M := ML_isVersion) dL_isVersion_91 (pc' := 93) rfl rfl ?_
  refine (ev_bipush (M := ML_isVersion) (v := (nI 8)) rfl dL_isVersion_93 (pc' := 95) rfl).mpr ?_
  refine eN_isub (M := ML_isVersion) dL_isVersion_95 (pc' := 96) rfl (by omega) ?_
  refine (ev_cV3 (M := ML_isVersion) (kk := 8) dL_isVersion_96 c_9_26 mX6_byteByCopy rfl rfl (by decide) rfl (pc' := 99) rfl).mpr ⟨(by assumption), (Nat.le_of_ble_eq_true rfl), eN_c c3 (by first | rfl | (simp (disch := omega) only [nI_add, i_sub]) | (simp only [*])) ?_⟩
  refine (ev_goto (M := ML_isVersion) (pc' := 103) dL_isVersion_99 (by decide)).mpr ?_
  refine eN_isub (M := ML_isVersion) dL_isVersion_103 (pc' := 104) rfl (by omega) ?_
  refine (ev_istore (M := ML_isVersion) dL_isVersion_104 (by decide) (pc' := 106) rfl).mpr ?_
  exact ev_more (by repeat (first | exact trivial | refine ⟨rfl, ?_⟩)) (by exact rfl) (by exact rfl) hq
/-- at an end, or not -/
theorem Z_iv3 (hm : m ≤ 1000) (hs : s ≤ 10000) (hn : n ≤ 240) (ha : a < n) (h : a + 1 = n ∨ m = 32 ∨ (8 ≤ m ∧ s % 16 = 0)) (hq : Ev (d + 5) ML_isVersion [] 136 [(9, .int (nI m)), (8, .int (nI x)), (7, .int (nI a)), (6, .int (nI c)), (5, .int (nI s)), (4, .int (nI b)), (3, .int (nI n)), (0, .ref X), (1, .int (nI f)), (2, .int (nI v))] [] T Q) : Ev (d + 5) ML_isVersion [] 106 [(9, .int (nI m)), (8, .int (nI x)), (7, .int (nI a)), (6, .int (nI c)), (5, .int (nI s)), (4, .int (nI b)), (3, .int (nI n)), (0, .ref X), (1, .int (nI f)), (2, .int (nI v))] [] T Q := by
  by_cases h1 : 8 ≤ m
  · by_cases h2 : s % 16 = 0
    · skip
      refine eN_iload (M := ML_isVersion) dL_isVersion_106 (pc' := 108) rfl rfl ?_
      refine (ev_bipush (M := ML_isVersion) (v := (nI 8)) rfl dL_isVersion_108 (pc' := 110) rfl).mpr ?_
      refine (ev_icmp_lt (M := ML_isVersion) (t := 121) dL_isVersion_110 (by decide) (pc' := 113) rfl).mpr (ifF (by first | assumption | omega | rfl | exact fun q => q (by assumption) | exact fun q => q rfl | (simp (disch := omega) only [nle_t, nle_f, nlt_t, nlt_f, neq_t, neq_f, i_lt0, i_le0, i_0le, i_0lt, i_eq0, i_lt, i_le, i_eq, nI_add, i_sub, i_cl, i_m1a, i_m1b, i_m1c, i_m1d, i_m1e, i_am1, i_ite0, m1_le, m1_m1, m1_ge0, not_true_eq_false, not_false_eq_true, or_self, or_false, false_or, or_true, true_or, and_self, and_true, true_and])) ?_)
      refine eN_iload (M := ML_isVersion) dL_isVersion_113 (pc' := 115) rfl rfl ?_
      refine (ev_bipush (M := ML_isVersion) (v := (nI 16)) rfl dL_isVersion_115 (pc' := 117) rfl).mpr ?_
      refine eN_irem (M := ML_isVersion) dL_isVersion_117 (pc' := 118) rfl (by omega) ?_
      refine (ev_if_eq (M := ML_isVersion) (t := 136) dL_isVersion_118 (by decide) (pc' := 121) rfl).mpr (ifT (by first | assumption | omega | rfl | exact fun q => q (by assumption) | exact fun q => q rfl | (simp (disch := omega) only [nle_t, nle_f, nlt_t, nlt_f, neq_t, neq_f, i_lt0, i_le0, i_0le, i_0lt, i_eq0, i_lt, i_le, i_eq, nI_add, i_sub, i_cl, i_m1a, i_m1b, i_m1c, i_m1d, i_m1e, i_am1, i_ite0, m1_le, m1_m1, m1_ge0, not_true_eq_false, not_false_eq_true, or_self, or_false, false_or, or_true, true_or, and_self, and_true, true_and])) ?_)
      exact ev_more (by repeat (first | exact trivial | refine ⟨rfl, ?_⟩)) (by exact rfl) (by exact rfl) hq
    · by_cases h3 : m = 32
      · skip
        refine eN_iload (M := ML_isVersion) dL_isVersion_106 (pc' := 108) rfl rfl ?_
        refine (ev_bipush (M := ML_isVersion) (v := (nI 8)) rfl dL_isVersion_108 (pc' := 110) rfl).mpr ?_
        refine (ev_icmp_lt (M := ML_isVersion) (t := 121) dL_isVersion_110 (by decide) (pc' := 113) rfl).mpr (ifF (by first | assumption | omega | rfl | exact fun q => q (by assumption) | exact fun q => q rfl | (simp (disch := omega) only [nle_t, nle_f, nlt_t, nlt_f, neq_t, neq_f, i_lt0, i_le0, i_0le, i_0lt, i_eq0, i_lt, i_le, i_eq, nI_add, i_sub, i_cl, i_m1a, i_m1b, i_m1c, i_m1d, i_m1e, i_am1, i_ite0, m1_le, m1_m1, m1_ge0, not_true_eq_false, not_false_eq_true, or_self, or_false, false_or, or_true, true_or, and_self, and_true, true_and])) ?_)
        refine eN_iload (M := ML_isVersion) dL_isVersion_113 (pc' := 115) rfl rfl ?_
        refine (ev_bipush (M := ML_isVersion) (v := (nI 16)) rfl dL_isVersion_115 (pc' := 117) rfl).mpr ?_
        refine eN_irem (M := ML_isVersion) dL_isVersion_117 (pc' := 118) rfl (by omega) ?_
        refine (ev_if_eq (M := ML_isVersion) (t := 136) dL_isVersion_118 (by decide) (pc' := 121) rfl).mpr (ifF (by first | assumption | omega | rfl | exact fun q => q (by assumption) | exact fun q => q rfl | (simp (disch := omega) only [nle_t, nle_f, nlt_t, nlt_f, neq_t, neq_f, i_lt0, i_le0, i_0le, i_0lt, i_eq0, i_lt, i_le, i_eq, nI_add, i_sub, i_cl, i_m1a, i_m1b, i_m1c, i_m1d, i_m1e, i_am1, i_ite0, m1_le, m1_m1, m1_ge0, not_true_eq_false, not_false_eq_true, or_self, or_false, false_or, or_true, true_or, and_self, and_true, true_and])) ?_)
        refine eN_iload (M := ML_isVersion) dL_isVersion_121 (pc' := 123) rfl rfl ?_
        refine (ev_bipush (M := ML_isVersion) (v := (nI 32)) rfl dL_isVersion_123 (pc' := 125) rfl).mpr ?_
        refine (ev_icmp_eq (M := ML_isVersion) (t := 136) dL_isVersion_125 (by decide) (pc' := 128) rfl).mpr (ifT (by first | assumption | omega | rfl | exact fun q => q (by assumption) | exact fun q => q rfl | (simp (disch := omega) only [nle_t, nle_f, nlt_t, nlt_f, neq_t, neq_f, i_lt0, i_le0, i_0le, i_0lt, i_eq0, i_lt, i_le, i_eq, nI_add, i_sub, i_cl, i_m1a, i_m1b, i_m1c, i_m1d, i_m1e, i_am1, i_ite0, m1_le, m1_m1, m1_ge0, not_true_eq_false, not_false_eq_true, or_self, or_false, false_or, or_true, true_or, and_self, and_true, true_and])) ?_)
        exact ev_more (by repeat (first | exact trivial | refine ⟨rfl, ?_⟩)) (by exact rfl) (by exact rfl) hq
      · have h4 : a = n - 1 := by omega
        refine eN_iload (M := ML_isVersion) dL_isVersion_106 (pc' := 108) rfl rfl ?_
        refine (ev_bipush (M := ML_isVersion) (v := (nI 8)) rfl dL_isVersion_108 (pc' := 110) rfl).mpr ?_
        refine (ev_icmp_lt (M := ML_isVersion) (t := 121) dL_isVersion_110 (by decide) (pc' := 113) rfl).mpr (ifF (by first | assumption | omega | rfl | exact fun q => q (by assumption) | exact fun q => q rfl | (simp (disch := omega) only [nle_t, nle_f, nlt_t, nlt_f, neq_t, neq_f, i_lt0, i_le0, i_0le, i_0lt, i_eq0, i_lt, i_le, i_eq, nI_add, i_sub, i_cl, i_m1a, i_m1b, i_m1c, i_m1d, i_m1e, i_am1, i_ite0, m1_le, m1_m1, m1_ge0, not_true_eq_false, not_false_eq_true, or_self, or_false, false_or, or_true, true_or, and_self, and_true, true_and])) ?_)
        refine eN_iload (M := ML_isVersion) dL_isVersion_113 (pc' := 115) rfl rfl ?_
        refine (ev_bipush (M := ML_isVersion) (v := (nI 16)) rfl dL_isVersion_115 (pc' := 117) rfl).mpr ?_
        refine eN_irem (M := ML_isVersion) dL_isVersion_117 (pc' := 118) rfl (by omega) ?_
        refine (ev_if_eq (M := ML_isVersion) (t := 136) dL_isVersion_118 (by decide) (pc' := 121) rfl).mpr (ifF (by first | assumption | omega | rfl | exact fun q => q (by assumption) | exact fun q => q rfl | (simp (disch := omega) only [nle_t, nle_f, nlt_t, nlt_f, neq_t, neq_f, i_lt0, i_le0, i_0le, i_0lt, i_eq0, i_lt, i_le, i_eq, nI_add, i_sub, i_cl, i_m1a, i_m1b, i_m1c, i_m1d, i_m1e, i_am1, i_ite0, m1_le, m1_m1, m1_ge0, not_true_eq_false, not_false_eq_true, or_self, or_false, false_or, or_true, true_or, and_self, and_true, true_and])) ?_)
        refine eN_iload (M := ML_isVersion) dL_isVersion_121 (pc' := 123) rfl rfl ?_
        refine (ev_bipush (M := ML_isVersion) (v := (nI 32)) rfl dL_isVersion_123 (pc' := 125) rfl).mpr ?_
        refine (ev_icmp_eq (M := ML_isVersion) (t := 136) dL_isVersion_125 (by decide) (pc' := 128) rfl).mpr (ifF (by first | assumption | omega | rfl | exact fun q => q (by assumption) | exact fun q => q rfl | (simp (disch := omega) only [nle_t, nle_f, nlt_t, nlt_f, neq_t, neq_f, i_lt0, i_le0, i_0le, i_0lt, i_eq0, i_lt, i_le, i_eq, nI_add, i_sub, i_cl, i_m1a, i_m1b, i_m1c, i_m1d, i_m1e, i_am1, i_ite0, m1_le, m1_m1, m1_ge0, not_true_eq_false, not_false_eq_true, or_self, or_false, false_or, or_true, true_or, and_self, and_true, true_and])) ?_)
        refine eN_iload (M := ML_isVersion) dL_isVersion_128 (pc' := 130) rfl rfl ?_
        refine eN_iload_n (M := ML_isVersion) (k := 3) rfl dL_isVersion_130 (pc' := 131) rfl rfl ?_
        refine (ev_iconst (M := ML_isVersion) (v := (nI 1)) rfl dL_isVersion_131 (pc' := 132) rfl).mpr ?_
        refine eN_isub (M := ML_isVersion) dL_isVersion_132 (pc' := 133) rfl (by omega) ?_
        refine (ev_icmp_ne (M := ML_isVersion) (t := 178) dL_isVersion_133 (by decide) (pc' := 136) rfl).mpr (ifF (by first | assumption | omega | rfl | exact fun q => q (by assumption) | exact fun q => q rfl | (simp (disch := omega) only [nle_t, nle_f, nlt_t, nlt_f, neq_t, neq_f, i_lt0, i_le0, i_0le, i_0lt, i_eq0, i_lt, i_le, i_eq, nI_add, i_sub, i_cl, i_m1a, i_m1b, i_m1c, i_m1d, i_m1e, i_am1, i_ite0, m1_le, m1_m1, m1_ge0, not_true_eq_false, not_false_eq_true, or_self, or_false, false_or, or_true, true_or, and_self, and_true, true_and])) ?_)
        exact ev_more (by repeat (first | exact trivial | refine ⟨rfl, ?_⟩)) (by exact rfl) (by exact rfl) hq
  · have h4 : a = n - 1 := by omega
    have h3 : ¬ m = 32 := by omega
    refine eN_iload (M := ML_isVersion) dL_isVersion_106 (pc' := 108) rfl rfl ?_
    refine (ev_bipush (M := ML_isVersion) (v := (nI 8)) rfl dL_isVersion_108 (pc' := 110) rfl).mpr ?_
    refine (ev_icmp_lt (M := ML_isVersion) (t := 121) dL_isVersion_110 (by decide) (pc' := 113) rfl).mpr (ifT (by first | assumption | omega | rfl | exact fun q => q (by assumption) | exact fun q => q rfl | (simp (disch := omega) only [nle_t, nle_f, nlt_t, nlt_f, neq_t, neq_f, i_lt0, i_le0, i_0le, i_0lt, i_eq0, i_lt, i_le, i_eq, nI_add, i_sub, i_cl, i_m1a, i_m1b, i_m1c, i_m1d, i_m1e, i_am1, i_ite0, m1_le, m1_m1, m1_ge0, not_true_eq_false, not_false_eq_true, or_self, or_false, false_or, or_true, true_or, and_self, and_true, true_and])) ?_)
    refine eN_iload (M := ML_isVersion) dL_isVersion_121 (pc' := 123) rfl rfl ?_
    refine (ev_bipush (M := ML_isVersion) (v := (nI 32)) rfl dL_isVersion_123 (pc' := 125) rfl).mpr ?_
    refine (ev_icmp_eq (M := ML_isVersion) (t := 136) dL_isVersion_125 (by decide) (pc' := 128) rfl).mpr (ifF (by first | assumption | omega | rfl | exact fun q => q (by assumption) | exact fun q => q rfl | (simp (disch := omega) only [nle_t, nle_f, nlt_t, nlt_f, neq_t, neq_f, i_lt0, i_le0, i_0le, i_0lt, i_eq0, i_lt, i_le, i_eq, nI_add, i_sub, i_cl, i_m1a, i_m1b, i_m1c, i_m1d, i_m1e, i_am1, i_ite0, m1_le, m1_m1, m1_ge0, not_true_eq_false, not_false_eq_true, or_self, or_false, false_or, or_true, true_or, and_self, and_true, true_and])) ?_)
    refine eN_iload (M := ML_isVersion) dL_isVersion_128 (pc' := 130) rfl rfl ?_
    refine eN_iload_n (M := ML_isVersion) (k := 3) rfl dL_isVersion_130 (pc' := 131) rfl rfl ?_
    refine (ev_iconst (M := ML_isVersion) (v := (nI 1)) rfl dL_isVersion_131 (pc' := 132) rfl).mpr ?_
    refine eN_isub (M := ML_isVersion) dL_isVersion_132 (pc' := 133) rfl (by omega) ?_
    refine (ev_icmp_ne (M := ML_isVersion) (t := 178) dL_isVersion_133 (by decide) (pc' := 136) rfl).mpr (ifF (by first | assumption | omega | rfl | exact fun q => q (by assumption) | exact fun q => q rfl | (simp (disch := omega) only [nle_t, nle_f, nlt_t, nlt_f, neq_t, neq_f, i_lt0, i_le0, i_0le, i_0lt, i_eq0, i_lt, i_le, i_eq, nI_add, i_sub, i_cl, i_m1a, i_m1b, i_m1c, i_m1d, i_m1e, i_am1, i_ite0, m1_le, m1_m1, m1_ge0, not_true_eq_false, not_false_eq_true, or_self, or_false, false_or, or_true, true_or, and_self, and_true, true_and])) ?_)
    exact ev_more (by repeat (first | exact trivial | refine ⟨rfl, ?_⟩)) (by exact rfl) (by exact rfl) hq
theorem Z_iv4 (hm : m ≤ 1000) (hs : s ≤ 10000) (hn : n ≤ 240) (ha : a < n) (h : ¬ (a + 1 = n ∨ m = 32 ∨ (8 ≤ m ∧ s % 16 = 0))) (hq : Ev (d + 5) ML_isVersion [] 19 [(7, .int (nI (a + 1))), (6, .int (nI c)), (5, .int (nI s)), (4, .int (nI b)), (3, .int (nI n)), (0, .ref X), (1, .int (nI f)), (2, .int (nI v))] [] T Q) : Ev (d + 5) ML_isVersion [] 106 [(9, .int (nI m)), (8, .int (nI x)), (7, .int (nI a)), (6, .int (nI c)), (5, .int (nI s)), (4, .int (nI b)), (3, .int (nI n)), (0, .ref X), (1, .int (nI f)), (2, .int (nI v))] [] T Q := by
  have h4 : ¬ a = n - 1 := by omega
  have h3 : ¬ m = 32 := by omega
  by_cases h1 : 8 ≤ m
  · have h2 : ¬ s % 16 = 0 := by omega
    refine eN_iload (M := ML_isVersion) dL_isVersion_106 (pc' := 108) rfl rfl ?_
    refine (ev_bipush (M := ML_isVersion) (v := (nI 8)) rfl dL_isVersion_108 (pc' := 110) rfl).mpr ?_
    refine (ev_icmp_lt (M := ML_isVersion) (t := 121) dL_isVersion_110 (by decide) (pc' := 113) rfl).mpr (ifF (by first | assumption | omega | rfl | exact fun q => q (by assumption) | exact fun q => q rfl | (simp (disch := omega) only [nle_t, nle_f, nlt_t, nlt_f, neq_t, neq_f, i_lt0, i_le0, i_0le, i_0lt, i_eq0, i_lt, i_le, i_eq, nI_add, i_sub, i_cl, i_m1a, i_m1b, i_m1c, i_m1d, i_m1e, i_am1, i_ite0, m1_le, m1_m1, m1_ge0, not_true_eq_false, not_false_eq_true, or_self, or_false, false_or, or_true, true_or, and_self, and_true, true_and])) ?_)
    refine eN_iload (M := ML_isVersion) dL_isVersion_113 (pc' := 115) rfl rfl ?_
    refine (ev_bipush (M := ML_isVersion) (v := (nI 16)) rfl dL_isVersion_115 (pc' := 117) rfl).mpr ?_
    refine eN_irem (M := ML_isVersion) dL_isVersion_117 (pc' := 118) rfl (by omega) ?_
    refine (ev_if_eq (M := ML_isVersion) (t := 136) dL_isVersion_118 (by decide) (pc' := 121) rfl).mpr (ifF (by first | assumption | omega | rfl | exact fun q => q (by assumption) | exact fun q => q rfl | (simp (disch := omega) only [nle_t, nle_f, nlt_t, nlt_f, neq_t, neq_f, i_lt0, i_le0, i_0le, i_0lt, i_eq0, i_lt, i_le, i_eq, nI_add, i_sub, i_cl, i_m1a, i_m1b, i_m1c, i_m1d, i_m1e, i_am1, i_ite0, m1_le, m1_m1, m1_ge0, not_true_eq_false, not_false_eq_true, or_self, or_false, false_or, or_true, true_or, and_self, and_true, true_and])) ?_)
    refine eN_iload (M := ML_isVersion) dL_isVersion_121 (pc' := 123) rfl rfl ?_
    refine (ev_bipush (M := ML_isVersion) (v := (nI 32)) rfl dL_isVersion_123 (pc' := 125) rfl).mpr ?_
    refine (ev_icmp_eq (M := ML_isVersion) (t := 136) dL_isVersion_125 (by decide) (pc' := 128) rfl).mpr (ifF (by first | assumption | omega | rfl | exact fun q => q (by assumption) | exact fun q => q rfl | (simp (disch := omega) only [nle_t, nle_f, nlt_t, nlt_f, neq_t, neq_f, i_lt0, i_le0, i_0le, i_0lt, i_eq0, i_lt, i_le, i_eq, nI_add, i_sub, i_cl, i_m1a, i_m1b, i_m1c, i_m1d, i_m1e, i_am1, i_ite0, m1_le, m1_m1, m1_ge0, not_true_eq_false, not_false_eq_true, or_self, or_false, false_or, or_true, true_or, and_self, and_true, true_and])) ?_)
    refine eN_iload (M := ML_isVersion) dL_isVersion_128 (pc' := 130) rfl rfl ?_
    refine eN_iload_n (M := ML_isVersion) (k := 3) rfl dL_isVersion_130 (pc' := 131) rfl rfl ?_
    refine (ev_iconst (M := ML_isVersion) (v := (nI 1)) rfl dL_isVersion_131 (pc' := 132) rfl).mpr ?_
    refine eN_isub (M := ML_isVersion) dL_isVersion_132 (pc' := 133) rfl (by omega) ?_
    refine (ev_icmp_ne (M := ML_isVersion) (t := 178) dL_isVersion_133 (by decide) (pc' := 136) rfl).mpr (ifT (by first | assumption | omega | rfl | exact fun q => q (by assumption) | exact fun q => q rfl | (simp (disch := omega) only [nle_t, nle_f, nlt_t, nlt_f, neq_t, neq_f, i_lt0, i_le0, i_0le, i_0lt, i_eq0, i_lt, i_le, i_eq, nI_add, i_sub, i_cl, i_m1a, i_m1b, i_m1c, i_m1d, i_m1e, i_am1, i_ite0, m1_le, m1_m1, m1_ge0, not_true_eq_false, not_false_eq_true, or_self, or_false, false_or, or_true, true_or, and_self, and_true, true_and])) ?_)
    refine eN_iinc (M := ML_isVersion) (v := 1) rfl dL_isVersion_178 (by decide) (pc' := 181) rfl rfl ?_
    refine (ev_goto (M := ML_isVersion) (pc' := 19) dL_isVersion_181 (by decide)).mpr ?_
    exact ev_more (by repeat (first | exact trivial | refine ⟨rfl, ?_⟩)) (by exact rfl) (by exact rfl) hq
  · skip
    refine eN_iload (M := ML_isVersion) dL_isVersion_106 (pc' := 108) rfl rfl ?_
    refine (ev_bipush (M := ML_isVersion) (v := (nI 8)) rfl dL_isVersion_108 (pc' := 110) rfl).mpr ?_
    refine (ev_icmp_lt (M := ML_isVersion) (t := 121) dL_isVersion_110 (by decide) (pc' := 113) rfl).mpr (ifT (by first | assumption | omega | rfl | exact fun q => q (by assumption) | exact fun q => q rfl | (simp (disch := omega) only [nle_t, nle_f, nlt_t, nlt_f, neq_t, neq_f, i_lt0, i_le0, i_0le, i_0lt, i_eq0, i_lt, i_le, i_eq, nI_add, i_sub, i_cl, i_m1a, i_m1b, i_m1c, i_m1d, i_m1e, i_am1, i_ite0, m1_le, m1_m1, m1_ge0, not_true_eq_false, not_false_eq_true, or_self, or_false, false_or, or_true, true_or, and_self, and_true, true_and])) ?_)
    refine eN_iload (M := ML_isVersion) dL_isVersion_121 (pc' := 123) rfl rfl ?_
    refine (ev_bipush (M := ML_isVersion) (v := (nI 32)) rfl dL_isVersion_123 (pc' := 125) rfl).mpr ?_
    refine (ev_icmp_eq (M := ML_isVersion) (t := 136) dL_isVersion_125 (by decide) (pc' := 128) rfl).mpr (ifF (by first | assumption | omega | rfl | exact fun q => q (by assumption) | exact fun q => q rfl | (simp (disch := omega) only [nle_t, nle_f, nlt_t, nlt_f, neq_t, neq_f, i_lt0, i_le0, i_0le, i_0lt, i_eq0, i_lt, i_le, i_eq, nI_add, i_sub, i_cl, i_m1a, i_m1b, i_m1c, i_m1d, i_m1e, i_am1, i_ite0, m1_le, m1_m1, m1_ge0, not_true_eq_false, not_false_eq_true, or_self, or_false, false_or, or_true, true_or, and_self, and_true, true_and])) ?_)
    refine eN_iload (M := ML_isVersion) dL_isVersion_128 (pc' := 130) rfl rfl ?_
    refine eN_iload_n (M := ML_isVersion) (k := 3) rfl dL_isVersion_130 (pc' := 131) rfl rfl ?_
    refine (ev_iconst (M := ML_isVersion) (v := (nI 1)) rfl dL_isVersion_131 (pc' := 132) rfl).mpr ?_
    refine eN_isub (M := ML_isVersion) dL_isVersion_132 (pc' := 133) rfl (by omega) ?_
    refine (ev_icmp_ne (M := ML_isVersion) (t := 178) dL_isVersion_133 (by decide) (pc' := 136) rfl).mpr (ifT (by first | assumption | omega | rfl | exact fun q => q (by assumption) | exact fun q => q rfl | (simp (disch := omega) only [nle_t, nle_f, nlt_t, nlt_f, neq_t, neq_f, i_lt0, i_le0, i_0le, i_0lt, i_eq0, i_lt, i_le, i_eq, nI_add, i_sub, i_cl, i_m1a, i_m1b, i_m1c, i_m1d, i_m1e, i_am1, i_ite0, m1_le, m1_m1, m1_ge0, not_true_eq_false, not_false_eq_true, or_self, or_false, false_or, or_true, true_or, and_self, and_true, true_and])) ?_)
    refine eN_iinc (M := ML_isVersion) (v := 1) rfl dL_isVersion_178 (by decide) (pc' := 181) rfl rfl ?_
    refine (ev_goto (M := ML_isVersion) (pc' := 19) dL_isVersion_181 (by decide)).mpr ?_
    exact ev_more (by repeat (first | exact trivial | refine ⟨rfl, ?_⟩)) (by exact rfl) (by exact rfl) hq
theorem Z_iv5 {N e : Nat} (k8 : tK T X = 8) (hm : m ≤ 1000) (hn : n ≤ 240) (ha : a < n) (hc : c < N) (hN : N ≤ 30) (c1 : Call (d + 5) 97 [.ref X, .int (nI f), .int (nI v)] T (.inl (some (.int (nI N)))) T) (c2 : Call (d + 5) 98 [.ref X, .int (nI f), .int (nI v), .int (nI c)] T (.inl (some (.int (nI e)))) T) (c3 : Call (d + 5) 104 [.ref X, .int (nI e)] T (.inl (some (.int (nI m)))) T) (hq : Ev (d + 5) ML_isVersion [] 19 [(7, .int (nI (a + 1))), (6, .int (nI (c + 1))), (5, .int (nI 0)), (4, .int (nI (a + 1))), (3, .int (nI n)), (0, .ref X), (1, .int (nI f)), (2, .int (nI v))] [] T Q) : Ev (d + 5) ML_isVersion [] 136 [(9, .int (nI m)), (8, .int (nI x)), (7, .int (nI a)), (6, .int (nI c)), (5, .int (nI s)), (4, .int (nI b)), (3, .int (nI n)), (0, .ref X), (1, .int (nI f)), (2, .int (nI v))] [] T Q := by
  refine eN_iload (M := ML_isVersion) dL_isVersion_136 (pc' := 138) rfl rfl ?_
  refine eN_aload_n (M := ML_isVersion) (k := 0) rfl dL_isVersion_138 (pc' := 139) rfl rfl ?_
  refine eN_iload_n (M := ML_isVersion) (k := 1) rfl dL_isVersion_139 (pc' := 140) rfl rfl ?_
  refine eN_iload_n (M := ML_isVersion) (k := 2) rfl dL_isVersion_140 (pc' := 141) rfl rfl ?_
  refine (ev_cV2 (M := ML_isVersion) (kk := 8) dL_isVersion_141 c_9_29 mX6_chunksOf rfl rfl (by decide) rfl (pc' := 144) rfl).mpr ⟨(by assumption), (Nat.le_of_ble_eq_true rfl), eN_c c1 (by first | rfl | (simp (disch := omega) only [nI_add, i_sub]) | (simp only [*])) ?_⟩
  refine (ev_icmp_ge (M := ML_isVersion) (t := 164) dL_isVersion_144 (by decide) (pc' := 147) rfl).mpr (ifF (by first | assumption | omega | rfl | exact fun q => q (by assumption) | exact fun q => q rfl | (simp (disch := omega) only [nle_t, nle_f, nlt_t, nlt_f, neq_t, neq_f, i_lt0, i_le0, i_0le, i_0lt, i_eq0, i_lt, i_le, i_eq, nI_add, i_sub, i_cl, i_m1a, i_m1b, i_m1c, i_m1d, i_m1e, i_am1, i_ite0, m1_le, m1_m1, m1_ge0, not_true_eq_false, not_false_eq_true, or_self, or_false, false_or, or_true, true_or, and_self, and_true, true_and])) ?_)
  refine eN_aload_n (M := ML_isVersion) (k := 0) rfl dL_isVersion_147 (pc' := 148) rfl rfl ?_
  refine eN_aload_n (M := ML_isVersion) (k := 0) rfl dL_isVersion_148 (pc' := 149) rfl rfl ?_
  refine eN_iload_n (M := ML_isVersion) (k := 1) rfl dL_isVersion_149 (pc' := 150) rfl rfl ?_
  refine eN_iload_n (M := ML_isVersion) (k := 2) rfl dL_isVersion_150 (pc' := 151) rfl rfl ?_
  refine eN_iload (M := ML_isVersion) dL_isVersion_151 (pc' := 153) rfl rfl ?_
  refine (ev_cV3 (M := ML_isVersion) (kk := 8) dL_isVersion_153 c_9_32 mX6_chunkAt rfl rfl (by decide) rfl (pc' := 156) rfl).mpr ⟨(by assumption), (Nat.le_of_ble_eq_true rfl), eN_c c2 (by first | rfl | (simp (disch := omega) only [nI_add, i_sub]) | (simp only [*])) ?_⟩
  refine (ev_cV1 (M := ML_isVersion) (kk := 8) dL_isVersion_156 c_9_35 mX6_chunkLength rfl rfl (by decide) rfl (pc' := 159) rfl).mpr ⟨(by assumption), (Nat.le_of_ble_eq_true rfl), eN_c c3 (by first | rfl | (simp (disch := omega) only [nI_add, i_sub]) | (simp only [*])) ?_⟩
  refine eN_iload (M := ML_isVersion) dL_isVersion_159 (pc' := 161) rfl rfl ?_
  refine (ev_icmp_eq (M := ML_isVersion) (t := 166) dL_isVersion_161 (by decide) (pc' := 164) rfl).mpr (ifT (by first | assumption | omega | rfl | exact fun q => q (by assumption) | exact fun q => q rfl | (simp (disch := omega) only [nle_t, nle_f, nlt_t, nlt_f, neq_t, neq_f, i_lt0, i_le0, i_0le, i_0lt, i_eq0, i_lt, i_le, i_eq, nI_add, i_sub, i_cl, i_m1a, i_m1b, i_m1c, i_m1d, i_m1e, i_am1, i_ite0, m1_le, m1_m1, m1_ge0, not_true_eq_false, not_false_eq_true, or_self, or_false, false_or, or_true, true_or, and_self, and_true, true_and])) ?_)
  refine eN_iinc (M := ML_isVersion) (v := 1) rfl dL_isVersion_166 (by decide) (pc' := 169) rfl rfl ?_
  refine eN_iload (M := ML_isVersion) dL_isVersion_169 (pc' := 171) rfl rfl ?_
  refine (ev_iconst (M := ML_isVersion) (v := (nI 1)) rfl dL_isVersion_171 (pc' := 172) rfl).mpr ?_
  refine eN_iadd (M := ML_isVersion) dL_isVersion_172 (pc' := 173) rfl ?_
  refine (ev_istore (M := ML_isVersion) dL_isVersion_173 (by decide) (pc' := 175) rfl).mpr ?_
  refine (ev_iconst (M := ML_isVersion) (v := (nI 0)) rfl dL_isVersion_175 (pc' := 176) rfl).mpr ?_
  refine (ev_istore (M := ML_isVersion) dL_isVersion_176 (by decide) (pc' := 178) rfl).mpr ?_
  refine eN_iinc (M := ML_isVersion) (v := 1) rfl dL_isVersion_178 (by decide) (pc' := 181) rfl rfl ?_
  refine (ev_goto (M := ML_isVersion) (pc' := 19) dL_isVersion_181 (by decide)).mpr ?_
  exact ev_more (by repeat (first | exact trivial | refine ⟨rfl, ?_⟩)) (by exact rfl) (by exact rfl) hq
theorem Z_iv6 {N : Nat} (k8 : tK T X = 8) (hn : n ≤ 240) (hN : N ≤ 30) (c1 : Call (d + 5) 97 [.ref X, .int (nI f), .int (nI v)] T (.inl (some (.int (nI N)))) T) (hQ : Q (.inl (some (.int (nI 1)))) T) : Ev (d + 5) ML_isVersion [] 19 [(7, .int (nI n)), (6, .int (nI N)), (5, .int (nI s)), (4, .int (nI b)), (3, .int (nI n)), (0, .ref X), (1, .int (nI f)), (2, .int (nI v))] [] T Q := by
  refine eN_iload (M := ML_isVersion) dL_isVersion_19 (pc' := 21) rfl rfl ?_
  refine eN_iload_n (M := ML_isVersion) (k := 3) rfl dL_isVersion_21 (pc' := 22) rfl rfl ?_
  refine (ev_icmp_ge (M := ML_isVersion) (t := 184) dL_isVersion_22 (by decide) (pc' := 25) rfl).mpr (ifT (by first | assumption | omega | rfl | exact fun q => q (by assumption) | exact fun q => q rfl | (simp (disch := omega) only [nle_t, nle_f, nlt_t, nlt_f, neq_t, neq_f, i_lt0, i_le0, i_0le, i_0lt, i_eq0, i_lt, i_le, i_eq, nI_add, i_sub, i_cl, i_m1a, i_m1b, i_m1c, i_m1d, i_m1e, i_am1, i_ite0, m1_le, m1_m1, m1_ge0, not_true_eq_false, not_false_eq_true, or_self, or_false, false_or, or_true, true_or, and_self, and_true, true_and])) ?_)
  refine eN_iload (M := ML_isVersion) dL_isVersion_184 (pc' := 186) rfl rfl ?_
  refine eN_aload_n (M := ML_isVersion) (k := 0) rfl dL_isVersion_186 (pc' := 187) rfl rfl ?_
  refine eN_iload_n (M := ML_isVersion) (k := 1) rfl dL_isVersion_187 (pc' := 188) rfl rfl ?_
  refine eN_iload_n (M := ML_isVersion) (k := 2) rfl dL_isVersion_188 (pc' := 189) rfl rfl ?_
  refine (ev_cV2 (M := ML_isVersion) (kk := 8) dL_isVersion_189 c_9_29 mX6_chunksOf rfl rfl (by decide) rfl (pc' := 192) rfl).mpr ⟨(by assumption), (Nat.le_of_ble_eq_true rfl), eN_c c1 (by first | rfl | (simp (disch := omega) only [nI_add, i_sub]) | (simp only [*])) ?_⟩
  refine (ev_icmp_ne (M := ML_isVersion) (t := 199) dL_isVersion_192 (by decide) (pc' := 195) rfl).mpr (ifF (by first | assumption | omega | rfl | exact fun q => q (by assumption) | exact fun q => q rfl | (simp (disch := omega) only [nle_t, nle_f, nlt_t, nlt_f, neq_t, neq_f, i_lt0, i_le0, i_0le, i_0lt, i_eq0, i_lt, i_le, i_eq, nI_add, i_sub, i_cl, i_m1a, i_m1b, i_m1c, i_m1d, i_m1e, i_am1, i_ite0, m1_le, m1_m1, m1_ge0, not_true_eq_false, not_false_eq_true, or_self, or_false, false_or, or_true, true_or, and_self, and_true, true_and])) ?_)
  refine (ev_iconst (M := ML_isVersion) (v := (nI 1)) rfl dL_isVersion_195 (pc' := 196) rfl).mpr ?_
  refine (ev_goto (M := ML_isVersion) (pc' := 200) dL_isVersion_196 (by decide)).mpr ?_
  refine (ev_zretI (M := ML_isVersion) rfl dL_isVersion_200 (by omega)).mpr ?_
  exact hQ
end Z
/-- a chunk that ends here -/
theorem nxt_at {xs : List Nat} {b e : Nat} (hb : b < xs.length) (he : b < e) (hl : e ≤ xs.length) (h1 : ends xs b e = true) (h0 : ∀ i, b < i → i < e → ends xs b i = false) : nxt xs b = e := by
  obtain ⟨q1, q2, q3, q4⟩ := nxt_is hb
  rcases Nat.lt_trichotomy (nxt xs b) e with h | h | h
  · have := h0 _ q1 h
    rw [q3] at this; cases this
  · exact h
  · have := q4 e he h
    rw [h1] at this; cases this
theorem C_isVersion {k : Nat} (h : LV T X va ba ca dr kl vf vn vb ve vp nx sv cb us bl co op cs hi re st rw bx ud) (hk : k ∈ kl) : Call (d + 6) 133 [.ref X, .int (nI (vf k)), .int (nI (vn k))] T (.inl (some (.int (nI 1)))) T := by
  have k8 := h.k8
  have c1 := fun j hj => h.byteAt (d := d + 1) (j := j) hk hj
  have c2 := fun j hj => h.byCopy (d := d + 1) (j := j) hk hj
  have c3 := h.chunksOf (d := d + 1) hk
  have c4 := fun j hj => h.chunkAt (d := d + 1) (j := j) hk hj
  have c5 := fun n hn => h.chunkLength (d := d) (n := n) hn
  have c6 := h.length (d := d + 1) hk
  obtain ⟨hl, hel⟩ := h.lens hk
  have hpc := h.pieces hk
  have hx := h.bytes hk
  have her := h.ents hk
  have hlen : (ve k).length = (cuts (vb k) 0).length := by
    have := congrArg List.length hpc
    simpa using this
  refine Call_of ?_
  rw [uL_isVersion]
  refine eN_aload_n (M := ML_isVersion) (k := 0) rfl dL_isVersion_0 (pc' := 1) rfl rfl ?_
  refine eN_iload_n (M := ML_isVersion) (k := 1) rfl dL_isVersion_1 (pc' := 2) rfl rfl ?_
  refine eN_iload_n (M := ML_isVersion) (k := 2) rfl dL_isVersion_2 (pc' := 3) rfl rfl ?_
  refine (ev_cV2 (M := ML_isVersion) (kk := 8) dL_isVersion_3 c_9_16 mX6_length rfl rfl (by decide) rfl (pc' := 6) rfl).mpr ⟨(by assumption), (Nat.le_of_ble_eq_true rfl), eN_c c6 (by first | rfl | (simp (disch := omega) only [nI_add, i_sub]) | (simp only [*])) ?_⟩
  refine (ev_istore_n (M := ML_isVersion) (k := 3) rfl dL_isVersion_6 (by decide) (pc' := 7) rfl).mpr ?_
  refine (ev_iconst (M := ML_isVersion) (v := (nI 0)) rfl dL_isVersion_7 (pc' := 8) rfl).mpr ?_
  refine (ev_istore (M := ML_isVersion) dL_isVersion_8 (by decide) (pc' := 10) rfl).mpr ?_
  refine (ev_iconst (M := ML_isVersion) (v := (nI 0)) rfl dL_isVersion_10 (pc' := 11) rfl).mpr ?_
  refine (ev_istore (M := ML_isVersion) dL_isVersion_11 (by decide) (pc' := 13) rfl).mpr ?_
  refine (ev_iconst (M := ML_isVersion) (v := (nI 0)) rfl dL_isVersion_13 (pc' := 14) rfl).mpr ?_
  refine (ev_istore (M := ML_isVersion) dL_isVersion_14 (by decide) (pc' := 16) rfl).mpr ?_
  refine (ev_iconst (M := ML_isVersion) (v := (nI 0)) rfl dL_isVersion_16 (pc' := 17) rfl).mpr ?_
  refine (ev_istore (M := ML_isVersion) dL_isVersion_17 (by decide) (pc' := 19) rfl).mpr ?_
  generalize hxs : vb k = xs at *
  have key : ∀ n a b c, a + n = xs.length → b ≤ a → c ≤ (cuts xs 0).length → (cuts xs 0).drop c = cuts xs b → (∀ i, b < i → i ≤ a → ends xs b i = false) → Ev (d + 5) ML_isVersion [] 19 [(7, .int (nI a)), (6, .int (nI c)), (5, .int (nI (wS xs b a))), (4, .int (nI b)), (3, .int (nI xs.length)), (0, .ref X), (1, .int (nI (vf k))), (2, .int (nI (vn k)))] [] T (fun r T' => r = .inl (some (.int (nI 1))) ∧ T' = T) := by
    intro n
    induction n with
    | zero =>
      intro a b c h1 h2 h3 h4 h5
      have ea : a = xs.length := by omega
      subst ea
      have hb : ¬ b < xs.length := fun hb => by
        have := h5 xs.length hb (Nat.le_refl _)
        have := ends_f this
        exact this (Or.inl rfl)
      rw [cuts_nil hb] at h4
      have hc : c = (cuts xs 0).length := by
        have := congrArg List.length h4
        rw [List.length_drop] at this
        have : (cuts xs 0).length - c = 0 := this
        omega
      rw [hc, ← hlen]
      exact Z_iv6 k8 hl hel c3 ⟨rfl, rfl⟩
    | succ n ih =>
      intro a b c h1 h2 h3 h4 h5
      have ha : a < xs.length := by omega
      have hxa := hx _ (gD_mem ha)
      have hs := wS_lt (b := b) (e := a) hx
      have hs' := wS_lt (b := b) (e := a + 1) hx
      have ee : (ends xs b (a + 1) = true) ↔ (a + 1 = xs.length ∨ a + 1 - b = 32 ∨ (8 ≤ a + 1 - b ∧ wsum xs (a + 1) % 16 = 0)) := by
        unfold ends; rw [decide_eq_true_eq]
      have em : a - b + 1 = a + 1 - b := by omega
      have tail : Ev (d + 5) ML_isVersion [] 106 [(9, .int (nI (a - b + 1))), (8, .int (nI (xs.getD a 0))), (7, .int (nI a)), (6, .int (nI c)), (5, .int (nI (wS xs b (a + 1)))), (4, .int (nI b)), (3, .int (nI xs.length)), (0, .ref X), (1, .int (nI (vf k))), (2, .int (nI (vn k)))] [] T (fun r T' => r = .inl (some (.int (nI 1))) ∧ T' = T) := by
        cases e9 : ends xs b (a + 1) with
        | true =>
          have e8 := ee.mp e9
          have hnx := nxt_at (xs := xs) (b := b) (e := a + 1) (by omega) (by omega) (by omega) e9 (fun i q1 q2 => h5 i q1 (by omega))
          rw [cuts_cons (show b < xs.length by omega), hnx] at h4
          have hc : c < (cuts xs 0).length := by
            have := congrArg List.length h4
            rw [List.length_drop, List.length_cons] at this
            omega
          have hc1 : (cuts xs 0)[c]? = some (b, a + 1 - b) := by
            have := congrArg (fun l => l[0]?) h4
            simpa using this
          have hd1 : (cuts xs 0).drop (c + 1) = cuts xs (a + 1) := by
            have := congrArg (fun l => l.drop 1) h4
            simpa [List.drop_drop] using this
          have hec : c < (ve k).length := by omega
          have hce : cb ((ve k).getD c 0) = sub xs (b, a + 1 - b) := by
            have := congrArg (fun l => l[c]?) hpc
            simp only [List.getElem?_map, hc1, Option.map_some] at this
            rw [List.getElem?_eq_getElem hec] at this
            rw [List.getD_eq_getElem?_getD, List.getElem?_eq_getElem hec]
            exact Option.some.inj this
          have hcl : (cb ((ve k).getD c 0)).length = a - b + 1 := by
            rw [hce, sub_len (by show b + (a + 1 - b) ≤ _; omega)]
            show a + 1 - b = _
            omega
          have c7 := c5 _ (her _ (gD_mem hec))
          rw [hcl] at c7
          have hq := ih (a + 1) (a + 1) (c + 1) (by omega) (Nat.le_refl _) (by omega) hd1 (fun i q1 q2 => by omega)
          rw [wS_0] at hq
          refine Z_iv3 (by omega) (by omega) hl ha ?_ (Z_iv5 k8 (by omega) hl ha hec hel c3 (c4 c hec) c7 hq)
          rw [em]
          rcases e8 with q | q | ⟨q1, q2⟩
          · exact Or.inl q
          · exact Or.inr (Or.inl q)
          · exact Or.inr (Or.inr ⟨q1, by rw [wS_w q1]; exact q2⟩)
        | false =>
          refine Z_iv4 (by omega) (by omega) hl ha ?_ (ih (a + 1) b c (by omega) (by omega) h3 h4 (fun i q1 q2 => ?_))
          · intro q
            have : ends xs b (a + 1) = true := ee.mpr (by
              rw [em] at q
              rcases q with q | q | ⟨q1, q2⟩
              · exact Or.inl q
              · exact Or.inr (Or.inl q)
              · exact Or.inr (Or.inr ⟨q1, by rw [← wS_w q1]; exact q2⟩))
            rw [e9] at this; cases this
          · by_cases q : i = a + 1
            · rw [q]; exact e9
            · exact h5 i q1 (by omega)
      by_cases h8 : a - b + 1 ≤ 8
      · have e := wS_s1 (xs := xs) h2 (by omega)
        rw [e] at tail
        exact Z_iv1 k8 ha hl h2 hs hxa (c1 a ha) (c2 a ha) h8 tail
      · have e := wS_s2 (xs := xs) h2 (by omega)
        have e' : wS xs b (a + 1) = wS xs b a + xs.getD a 0 - xs.getD (a - 8) 0 := by omega
        rw [e'] at tail
        exact Z_iv2 k8 ha hl h2 hs hxa (by omega) (c1 a ha) (c2 a ha) (c2 (a - 8) (by omega)) (by omega) tail
  have hq := key xs.length 0 0 0 (by omega) (Nat.le_refl _) (Nat.zero_le _) rfl (fun i q1 q2 => by omega)
  rw [wS_0] at hq
  exact ev_more (by repeat (first | exact trivial | refine ⟨rfl, ?_⟩)) (by exact rfl) (by exact rfl) hq
end ISV
