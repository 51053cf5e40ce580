/-! isListed -/
section LIS
variable {d X G : Nat} {va ba ca : Nat → Nat} {dr kl : List Nat} {vf vn : Nat → Nat} {vb ve : Nat → List Nat} {vp : Nat → Option Nat} {nx : Nat → Nat} {sv : Nat} {cb : Nat → List Nat} {us : Nat → Nat} {bl cs : List Nat} {co : Nat → List Nat} {op hi re st : Nat} {rw : List Nat} {bx : Nat → Nat} {ud : Nat} {T : TS}
theorem chO_e : ∀ f o, chE vp f o → chO vp (f + 1) o = chO vp f o := by
  intro f
  induction f with
  | zero =>
    intro o h
    cases o with
    | none => rfl
    | some k => exact h.elim
  | succ f ih =>
    intro o h
    cases o with
    | none => rfl
    | some k =>
      show 1 + chO vp (f + 1) (vp k) = 1 + chO vp f (vp k)
      rw [ih (vp k) h]
theorem chO_le : ∀ f o, chO vp f o ≤ f := by
  intro f
  induction f with
  | zero => intro o; exact Nat.le_refl 0
  | succ f ih =>
    intro o
    cases o with
    | none => exact Nat.zero_le _
    | some k =>
      show 1 + chO vp f (vp k) ≤ f + 1
      have := ih (vp k)
      omega
section Z
variable {f v b n c m p s e e' : Nat} {Q : Post}
theorem Z_li1 (k8 : tK T X = 8) (hp : p < n) (hp2 : p < m) (hn : n ≤ 30) (hm : m ≤ 30) (he : e < 1000000) (c1 : Call (d + 6) 98 [.ref X, .int (nI f), .int (nI v), .int (nI p)] T (.inl (some (.int (nI e)))) T) (c2 : Call (d + 6) 98 [.ref X, .int (nI f), .int (nI b), .int (nI p)] T (.inl (some (.int (nI e)))) T) (hq : Ev (d + 6) ML_isListed [] 90 [(8, .int (nI (p + 1))), (7, .int (nI m)), (6, .int (nI c)), (5, .int (nI n)), (4, .int (nI b)), (0, .ref X), (1, .ref G), (2, .int (nI f)), (3, .int (nI v))] [] T Q) : Ev (d + 6) ML_isListed [] 90 [(8, .int (nI p)), (7, .int (nI m)), (6, .int (nI c)), (5, .int (nI n)), (4, .int (nI b)), (0, .ref X), (1, .ref G), (2, .int (nI f)), (3, .int (nI v))] [] T Q := by
  refine eN_iload (M := ML_isListed) dL_isListed_90 (pc' := 92) rfl rfl ?_
  refine eN_iload (M := ML_isListed) dL_isListed_92 (pc' := 94) rfl rfl ?_
  refine (ev_icmp_ge (M := ML_isListed) (t := 130) dL_isListed_94 (by decide) (pc' := 97) rfl).mpr (ifF (by first | assumption | omega | rfl | exact fun q => q (by assumption) | exact fun q => q rfl | (simp (disch := omega) only [nle_t, nle_f, nlt_t, nlt_f, neq_t, neq_f, i_lt0, i_le0, i_0le, i_0lt, i_eq0, i_lt, i_le, i_eq, nI_add, i_sub, i_cl, i_m1a, i_m1b, i_m1c, i_m1d, i_m1e, i_am1, i_ite0, m1_le, m1_m1, m1_ge0, not_true_eq_false, not_false_eq_true, or_self, or_false, false_or, or_true, true_or, and_self, and_true, true_and])) ?_)
  refine eN_iload (M := ML_isListed) dL_isListed_97 (pc' := 99) rfl rfl ?_
  refine eN_iload (M := ML_isListed) dL_isListed_99 (pc' := 101) rfl rfl ?_
  refine (ev_icmp_ge (M := ML_isListed) (t := 130) dL_isListed_101 (by decide) (pc' := 104) rfl).mpr (ifF (by first | assumption | omega | rfl | exact fun q => q (by assumption) | exact fun q => q rfl | (simp (disch := omega) only [nle_t, nle_f, nlt_t, nlt_f, neq_t, neq_f, i_lt0, i_le0, i_0le, i_0lt, i_eq0, i_lt, i_le, i_eq, nI_add, i_sub, i_cl, i_m1a, i_m1b, i_m1c, i_m1d, i_m1e, i_am1, i_ite0, m1_le, m1_m1, m1_ge0, not_true_eq_false, not_false_eq_true, or_self, or_false, false_or, or_true, true_or, and_self, and_true, true_and])) ?_)
  refine eN_aload_n (M := ML_isListed) (k := 0) rfl dL_isListed_104 (pc' := 105) rfl rfl ?_
  refine eN_iload_n (M := ML_isListed) (k := 2) rfl dL_isListed_105 (pc' := 106) rfl rfl ?_
  refine eN_iload_n (M := ML_isListed) (k := 3) rfl dL_isListed_106 (pc' := 107) rfl rfl ?_
  refine eN_iload (M := ML_isListed) dL_isListed_107 (pc' := 109) rfl rfl ?_
  refine (ev_cV3 (M := ML_isListed) (kk := 8) dL_isListed_109 c_9_32 mX6_chunkAt rfl rfl (by decide) rfl (pc' := 112) rfl).mpr ⟨(by assumption), (Nat.le_of_ble_eq_true rfl), eN_c c1 (by first | rfl | (simp (disch := omega) only [nI_add, i_sub]) | (simp only [*])) ?_⟩
  refine eN_aload_n (M := ML_isListed) (k := 0) rfl dL_isListed_112 (pc' := 113) rfl rfl ?_
  refine eN_iload_n (M := ML_isListed) (k := 2) rfl dL_isListed_113 (pc' := 114) rfl rfl ?_
  refine eN_iload (M := ML_isListed) dL_isListed_114 (pc' := 116) rfl rfl ?_
  refine eN_iload (M := ML_isListed) dL_isListed_116 (pc' := 118) rfl rfl ?_
  refine (ev_cV3 (M := ML_isListed) (kk := 8) dL_isListed_118 c_9_32 mX6_chunkAt rfl rfl (by decide) rfl (pc' := 121) rfl).mpr ⟨(by assumption), (Nat.le_of_ble_eq_true rfl), eN_c c2 (by first | rfl | (simp (disch := omega) only [nI_add, i_sub]) | (simp only [*])) ?_⟩
  refine (ev_icmp_ne (M := ML_isListed) (t := 130) dL_isListed_121 (by decide) (pc' := 124) rfl).mpr (ifF (by first | assumption | omega | rfl | exact fun q => q (by assumption) | exact fun q => q rfl | (simp (disch := omega) only [nle_t, nle_f, nlt_t, nlt_f, neq_t, neq_f, i_lt0, i_le0, i_0le, i_0lt, i_eq0, i_lt, i_le, i_eq, nI_add, i_sub, i_cl, i_m1a, i_m1b, i_m1c, i_m1d, i_m1e, i_am1, i_ite0, m1_le, m1_m1, m1_ge0, not_true_eq_false, not_false_eq_true, or_self, or_false, false_or, or_true, true_or, and_self, and_true, true_and])) ?_)
  refine eN_iinc (M := ML_isListed) (v := 1) rfl dL_isListed_124 (by decide) (pc' := 127) rfl rfl ?_
  refine (ev_goto (M := ML_isListed) (pc' := 90) dL_isListed_127 (by decide)).mpr ?_
  exact ev_more (by repeat (first | exact trivial | refine ⟨rfl, ?_⟩)) (by exact rfl) (by exact rfl) hq
theorem Z_li2 (k8 : tK T X = 8) (hn : n ≤ 30) (hm : m ≤ 30) (h : p = n ∨ p = m) (hp : p ≤ 30) (hq : Ev (d + 6) ML_isListed [] 133 [(9, .int (nI 0)), (8, .int (nI p)), (7, .int (nI m)), (6, .int (nI c)), (5, .int (nI n)), (4, .int (nI b)), (0, .ref X), (1, .ref G), (2, .int (nI f)), (3, .int (nI v))] [] T Q) : Ev (d + 6) ML_isListed [] 90 [(8, .int (nI p)), (7, .int (nI m)), (6, .int (nI c)), (5, .int (nI n)), (4, .int (nI b)), (0, .ref X), (1, .ref G), (2, .int (nI f)), (3, .int (nI v))] [] T Q := by
  by_cases h1 : p < n
  · have h2 : p = m := by omega
    refine eN_iload (M := ML_isListed) dL_isListed_90 (pc' := 92) rfl rfl ?_
    refine eN_iload (M := ML_isListed) dL_isListed_92 (pc' := 94) rfl rfl ?_
    refine (ev_icmp_ge (M := ML_isListed) (t := 130) dL_isListed_94 (by decide) (pc' := 97) rfl).mpr (ifF (by first | assumption | omega | rfl | exact fun q => q (by assumption) | exact fun q => q rfl | (simp (disch := omega) only [nle_t, nle_f, nlt_t, nlt_f, neq_t, neq_f, i_lt0, i_le0, i_0le, i_0lt, i_eq0, i_lt, i_le, i_eq, nI_add, i_sub, i_cl, i_m1a, i_m1b, i_m1c, i_m1d, i_m1e, i_am1, i_ite0, m1_le, m1_m1, m1_ge0, not_true_eq_false, not_false_eq_true, or_self, or_false, false_or, or_true, true_or, and_self, and_true, true_and])) ?_)
    refine eN_iload (M := ML_isListed) dL_isListed_97 (pc' := 99) rfl rfl ?_
    refine eN_iload (M := ML_isListed) dL_isListed_99 (pc' := 101) rfl rfl ?_
    refine (ev_icmp_ge (M := ML_isListed) (t := 130) dL_isListed_101 (by decide) (pc' := 104) rfl).mpr (ifT (by first | assumption | omega | rfl | exact fun q => q (by assumption) | exact fun q => q rfl | (simp (disch := omega) only [nle_t, nle_f, nlt_t, nlt_f, neq_t, neq_f, i_lt0, i_le0, i_0le, i_0lt, i_eq0, i_lt, i_le, i_eq, nI_add, i_sub, i_cl, i_m1a, i_m1b, i_m1c, i_m1d, i_m1e, i_am1, i_ite0, m1_le, m1_m1, m1_ge0, not_true_eq_false, not_false_eq_true, or_self, or_false, false_or, or_true, true_or, and_self, and_true, true_and])) ?_)
    refine (ev_iconst (M := ML_isListed) (v := (nI 0)) rfl dL_isListed_130 (pc' := 131) rfl).mpr ?_
    refine (ev_istore (M := ML_isListed) dL_isListed_131 (by decide) (pc' := 133) rfl).mpr ?_
    exact ev_more (by repeat (first | exact trivial | refine ⟨rfl, ?_⟩)) (by exact rfl) (by exact rfl) hq
  · skip
    refine eN_iload (M := ML_isListed) dL_isListed_90 (pc' := 92) rfl rfl ?_
    refine eN_iload (M := ML_isListed) dL_isListed_92 (pc' := 94) rfl rfl ?_
    refine (ev_icmp_ge (M := ML_isListed) (t := 130) dL_isListed_94 (by decide) (pc' := 97) rfl).mpr (ifT (by first | assumption | omega | rfl | exact fun q => q (by assumption) | exact fun q => q rfl | (simp (disch := omega) only [nle_t, nle_f, nlt_t, nlt_f, neq_t, neq_f, i_lt0, i_le0, i_0le, i_0lt, i_eq0, i_lt, i_le, i_eq, nI_add, i_sub, i_cl, i_m1a, i_m1b, i_m1c, i_m1d, i_m1e, i_am1, i_ite0, m1_le, m1_m1, m1_ge0, not_true_eq_false, not_false_eq_true, or_self, or_false, false_or, or_true, true_or, and_self, and_true, true_and])) ?_)
    refine (ev_iconst (M := ML_isListed) (v := (nI 0)) rfl dL_isListed_130 (pc' := 131) rfl).mpr ?_
    refine (ev_istore (M := ML_isListed) dL_isListed_131 (by decide) (pc' := 133) rfl).mpr ?_
    exact ev_more (by repeat (first | exact trivial | refine ⟨rfl, ?_⟩)) (by exact rfl) (by exact rfl) hq
theorem Z_li3 (k8 : tK T X = 8) (hp : p < n) (hp2 : p < m) (hn : n ≤ 30) (hm : m ≤ 30) (he : e < 1000000) (he' : e' < 1000000) (hne : ¬ e = e') (c1 : Call (d + 6) 98 [.ref X, .int (nI f), .int (nI v), .int (nI p)] T (.inl (some (.int (nI e)))) T) (c2 : Call (d + 6) 98 [.ref X, .int (nI f), .int (nI b), .int (nI p)] T (.inl (some (.int (nI e')))) T) (hq : Ev (d + 6) ML_isListed [] 133 [(9, .int (nI 0)), (8, .int (nI p)), (7, .int (nI m)), (6, .int (nI c)), (5, .int (nI n)), (4, .int (nI b)), (0, .ref X), (1, .ref G), (2, .int (nI f)), (3, .int (nI v))] [] T Q) : Ev (d + 6) ML_isListed [] 90 [(8, .int (nI p)), (7, .int (nI m)), (6, .int (nI c)), (5, .int (nI n)), (4, .int (nI b)), (0, .ref X), (1, .ref G), (2, .int (nI f)), (3, .int (nI v))] [] T Q := by
  refine eN_iload (M := ML_isListed) dL_isListed_90 (pc' := 92) rfl rfl ?_
  refine eN_iload (M := ML_isListed) dL_isListed_92 (pc' := 94) rfl rfl ?_
  refine (ev_icmp_ge (M := ML_isListed) (t := 130) dL_isListed_94 (by decide) (pc' := 97) rfl).mpr (ifF (by first | assumption | omega | rfl | exact fun q => q (by assumption) | exact fun q => q rfl | (simp (disch := omega) only [nle_t, nle_f, nlt_t, nlt_f, neq_t, neq_f, i_lt0, i_le0, i_0le, i_0lt, i_eq0, i_lt, i_le, i_eq, nI_add, i_sub, i_cl, i_m1a, i_m1b, i_m1c, i_m1d, i_m1e, i_am1, i_ite0, m1_le, m1_m1, m1_ge0, not_true_eq_false, not_false_eq_true, or_self, or_false, false_or, or_true, true_or, and_self, and_true, true_and])) ?_)
  refine eN_iload (M := ML_isListed) dL_isListed_97 (pc' := 99) rfl rfl ?_
  refine eN_iload (M := ML_isListed) dL_isListed_99 (pc' := 101) rfl rfl ?_
  refine (ev_icmp_ge (M := ML_isListed) (t := 130) dL_isListed_101 (by decide) (pc' := 104) rfl).mpr (ifF (by first | assumption | omega | rfl | exact fun q => q (by assumption) | exact fun q => q rfl | (simp (disch := omega) only [nle_t, nle_f, nlt_t, nlt_f, neq_t, neq_f, i_lt0, i_le0, i_0le, i_0lt, i_eq0, i_lt, i_le, i_eq, nI_add, i_sub, i_cl, i_m1a, i_m1b, i_m1c, i_m1d, i_m1e, i_am1, i_ite0, m1_le, m1_m1, m1_ge0, not_true_eq_false, not_false_eq_true, or_self, or_false, false_or, or_true, true_or, and_self, and_true, true_and])) ?_)
  refine eN_aload_n (M := ML_isListed) (k := 0) rfl dL_isListed_104 (pc' := 105) rfl rfl ?_
  refine eN_iload_n (M := ML_isListed) (k := 2) rfl dL_isListed_105 (pc' := 106) rfl rfl ?_
  refine eN_iload_n (M := ML_isListed) (k := 3) rfl dL_isListed_106 (pc' := 107) rfl rfl ?_
  refine eN_iload (M := ML_isListed) dL_isListed_107 (pc' := 109) rfl rfl ?_
  refine (ev_cV3 (M := ML_isListed) (kk := 8) dL_isListed_109 c_9_32 mX6_chunkAt rfl rfl (by decide) rfl (pc' := 112) rfl).mpr ⟨(by assumption), (Nat.le_of_ble_eq_true rfl), eN_c c1 (by first | rfl | (simp (disch := omega) only [nI_add, i_sub]) | (simp only [*])) ?_⟩
  refine eN_aload_n (M := ML_isListed) (k := 0) rfl dL_isListed_112 (pc' := 113) rfl rfl ?_
  refine eN_iload_n (M := ML_isListed) (k := 2) rfl dL_isListed_113 (pc' := 114) rfl rfl ?_
  refine eN_iload (M := ML_isListed) dL_isListed_114 (pc' := 116) rfl rfl ?_
  refine eN_iload (M := ML_isListed) dL_isListed_116 (pc' := 118) rfl rfl ?_
  refine (ev_cV3 (M := ML_isListed) (kk := 8) dL_isListed_118 c_9_32 mX6_chunkAt rfl rfl (by decide) rfl (pc' := 121) rfl).mpr ⟨(by assumption), (Nat.le_of_ble_eq_true rfl), eN_c c2 (by first | rfl | (simp (disch := omega) only [nI_add, i_sub]) | (simp only [*])) ?_⟩
  refine (ev_icmp_ne (M := ML_isListed) (t := 130) dL_isListed_121 (by decide) (pc' := 124) rfl).mpr (ifT (by first | assumption | omega | rfl | exact fun q => q (by assumption) | exact fun q => q rfl | (simp (disch := omega) only [nle_t, nle_f, nlt_t, nlt_f, neq_t, neq_f, i_lt0, i_le0, i_0le, i_0lt, i_eq0, i_lt, i_le, i_eq, nI_add, i_sub, i_cl, i_m1a, i_m1b, i_m1c, i_m1d, i_m1e, i_am1, i_ite0, m1_le, m1_m1, m1_ge0, not_true_eq_false, not_false_eq_true, or_self, or_false, false_or, or_true, true_or, and_self, and_true, true_and])) ?_)
  refine (ev_iconst (M := ML_isListed) (v := (nI 0)) rfl dL_isListed_130 (pc' := 131) rfl).mpr ?_
  refine (ev_istore (M := ML_isListed) dL_isListed_131 (by decide) (pc' := 133) rfl).mpr ?_
  exact ev_more (by repeat (first | exact trivial | refine ⟨rfl, ?_⟩)) (by exact rfl) (by exact rfl) hq
theorem Z_li4 (k8 : tK T X = 8) (hp : p ≤ n) (hp2 : p ≤ m) (hs : s < n - p) (hs2 : s < m - p) (hn : n ≤ 30) (hm : m ≤ 30) (he : e < 1000000) (c1 : Call (d + 6) 98 [.ref X, .int (nI f), .int (nI v), .int (nI (n - 1 - s))] T (.inl (some (.int (nI e)))) T) (c2 : Call (d + 6) 98 [.ref X, .int (nI f), .int (nI b), .int (nI (m - 1 - s))] T (.inl (some (.int (nI e)))) T) (hq : Ev (d + 6) ML_isListed [] 133 [(9, .int (nI (s + 1))), (8, .int (nI p)), (7, .int (nI m)), (6, .int (nI c)), (5, .int (nI n)), (4, .int (nI b)), (0, .ref X), (1, .ref G), (2, .int (nI f)), (3, .int (nI v))] [] T Q) : Ev (d + 6) ML_isListed [] 133 [(9, .int (nI s)), (8, .int (nI p)), (7, .int (nI m)), (6, .int (nI c)), (5, .int (nI n)), (4, .int (nI b)), (0, .ref X), (1, .ref G), (2, .int (nI f)), (3, .int (nI v))] [] T Q := by
  refine eN_iload (M := ML_isListed) dL_isListed_133 (pc' := 135) rfl rfl ?_
  refine eN_iload (M := ML_isListed) dL_isListed_135 (pc' := 137) rfl rfl ?_
  refine eN_iload (M := ML_isListed) dL_isListed_137 (pc' := 139) rfl rfl ?_
  refine eN_isub (M := ML_isListed) dL_isListed_139 (pc' := 140) rfl (by omega) ?_
  refine (ev_icmp_ge (M := ML_isListed) (t := 189) dL_isListed_140 (by decide) (pc' := 143) rfl).mpr (ifF (by first | assumption | omega | rfl | exact fun q => q (by assumption) | exact fun q => q rfl | (simp (disch := omega) only [nle_t, nle_f, nlt_t, nlt_f, neq_t, neq_f, i_lt0, i_le0, i_0le, i_0lt, i_eq0, i_lt, i_le, i_eq, nI_add, i_sub, i_cl, i_m1a, i_m1b, i_m1c, i_m1d, i_m1e, i_am1, i_ite0, m1_le, m1_m1, m1_ge0, not_true_eq_false, not_false_eq_true, or_self, or_false, false_or, or_true, true_or, and_self, and_true, true_and])) ?_)
  refine eN_iload (M := ML_isListed) dL_isListed_143 (pc' := 145) rfl rfl ?_
  refine eN_iload (M := ML_isListed) dL_isListed_145 (pc' := 147) rfl rfl ?_
  refine eN_iload (M := ML_isListed) dL_isListed_147 (pc' := 149) rfl rfl ?_
  refine eN_isub (M := ML_isListed) dL_isListed_149 (pc' := 150) rfl (by omega) ?_
  refine (ev_icmp_ge (M := ML_isListed) (t := 189) dL_isListed_150 (by decide) (pc' := 153) rfl).mpr (ifF (by first | assumption | omega | rfl | exact fun q => q (by assumption) | exact fun q => q rfl | (simp (disch := omega) only [nle_t, nle_f, nlt_t, nlt_f, neq_t, neq_f, i_lt0, i_le0, i_0le, i_0lt, i_eq0, i_lt, i_le, i_eq, nI_add, i_sub, i_cl, i_m1a, i_m1b, i_m1c, i_m1d, i_m1e, i_am1, i_ite0, m1_le, m1_m1, m1_ge0, not_true_eq_false, not_false_eq_true, or_self, or_false, false_or, or_true, true_or, and_self, and_true, true_and])) ?_)
  refine eN_aload_n (M := ML_isListed) (k := 0) rfl dL_isListed_153 (pc' := 154) rfl rfl ?_
  refine eN_iload_n (M := ML_isListed) (k := 2) rfl dL_isListed_154 (pc' := 155) rfl rfl ?_
  refine eN_iload_n (M := ML_isListed) (k := 3) rfl dL_isListed_155 (pc' := 156) rfl rfl ?_
  refine eN_iload (M := ML_isListed) dL_isListed_156 (pc' := 158) rfl rfl ?_
  refine (ev_iconst (M := ML_isListed) (v := (nI 1)) rfl dL_isListed_158 (pc' := 159) rfl).mpr ?_
  refine eN_isub (M := ML_isListed) dL_isListed_159 (pc' := 160) rfl (by omega) ?_
  refine eN_iload (M := ML_isListed) dL_isListed_160 (pc' := 162) rfl rfl ?_
  refine eN_isub (M := ML_isListed) dL_isListed_162 (pc' := 163) rfl (by omega) ?_
  refine (ev_cV3 (M := ML_isListed) (kk := 8) dL_isListed_163 c_9_32 mX6_chunkAt rfl rfl (by decide) rfl (pc' := 166) rfl).mpr ⟨(by assumption), (Nat.le_of_ble_eq_true rfl), eN_c c1 (by first | rfl | (simp (disch := omega) only [nI_add, i_sub]) | (simp only [*])) ?_⟩
  refine eN_aload_n (M := ML_isListed) (k := 0) rfl dL_isListed_166 (pc' := 167) rfl rfl ?_
  refine eN_iload_n (M := ML_isListed) (k := 2) rfl dL_isListed_167 (pc' := 168) rfl rfl ?_
  refine eN_iload (M := ML_isListed) dL_isListed_168 (pc' := 170) rfl rfl ?_
  refine eN_iload (M := ML_isListed) dL_isListed_170 (pc' := 172) rfl rfl ?_
  refine (ev_iconst (M := ML_isListed) (v := (nI 1)) rfl dL_isListed_172 (pc' := 173) rfl).mpr ?_
  refine eN_isub (M := ML_isListed) dL_isListed_173 (pc' := 174) rfl (by omega) ?_
  refine eN_iload (M := ML_isListed) dL_isListed_174 (pc' := 176) rfl rfl ?_
  refine eN_isub (M := ML_isListed) dL_isListed_176 (pc' := 177) rfl (by omega) ?_
  refine (ev_cV3 (M := ML_isListed) (kk := 8) dL_isListed_177 c_9_32 mX6_chunkAt rfl rfl (by decide) rfl (pc' := 180) rfl).mpr ⟨(by assumption), (Nat.le_of_ble_eq_true rfl), eN_c c2 (by first | rfl | (simp (disch := omega) only [nI_add, i_sub]) | (simp only [*])) ?_⟩
  refine (ev_icmp_ne (M := ML_isListed) (t := 189) dL_isListed_180 (by decide) (pc' := 183) rfl).mpr (ifF (by first | assumption | omega | rfl | exact fun q => q (by assumption) | exact fun q => q rfl | (simp (disch := omega) only [nle_t, nle_f, nlt_t, nlt_f, neq_t, neq_f, i_lt0, i_le0, i_0le, i_0lt, i_eq0, i_lt, i_le, i_eq, nI_add, i_sub, i_cl, i_m1a, i_m1b, i_m1c, i_m1d, i_m1e, i_am1, i_ite0, m1_le, m1_m1, m1_ge0, not_true_eq_false, not_false_eq_true, or_self, or_false, false_or, or_true, true_or, and_self, and_true, true_and])) ?_)
  refine eN_iinc (M := ML_isListed) (v := 1) rfl dL_isListed_183 (by decide) (pc' := 186) rfl rfl ?_
  refine (ev_goto (M := ML_isListed) (pc' := 133) dL_isListed_186 (by decide)).mpr ?_
  exact ev_more (by repeat (first | exact trivial | refine ⟨rfl, ?_⟩)) (by exact rfl) (by exact rfl) hq
theorem Z_li5 (k8 : tK T X = 8) (hp : p ≤ n) (hp2 : p ≤ m) (hn : n ≤ 30) (hm : m ≤ 30) (h : s = n - p ∨ s = m - p) (hs : s ≤ 30) (hq : Ev (d + 6) ML_isListed [] 189 [(9, .int (nI s)), (8, .int (nI p)), (7, .int (nI m)), (6, .int (nI c)), (5, .int (nI n)), (4, .int (nI b)), (0, .ref X), (1, .ref G), (2, .int (nI f)), (3, .int (nI v))] [] T Q) : Ev (d + 6) ML_isListed [] 133 [(9, .int (nI s)), (8, .int (nI p)), (7, .int (nI m)), (6, .int (nI c)), (5, .int (nI n)), (4, .int (nI b)), (0, .ref X), (1, .ref G), (2, .int (nI f)), (3, .int (nI v))] [] T Q := by
  by_cases h1 : s < n - p
  · have h2 : ¬ s < m - p := by omega
    refine eN_iload (M := ML_isListed) dL_isListed_133 (pc' := 135) rfl rfl ?_
    refine eN_iload (M := ML_isListed) dL_isListed_135 (pc' := 137) rfl rfl ?_
    refine eN_iload (M := ML_isListed) dL_isListed_137 (pc' := 139) rfl rfl ?_
    refine eN_isub (M := ML_isListed) dL_isListed_139 (pc' := 140) rfl (by omega) ?_
    refine (ev_icmp_ge (M := ML_isListed) (t := 189) dL_isListed_140 (by decide) (pc' := 143) rfl).mpr (ifF (by first | assumption | omega | rfl | exact fun q => q (by assumption) | exact fun q => q rfl | (simp (disch := omega) only [nle_t, nle_f, nlt_t, nlt_f, neq_t, neq_f, i_lt0, i_le0, i_0le, i_0lt, i_eq0, i_lt, i_le, i_eq, nI_add, i_sub, i_cl, i_m1a, i_m1b, i_m1c, i_m1d, i_m1e, i_am1, i_ite0, m1_le, m1_m1, m1_ge0, not_true_eq_false, not_false_eq_true, or_self, or_false, false_or, or_true, true_or, and_self, and_true, true_and])) ?_)
    refine eN_iload (M := ML_isListed) dL_isListed_143 (pc' := 145) rfl rfl ?_
    refine eN_iload (M := ML_isListed) dL_isListed_145 (pc' := 147) rfl rfl ?_
    refine eN_iload (M := ML_isListed) dL_isListed_147 (pc' := 149) rfl rfl ?_
    refine eN_isub (M := ML_isListed) dL_isListed_149 (pc' := 150) rfl (by omega) ?_
    refine (ev_icmp_ge (M := ML_isListed) (t := 189) dL_isListed_150 (by decide) (pc' := 153) rfl).mpr (ifT (by first | assumption | omega | rfl | exact fun q => q (by assumption) | exact fun q => q rfl | (simp (disch := omega) only [nle_t, nle_f, nlt_t, nlt_f, neq_t, neq_f, i_lt0, i_le0, i_0le, i_0lt, i_eq0, i_lt, i_le, i_eq, nI_add, i_sub, i_cl, i_m1a, i_m1b, i_m1c, i_m1d, i_m1e, i_am1, i_ite0, m1_le, m1_m1, m1_ge0, not_true_eq_false, not_false_eq_true, or_self, or_false, false_or, or_true, true_or, and_self, and_true, true_and])) ?_)
    exact ev_more (by repeat (first | exact trivial | refine ⟨rfl, ?_⟩)) (by exact rfl) (by exact rfl) hq
  · skip
    refine eN_iload (M := ML_isListed) dL_isListed_133 (pc' := 135) rfl rfl ?_
    refine eN_iload (M := ML_isListed) dL_isListed_135 (pc' := 137) rfl rfl ?_
    refine eN_iload (M := ML_isListed) dL_isListed_137 (pc' := 139) rfl rfl ?_
    refine eN_isub (M := ML_isListed) dL_isListed_139 (pc' := 140) rfl (by omega) ?_
    refine (ev_icmp_ge (M := ML_isListed) (t := 189) dL_isListed_140 (by decide) (pc' := 143) rfl).mpr (ifT (by first | assumption | omega | rfl | exact fun q => q (by assumption) | exact fun q => q rfl | (simp (disch := omega) only [nle_t, nle_f, nlt_t, nlt_f, neq_t, neq_f, i_lt0, i_le0, i_0le, i_0lt, i_eq0, i_lt, i_le, i_eq, nI_add, i_sub, i_cl, i_m1a, i_m1b, i_m1c, i_m1d, i_m1e, i_am1, i_ite0, m1_le, m1_m1, m1_ge0, not_true_eq_false, not_false_eq_true, or_self, or_false, false_or, or_true, true_or, and_self, and_true, true_and])) ?_)
    exact ev_more (by repeat (first | exact trivial | refine ⟨rfl, ?_⟩)) (by exact rfl) (by exact rfl) hq
theorem Z_li6 (k8 : tK T X = 8) (hp : p ≤ n) (hp2 : p ≤ m) (hs : s < n - p) (hs2 : s < m - p) (hn : n ≤ 30) (hm : m ≤ 30) (he : e < 1000000) (he' : e' < 1000000) (hne : ¬ e = e') (c1 : Call (d + 6) 98 [.ref X, .int (nI f), .int (nI v), .int (nI (n - 1 - s))] T (.inl (some (.int (nI e)))) T) (c2 : Call (d + 6) 98 [.ref X, .int (nI f), .int (nI b), .int (nI (m - 1 - s))] T (.inl (some (.int (nI e')))) T) (hq : Ev (d + 6) ML_isListed [] 189 [(9, .int (nI s)), (8, .int (nI p)), (7, .int (nI m)), (6, .int (nI c)), (5, .int (nI n)), (4, .int (nI b)), (0, .ref X), (1, .ref G), (2, .int (nI f)), (3, .int (nI v))] [] T Q) : Ev (d + 6) ML_isListed [] 133 [(9, .int (nI s)), (8, .int (nI p)), (7, .int (nI m)), (6, .int (nI c)), (5, .int (nI n)), (4, .int (nI b)), (0, .ref X), (1, .ref G), (2, .int (nI f)), (3, .int (nI v))] [] T Q := by
  refine eN_iload (M := ML_isListed) dL_isListed_133 (pc' := 135) rfl rfl ?_
  refine eN_iload (M := ML_isListed) dL_isListed_135 (pc' := 137) rfl rfl ?_
  refine eN_iload (M := ML_isListed) dL_isListed_137 (pc' := 139) rfl rfl ?_
  refine eN_isub (M := ML_isListed) dL_isListed_139 (pc' := 140) rfl (by omega) ?_
  refine (ev_icmp_ge (M := ML_isListed) (t := 189) dL_isListed_140 (by decide) (pc' := 143) rfl).mpr (ifF (by first | assumption | omega | rfl | exact fun q => q (by assumption) | exact fun q => q rfl | (simp (disch := omega) only [nle_t, nle_f, nlt_t, nlt_f, neq_t, neq_f, i_lt0, i_le0, i_0le, i_0lt, i_eq0, i_lt, i_le, i_eq, nI_add, i_sub, i_cl, i_m1a, i_m1b, i_m1c, i_m1d, i_m1e, i_am1, i_ite0, m1_le, m1_m1, m1_ge0, not_true_eq_false, not_false_eq_true, or_self, or_false, false_or, or_true, true_or, and_self, and_true, true_and])) ?_)
  refine eN_iload (M := ML_isListed) dL_isListed_143 (pc' := 145) rfl rfl ?_
  refine eN_iload (M := ML_isListed) dL_isListed_145 (pc' := 147) rfl rfl ?_
  refine eN_iload (M := ML_isListed) dL_isListed_147 (pc' := 149) rfl rfl ?_
  refine eN_isub (M := ML_isListed) dL_isListed_149 (pc' := 150) rfl (by omega) ?_
  refine (ev_icmp_ge (M := ML_isListed) (t := 189) dL_isListed_150 (by decide) (pc' := 153) rfl).mpr (ifF (by first | assumption | omega | rfl | exact fun q => q (by assumption) | exact fun q => q rfl | (simp (disch := omega) only [nle_t, nle_f, nlt_t, nlt_f, neq_t, neq_f, i_lt0, i_le0, i_0le, i_0lt, i_eq0, i_lt, i_le, i_eq, nI_add, i_sub, i_cl, i_m1a, i_m1b, i_m1c, i_m1d, i_m1e, i_am1, i_ite0, m1_le, m1_m1, m1_ge0, not_true_eq_false, not_false_eq_true, or_self, or_false, false_or, or_true, true_or, and_self, and_true, true_and])) ?_)
  refine eN_aload_n (M := ML_isListed) (k := 0) rfl dL_isListed_153 (pc' := 154) rfl rfl ?_
  refine eN_iload_n (M := ML_isListed) (k := 2) rfl dL_isListed_154 (pc' := 155) rfl rfl ?_
  refine eN_iload_n (M := ML_isListed) (k := 3) rfl dL_isListed_155 (pc' := 156) rfl rfl ?_
  refine eN_iload (M := ML_isListed) dL_isListed_156 (pc' := 158) rfl rfl ?_
  refine (ev_iconst (M := ML_isListed) (v := (nI 1)) rfl dL_isListed_158 (pc' := 159) rfl).mpr ?_
  refine eN_isub (M := ML_isListed) dL_isListed_159 (pc' := 160) rfl (by omega) ?_
  refine eN_iload (M := ML_isListed) dL_isListed_160 (pc' := 162) rfl rfl ?_
  refine eN_isub (M := ML_isListed) dL_isListed_162 (pc' := 163) rfl (by omega) ?_
  refine (ev_cV3 (M := ML_isListed) (kk := 8) dL_isListed_163 c_9_32 mX6_chunkAt rfl rfl (by decide) rfl (pc' := 166) rfl).mpr ⟨(by assumption), (Nat.le_of_ble_eq_true rfl), eN_c c1 (by first | rfl | (simp (disch := omega) only [nI_add, i_sub]) | (simp only [*])) ?_⟩
  refine eN_aload_n (M := ML_isListed) (k := 0) rfl dL_isListed_166 (pc' := 167) rfl rfl ?_
  refine eN_iload_n (M := ML_isListed) (k := 2) rfl dL_isListed_167 (pc' := 168) rfl rfl ?_
  refine eN_iload (M := ML_isListed) dL_isListed_168 (pc' := 170) rfl rfl ?_
  refine eN_iload (M := ML_isListed) dL_isListed_170 (pc' := 172) rfl rfl ?_
  refine (ev_iconst (M := ML_isListed) (v := (nI 1)) rfl dL_isListed_172 (pc' := 173) rfl).mpr ?_
  refine eN_isub (M := ML_isListed) dL_isListed_173 (pc' := 174) rfl (by omega) ?_
  refine eN_iload (M := ML_isListed) dL_isListed_174 (pc' := 176) rfl rfl ?_
  refine eN_isub (M := ML_isListed) dL_isListed_176 (pc' := 177) rfl (by omega) ?_
  refine (ev_cV3 (M := ML_isListed) (kk := 8) dL_isListed_177 c_9_32 mX6_chunkAt rfl rfl (by decide) rfl (pc' := 180) rfl).mpr ⟨(by assumption), (Nat.le_of_ble_eq_true rfl), eN_c c2 (by first | rfl | (simp (disch := omega) only [nI_add, i_sub]) | (simp only [*])) ?_⟩
  refine (ev_icmp_ne (M := ML_isListed) (t := 189) dL_isListed_180 (by decide) (pc' := 183) rfl).mpr (ifT (by first | assumption | omega | rfl | exact fun q => q (by assumption) | exact fun q => q rfl | (simp (disch := omega) only [nle_t, nle_f, nlt_t, nlt_f, neq_t, neq_f, i_lt0, i_le0, i_0le, i_0lt, i_eq0, i_lt, i_le, i_eq, nI_add, i_sub, i_cl, i_m1a, i_m1b, i_m1c, i_m1d, i_m1e, i_am1, i_ite0, m1_le, m1_m1, m1_ge0, not_true_eq_false, not_false_eq_true, or_self, or_false, false_or, or_true, true_or, and_self, and_true, true_and])) ?_)
  exact ev_more (by repeat (first | exact trivial | refine ⟨rfl, ?_⟩)) (by exact rfl) (by exact rfl) hq
theorem Z_li7 {c' : Nat} (k8 : tK T X = 8) (hc3 : c ≤ 3) (hc : c = c' + 1) (hp : p + s ≤ n) (hn : n ≤ 30) (hm : m ≤ 30) (hd : n - p - s + 2 < n) (c1 : Call (d + 6) 100 [.ref X, .int (nI f), .int (nI b)] T (.inl (some (.int (nI c')))) T) (c2 : Call (d + 6) 101 [.ref X, .int (nI f), .int (nI v)] T (.inl (some (.int (nI (n - p - s + 2))))) T) (hQ : Q (.inl (some (.int (nI 1)))) T) : Ev (d + 6) ML_isListed [] 189 [(9, .int (nI s)), (8, .int (nI p)), (7, .int (nI m)), (6, .int (nI c)), (5, .int (nI n)), (4, .int (nI b)), (0, .ref X), (1, .ref G), (2, .int (nI f)), (3, .int (nI v))] [] T Q := by
  refine eN_iload (M := ML_isListed) dL_isListed_189 (pc' := 191) rfl rfl ?_
  refine (ev_if_lt (M := ML_isListed) (t := 252) dL_isListed_191 (by decide) (pc' := 194) rfl).mpr (ifF (by first | assumption | omega | rfl | exact fun q => q (by assumption) | exact fun q => q rfl | (simp (disch := omega) only [nle_t, nle_f, nlt_t, nlt_f, neq_t, neq_f, i_lt0, i_le0, i_0le, i_0lt, i_eq0, i_lt, i_le, i_eq, nI_add, i_sub, i_cl, i_m1a, i_m1b, i_m1c, i_m1d, i_m1e, i_am1, i_ite0, m1_le, m1_m1, m1_ge0, not_true_eq_false, not_false_eq_true, or_self, or_false, false_or, or_true, true_or, and_self, and_true, true_and])) ?_)
  refine eN_iload (M := ML_isListed) dL_isListed_194 (pc' := 196) rfl rfl ?_
  refine (ev_iconst (M := ML_isListed) (v := (nI 3)) rfl dL_isListed_196 (pc' := 197) rfl).mpr ?_
  refine (ev_icmp_gt (M := ML_isListed) (t := 252) dL_isListed_197 (by decide) (pc' := 200) rfl).mpr (ifF (by first | assumption | omega | rfl | exact fun q => q (by assumption) | exact fun q => q rfl | (simp (disch := omega) only [nle_t, nle_f, nlt_t, nlt_f, neq_t, neq_f, i_lt0, i_le0, i_0le, i_0lt, i_eq0, i_lt, i_le, i_eq, nI_add, i_sub, i_cl, i_m1a, i_m1b, i_m1c, i_m1d, i_m1e, i_am1, i_ite0, m1_le, m1_m1, m1_ge0, not_true_eq_false, not_false_eq_true, or_self, or_false, false_or, or_true, true_or, and_self, and_true, true_and])) ?_)
  refine eN_iload (M := ML_isListed) dL_isListed_200 (pc' := 202) rfl rfl ?_
  refine eN_aload_n (M := ML_isListed) (k := 0) rfl dL_isListed_202 (pc' := 203) rfl rfl ?_
  refine eN_iload_n (M := ML_isListed) (k := 2) rfl dL_isListed_203 (pc' := 204) rfl rfl ?_
  refine eN_iload (M := ML_isListed) dL_isListed_204 (pc' := 206) rfl rfl ?_
  refine (ev_cV2 (M := ML_isListed) (kk := 8) dL_isListed_206 c_9_42 mX6_chainOf rfl rfl (by decide) rfl (pc' := 209) rfl).mpr ⟨(by assumption), (Nat.le_of_ble_eq_true rfl), eN_c c1 (by first | rfl | (simp (disch := omega) only [nI_add, i_sub]) | (simp only [*])) ?_⟩
  refine (ev_iconst (M := ML_isListed) (v := (nI 1)) rfl dL_isListed_209 (pc' := 210) rfl).mpr ?_
  refine eN_iadd (M := ML_isListed) dL_isListed_210 (pc' := 211) rfl ?_
  refine (ev_icmp_ne (M := ML_isListed) (t := 252) dL_isListed_211 (by decide) (pc' := 214) rfl).mpr (ifF (by first | assumption | omega | rfl | exact fun q => q (by assumption) | exact fun q => q rfl | (simp (disch := omega) only [nle_t, nle_f, nlt_t, nlt_f, neq_t, neq_f, i_lt0, i_le0, i_0le, i_0lt, i_eq0, i_lt, i_le, i_eq, nI_add, i_sub, i_cl, i_m1a, i_m1b, i_m1c, i_m1d, i_m1e, i_am1, i_ite0, m1_le, m1_m1, m1_ge0, not_true_eq_false, not_false_eq_true, or_self, or_false, false_or, or_true, true_or, and_self, and_true, true_and])) ?_)
  refine eN_aload_n (M := ML_isListed) (k := 0) rfl dL_isListed_214 (pc' := 215) rfl rfl ?_
  refine eN_iload_n (M := ML_isListed) (k := 2) rfl dL_isListed_215 (pc' := 216) rfl rfl ?_
  refine eN_iload_n (M := ML_isListed) (k := 3) rfl dL_isListed_216 (pc' := 217) rfl rfl ?_
  refine (ev_cV2 (M := ML_isListed) (kk := 8) dL_isListed_217 c_9_45 mX6_costOf rfl rfl (by decide) rfl (pc' := 220) rfl).mpr ⟨(by assumption), (Nat.le_of_ble_eq_true rfl), eN_c c2 (by first | rfl | (simp (disch := omega) only [nI_add, i_sub]) | (simp only [*])) ?_⟩
  refine eN_iload (M := ML_isListed) dL_isListed_220 (pc' := 222) rfl rfl ?_
  refine eN_iload (M := ML_isListed) dL_isListed_222 (pc' := 224) rfl rfl ?_
  refine eN_isub (M := ML_isListed) dL_isListed_224 (pc' := 225) rfl (by omega) ?_
  refine eN_iload (M := ML_isListed) dL_isListed_225 (pc' := 227) rfl rfl ?_
  refine eN_isub (M := ML_isListed) dL_isListed_227 (pc' := 228) rfl (by omega) ?_
  refine (ev_iconst (M := ML_isListed) (v := (nI 2)) rfl dL_isListed_228 (pc' := 229) rfl).mpr ?_
  refine eN_iadd (M := ML_isListed) dL_isListed_229 (pc' := 230) rfl ?_
  refine (ev_icmp_ne (M := ML_isListed) (t := 252) dL_isListed_230 (by decide) (pc' := 233) rfl).mpr (ifF (by first | assumption | omega | rfl | exact fun q => q (by assumption) | exact fun q => q rfl | (simp (disch := omega) only [nle_t, nle_f, nlt_t, nlt_f, neq_t, neq_f, i_lt0, i_le0, i_0le, i_0lt, i_eq0, i_lt, i_le, i_eq, nI_add, i_sub, i_cl, i_m1a, i_m1b, i_m1c, i_m1d, i_m1e, i_am1, i_ite0, m1_le, m1_m1, m1_ge0, not_true_eq_false, not_false_eq_true, or_self, or_false, false_or, or_true, true_or, and_self, and_true, true_and])) ?_)
  refine eN_iload (M := ML_isListed) dL_isListed_233 (pc' := 235) rfl rfl ?_
  refine eN_iload (M := ML_isListed) dL_isListed_235 (pc' := 237) rfl rfl ?_
  refine eN_isub (M := ML_isListed) dL_isListed_237 (pc' := 238) rfl (by omega) ?_
  refine eN_iload (M := ML_isListed) dL_isListed_238 (pc' := 240) rfl rfl ?_
  refine eN_isub (M := ML_isListed) dL_isListed_240 (pc' := 241) rfl (by omega) ?_
  refine (ev_iconst (M := ML_isListed) (v := (nI 2)) rfl dL_isListed_241 (pc' := 242) rfl).mpr ?_
  refine eN_iadd (M := ML_isListed) dL_isListed_242 (pc' := 243) rfl ?_
  refine eN_iload (M := ML_isListed) dL_isListed_243 (pc' := 245) rfl rfl ?_
  refine (ev_icmp_ge (M := ML_isListed) (t := 252) dL_isListed_245 (by decide) (pc' := 248) rfl).mpr (ifF (by first | assumption | omega | rfl | exact fun q => q (by assumption) | exact fun q => q rfl | (simp (disch := omega) only [nle_t, nle_f, nlt_t, nlt_f, neq_t, neq_f, i_lt0, i_le0, i_0le, i_0lt, i_eq0, i_lt, i_le, i_eq, nI_add, i_sub, i_cl, i_m1a, i_m1b, i_m1c, i_m1d, i_m1e, i_am1, i_ite0, m1_le, m1_m1, m1_ge0, not_true_eq_false, not_false_eq_true, or_self, or_false, false_or, or_true, true_or, and_self, and_true, true_and])) ?_)
  refine (ev_iconst (M := ML_isListed) (v := (nI 1)) rfl dL_isListed_248 (pc' := 249) rfl).mpr ?_
  refine (ev_goto (M := ML_isListed) (pc' := 253) dL_isListed_249 (by decide)).mpr ?_
  refine (ev_zretI (M := ML_isListed) rfl dL_isListed_253 (by omega)).mpr ?_
  exact hQ
end Z
theorem C_isListed {k : Nat} (h : LV T X va ba ca dr kl vf vn vb ve vp nx sv cb us bl co op cs hi re st rw bx ud) (hg : gR T G kl vf vn st) (hk : k ∈ kl) : Call (d + 7) 134 [.ref X, .ref G, .int (nI (vf k)), .int (nI (vn k))] T (.inl (some (.int (nI 1)))) T := by
  have k8 := h.k8
  have c1 := h.baseOf (d := d + 2) hk
  have c2 := h.chunksOf (d := d + 2) hk
  have c3 := h.chainOf (d := d + 2) hk
  have c4 := h.costOf (d := d) hk
  obtain ⟨-, hel⟩ := h.lens hk
  refine Call_of ?_
  cases e : vp k with
  | none =>
    have ec : cosO ve vp k = (ve k).length := by unfold cosO; rw [e]
    have eo : numO vn (vp k) = -1 := by rw [e]; rfl
    have eh : chO vp 3 (vp k) = 0 := by rw [e]; rfl
    rw [ec] at c4
    rw [eo] at c1
    rw [eh] at c3
    rw [uL_isListed]
    refine eN_aload_n (M := ML_isListed) (k := 0) rfl dL_isListed_0 (pc' := 1) rfl rfl ?_
    refine eN_iload_n (M := ML_isListed) (k := 2) rfl dL_isListed_1 (pc' := 2) rfl rfl ?_
    refine eN_iload_n (M := ML_isListed) (k := 3) rfl dL_isListed_2 (pc' := 3) rfl rfl ?_
    refine (ev_cV2 (M := ML_isListed) (kk := 8) dL_isListed_3 c_9_39 mX6_baseOf rfl rfl (by decide) rfl (pc' := 6) rfl).mpr ⟨(by assumption), (Nat.le_of_ble_eq_true rfl), eN_c c1 (by first | rfl | (simp (disch := omega) only [nI_add, i_sub]) | (simp only [*])) ?_⟩
    refine (ev_istore (M := ML_isListed) dL_isListed_6 (by decide) (pc' := 8) rfl).mpr ?_
    refine eN_aload_n (M := ML_isListed) (k := 0) rfl dL_isListed_8 (pc' := 9) rfl rfl ?_
    refine eN_iload_n (M := ML_isListed) (k := 2) rfl dL_isListed_9 (pc' := 10) rfl rfl ?_
    refine eN_iload_n (M := ML_isListed) (k := 3) rfl dL_isListed_10 (pc' := 11) rfl rfl ?_
    refine (ev_cV2 (M := ML_isListed) (kk := 8) dL_isListed_11 c_9_29 mX6_chunksOf rfl rfl (by decide) rfl (pc' := 14) rfl).mpr ⟨(by assumption), (Nat.le_of_ble_eq_true rfl), eN_c c2 (by first | rfl | (simp (disch := omega) only [nI_add, i_sub]) | (simp only [*])) ?_⟩
    refine (ev_istore (M := ML_isListed) dL_isListed_14 (by decide) (pc' := 16) rfl).mpr ?_
    refine eN_aload_n (M := ML_isListed) (k := 0) rfl dL_isListed_16 (pc' := 17) rfl rfl ?_
    refine eN_iload_n (M := ML_isListed) (k := 2) rfl dL_isListed_17 (pc' := 18) rfl rfl ?_
    refine eN_iload_n (M := ML_isListed) (k := 3) rfl dL_isListed_18 (pc' := 19) rfl rfl ?_
    refine (ev_cV2 (M := ML_isListed) (kk := 8) dL_isListed_19 c_9_42 mX6_chainOf rfl rfl (by decide) rfl (pc' := 22) rfl).mpr ⟨(by assumption), (Nat.le_of_ble_eq_true rfl), eN_c c3 (by first | rfl | (simp (disch := omega) only [nI_add, i_sub]) | (simp only [*])) ?_⟩
    refine (ev_istore (M := ML_isListed) dL_isListed_22 (by decide) (pc' := 24) rfl).mpr ?_
    refine eN_iload (M := ML_isListed) dL_isListed_24 (pc' := 26) rfl rfl ?_
    refine (ev_iconst (M := ML_isListed) (v := (-1)) rfl dL_isListed_26 (pc' := 27) rfl).mpr ?_
    refine (ev_icmp_ne (M := ML_isListed) (t := 52) dL_isListed_27 (by decide) (pc' := 30) rfl).mpr (ifF (by first | assumption | omega | rfl | exact fun q => q (by assumption) | exact fun q => q rfl | (simp (disch := omega) only [nle_t, nle_f, nlt_t, nlt_f, neq_t, neq_f, i_lt0, i_le0, i_0le, i_0lt, i_eq0, i_lt, i_le, i_eq, nI_add, i_sub, i_cl, i_m1a, i_m1b, i_m1c, i_m1d, i_m1e, i_am1, i_ite0, m1_le, m1_m1, m1_ge0, not_true_eq_false, not_false_eq_true, or_self, or_false, false_or, or_true, true_or, and_self, and_true, true_and])) ?_)
    refine eN_iload (M := ML_isListed) dL_isListed_30 (pc' := 32) rfl rfl ?_
    refine (ev_if_ne (M := ML_isListed) (t := 50) dL_isListed_32 (by decide) (pc' := 35) rfl).mpr (ifF (by first | assumption | omega | rfl | exact fun q => q (by assumption) | exact fun q => q rfl | (simp (disch := omega) only [nle_t, nle_f, nlt_t, nlt_f, neq_t, neq_f, i_lt0, i_le0, i_0le, i_0lt, i_eq0, i_lt, i_le, i_eq, nI_add, i_sub, i_cl, i_m1a, i_m1b, i_m1c, i_m1d, i_m1e, i_am1, i_ite0, m1_le, m1_m1, m1_ge0, not_true_eq_false, not_false_eq_true, or_self, or_false, false_or, or_true, true_or, and_self, and_true, true_and])) ?_)
    refine eN_aload_n (M := ML_isListed) (k := 0) rfl dL_isListed_35 (pc' := 36) rfl rfl ?_
    refine eN_iload_n (M := ML_isListed) (k := 2) rfl dL_isListed_36 (pc' := 37) rfl rfl ?_
    refine eN_iload_n (M := ML_isListed) (k := 3) rfl dL_isListed_37 (pc' := 38) rfl rfl ?_
    refine (ev_cV2 (M := ML_isListed) (kk := 8) dL_isListed_38 c_9_45 mX6_costOf rfl rfl (by decide) rfl (pc' := 41) rfl).mpr ⟨(by assumption), (Nat.le_of_ble_eq_true rfl), eN_c c4 (by first | rfl | (simp (disch := omega) only [nI_add, i_sub]) | (simp only [*])) ?_⟩
    refine eN_iload (M := ML_isListed) dL_isListed_41 (pc' := 43) rfl rfl ?_
    refine (ev_icmp_ne (M := ML_isListed) (t := 50) dL_isListed_43 (by decide) (pc' := 46) rfl).mpr (ifF (by first | assumption | omega | rfl | exact fun q => q (by assumption) | exact fun q => q rfl | (simp (disch := omega) only [nle_t, nle_f, nlt_t, nlt_f, neq_t, neq_f, i_lt0, i_le0, i_0le, i_0lt, i_eq0, i_lt, i_le, i_eq, nI_add, i_sub, i_cl, i_m1a, i_m1b, i_m1c, i_m1d, i_m1e, i_am1, i_ite0, m1_le, m1_m1, m1_ge0, not_true_eq_false, not_false_eq_true, or_self, or_false, false_or, or_true, true_or, and_self, and_true, true_and])) ?_)
    refine (ev_iconst (M := ML_isListed) (v := (nI 1)) rfl dL_isListed_46 (pc' := 47) rfl).mpr ?_
    refine (ev_goto (M := ML_isListed) (pc' := 51) dL_isListed_47 (by decide)).mpr ?_
    refine (ev_zretI (M := ML_isListed) rfl dL_isListed_51 (by omega)).mpr ?_
    exact ⟨rfl, rfl⟩
  | some j =>
    have hj := (h.2.1.2.2.2.2.1 k hk j e)
    obtain ⟨hjk, hfj⟩ := hj
    obtain ⟨hvj, hdf⟩ := h.2.2.2.1.2.2.1 k hk j e
    have ec : cosO ve vp k = dif (ve k) (ve j) := by unfold cosO; rw [e]
    have eo : numO vn (vp k) = nI (vn j) := by rw [e]; rfl
    have hce := h.2.1.2.2.2.2.2.1 k hk
    rw [e] at hce
    have eh : chO vp 3 (vp k) = chO vp 3 (vp j) + 1 := by
      rw [e, chO_e 2 (vp j) hce]
      show 1 + chO vp 2 (vp j) = _
      omega
    have hle := chO_le (vp := vp) 3 (vp k)
    rw [ec] at c4
    rw [eo] at c1
    have bk := h.b64 hk
    have bj := h.b64 hjk
    have d1 := h.chunksOf (d := d + 2) hjk
    have d2 := h.chainOf (d := d + 2) hjk
    have d3 := fun i hi => h.chunkAt (d := d + 2) (j := i) hjk hi
    have d4 := fun i hi => h.chunkAt (d := d + 2) (j := i) hk hi
    rw [hfj] at d1 d2 d3
    obtain ⟨-, hel'⟩ := h.lens hjk
    have hr := h.rwl
    have hE : ∀ i, i < (ve k).length → (ve k).getD i 0 < 1000000 := fun i hi => by have := hr.2 _ (h.ents hk _ (gD_mem hi)); omega
    have hE' : ∀ i, i < (ve j).length → (ve j).getD i 0 < 1000000 := fun i hi => by have := hr.2 _ (h.ents hjk _ (gD_mem hi)); omega
    have hbit : bL (tJ T G (vf k)) (vn j) = true := (hg.2.2.2 _ _ bk.1 bj.2).mpr ⟨j, hjk, hfj, rfl⟩
    have ci := C_isIn (d := d + 5) (T := T) (x := tJ T G (vf k)) (k := vn j) bj.2
    have ebn : bN (tJ T G (vf k)) (vn j) = 1 := by unfold bN; rw [if_pos hbit]
    rw [ebn] at ci
    obtain ⟨g1, g2, -⟩ := hg
    obtain ⟨-, p1, p2, p3⟩ := ups_is (fun i => (ve k).getD i 0 = (ve j).getD i 0) (min (ve k).length (ve j).length) 0
    obtain ⟨-, b1, b2, b3⟩ := ups_is (fun i => (ve k).getD ((ve k).length - 1 - i) 0 = (ve j).getD ((ve j).length - 1 - i) 0) (min (ve k).length (ve j).length - frontN (ve k) (ve j)) 0
    have pe : ups (fun i => (ve k).getD i 0 = (ve j).getD i 0) (min (ve k).length (ve j).length) 0 = frontN (ve k) (ve j) := rfl
    have be : ups (fun i => (ve k).getD ((ve k).length - 1 - i) 0 = (ve j).getD ((ve j).length - 1 - i) 0) (min (ve k).length (ve j).length - frontN (ve k) (ve j)) 0 = backN (ve k) (ve j) := rfl
    rw [pe] at p1 p2 p3
    rw [be] at b1 b2 b3
    unfold dif at c4 hdf
    generalize frontN (ve k) (ve j) = p at *
    generalize backN (ve k) (ve j) = q at *
    generalize chO vp 3 (vp k) = ch at *
    generalize chO vp 3 (vp j) = ch' at *
    have fin : Ev (d + 6) ML_isListed [] 189 [(9, .int (nI q)), (8, .int (nI p)), (7, .int (nI (ve j).length)), (6, .int (nI ch)), (5, .int (nI (ve k).length)), (4, .int (nI (vn j))), (0, .ref X), (1, .ref G), (2, .int (nI (vf k))), (3, .int (nI (vn k)))] [] T (fun r T' => r = .inl (some (.int (nI 1))) ∧ T' = T) := Z_li7 k8 hle eh (by omega) hel hel' hdf d2 c4 ⟨rfl, rfl⟩
    have back : Ev (d + 6) ML_isListed [] 133 [(9, .int (nI 0)), (8, .int (nI p)), (7, .int (nI (ve j).length)), (6, .int (nI ch)), (5, .int (nI (ve k).length)), (4, .int (nI (vn j))), (0, .ref X), (1, .ref G), (2, .int (nI (vf k))), (3, .int (nI (vn k)))] [] T (fun r T' => r = .inl (some (.int (nI 1))) ∧ T' = T) := by
      refine lpX (fun i => [(9, .int (nI i)), (8, .int (nI p)), (7, .int (nI (ve j).length)), (6, .int (nI ch)), (5, .int (nI (ve k).length)), (4, .int (nI (vn j))), (0, .ref X), (1, .ref G), (2, .int (nI (vf k))), (3, .int (nI (vn k)))]) (fun _ => T) q rfl rfl ?_ ?_
      · intro i hi hq
        have a1 : (ve k).getD ((ve k).length - 1 - i) 0 = (ve j).getD ((ve j).length - 1 - i) 0 := b2 i (by omega) hi
        have a2 := d3 ((ve j).length - 1 - i) (by omega)
        rw [← a1] at a2
        exact Z_li4 k8 (by omega) (by omega) (by omega) (by omega) hel hel' (hE _ (by omega)) (d4 _ (by omega)) a2 hq
      · by_cases cc : q = min (ve k).length (ve j).length - p
        · exact Z_li5 k8 (by omega) (by omega) hel hel' (by omega) (by omega) fin
        · have a1 := b3.resolve_left (by omega)
          exact Z_li6 k8 (by omega) (by omega) (by omega) (by omega) hel hel' (hE _ (by omega)) (hE' _ (by omega)) a1 (d4 _ (by omega)) (d3 _ (by omega)) fin
    have front : Ev (d + 6) ML_isListed [] 90 [(8, .int (nI 0)), (7, .int (nI (ve j).length)), (6, .int (nI ch)), (5, .int (nI (ve k).length)), (4, .int (nI (vn j))), (0, .ref X), (1, .ref G), (2, .int (nI (vf k))), (3, .int (nI (vn k)))] [] T (fun r T' => r = .inl (some (.int (nI 1))) ∧ T' = T) := by
      refine lpX (fun i => [(8, .int (nI i)), (7, .int (nI (ve j).length)), (6, .int (nI ch)), (5, .int (nI (ve k).length)), (4, .int (nI (vn j))), (0, .ref X), (1, .ref G), (2, .int (nI (vf k))), (3, .int (nI (vn k)))]) (fun _ => T) p rfl rfl ?_ ?_
      · intro i hi hq
        have a1 : (ve k).getD i 0 = (ve j).getD i 0 := p2 i (by omega) hi
        have a2 := d3 i (by omega)
        rw [← a1] at a2
        exact Z_li1 k8 (by omega) (by omega) hel hel' (hE _ (by omega)) (d4 _ (by omega)) a2 hq
      · by_cases cc : p = min (ve k).length (ve j).length
        · exact Z_li2 k8 hel hel' (by omega) (by omega) back
        · have a1 := p3.resolve_left (by omega)
          exact Z_li3 k8 (by omega) (by omega) hel hel' (hE _ (by omega)) (hE' _ (by omega)) a1 (d4 _ (by omega)) (d3 _ (by omega)) back
    rw [uL_isListed]
    refine eN_aload_n (M := ML_isListed) (k := 0) rfl dL_isListed_0 (pc' := 1) rfl rfl ?_
    refine eN_iload_n (M := ML_isListed) (k := 2) rfl dL_isListed_1 (pc' := 2) rfl rfl ?_
    refine eN_iload_n (M := ML_isListed) (k := 3) rfl dL_isListed_2 (pc' := 3) rfl rfl ?_
    refine (ev_cV2 (M := ML_isListed) (kk := 8) dL_isListed_3 c_9_39 mX6_baseOf rfl rfl (by decide) rfl (pc' := 6) rfl).mpr ⟨(by assumption), (Nat.le_of_ble_eq_true rfl), eN_c c1 (by first | rfl | (simp (disch := omega) only [nI_add, i_sub]) | (simp only [*])) ?_⟩
    refine (ev_istore (M := ML_isListed) dL_isListed_6 (by decide) (pc' := 8) rfl).mpr ?_
    refine eN_aload_n (M := ML_isListed) (k := 0) rfl dL_isListed_8 (pc' := 9) rfl rfl ?_
    refine eN_iload_n (M := ML_isListed) (k := 2) rfl dL_isListed_9 (pc' := 10) rfl rfl ?_
    refine eN_iload_n (M := ML_isListed) (k := 3) rfl dL_isListed_10 (pc' := 11) rfl rfl ?_
    refine (ev_cV2 (M := ML_isListed) (kk := 8) dL_isListed_11 c_9_29 mX6_chunksOf rfl rfl (by decide) rfl (pc' := 14) rfl).mpr ⟨(by assumption), (Nat.le_of_ble_eq_true rfl), eN_c c2 (by first | rfl | (simp (disch := omega) only [nI_add, i_sub]) | (simp only [*])) ?_⟩
    refine (ev_istore (M := ML_isListed) dL_isListed_14 (by decide) (pc' := 16) rfl).mpr ?_
    refine eN_aload_n (M := ML_isListed) (k := 0) rfl dL_isListed_16 (pc' := 17) rfl rfl ?_
    refine eN_iload_n (M := ML_isListed) (k := 2) rfl dL_isListed_17 (pc' := 18) rfl rfl ?_
    refine eN_iload_n (M := ML_isListed) (k := 3) rfl dL_isListed_18 (pc' := 19) rfl rfl ?_
    refine (ev_cV2 (M := ML_isListed) (kk := 8) dL_isListed_19 c_9_42 mX6_chainOf rfl rfl (by decide) rfl (pc' := 22) rfl).mpr ⟨(by assumption), (Nat.le_of_ble_eq_true rfl), eN_c c3 (by first | rfl | (simp (disch := omega) only [nI_add, i_sub]) | (simp only [*])) ?_⟩
    refine (ev_istore (M := ML_isListed) dL_isListed_22 (by decide) (pc' := 24) rfl).mpr ?_
    refine eN_iload (M := ML_isListed) dL_isListed_24 (pc' := 26) rfl rfl ?_
    refine (ev_iconst (M := ML_isListed) (v := (-1)) rfl dL_isListed_26 (pc' := 27) rfl).mpr ?_
    refine (ev_icmp_ne (M := ML_isListed) (t := 52) dL_isListed_27 (by decide) (pc' := 30) rfl).mpr (ifT (by first | assumption | omega | rfl | exact fun q => q (by assumption) | exact fun q => q rfl | (simp (disch := omega) only [nle_t, nle_f, nlt_t, nlt_f, neq_t, neq_f, i_lt0, i_le0, i_0le, i_0lt, i_eq0, i_lt, i_le, i_eq, nI_add, i_sub, i_cl, i_m1a, i_m1b, i_m1c, i_m1d, i_m1e, i_am1, i_ite0, m1_le, m1_m1, m1_ge0, not_true_eq_false, not_false_eq_true, or_self, or_false, false_or, or_true, true_or, and_self, and_true, true_and])) ?_)
    refine eN_iload (M := ML_isListed) dL_isListed_52 (pc' := 54) rfl rfl ?_
    refine eN_iload_n (M := ML_isListed) (k := 3) rfl dL_isListed_54 (pc' := 55) rfl rfl ?_
    refine (ev_icmp_ge (M := ML_isListed) (t := 84) dL_isListed_55 (by decide) (pc' := 58) rfl).mpr (ifF (by first | assumption | omega | rfl | exact fun q => q (by assumption) | exact fun q => q rfl | (simp (disch := omega) only [nle_t, nle_f, nlt_t, nlt_f, neq_t, neq_f, i_lt0, i_le0, i_0le, i_0lt, i_eq0, i_lt, i_le, i_eq, nI_add, i_sub, i_cl, i_m1a, i_m1b, i_m1c, i_m1d, i_m1e, i_am1, i_ite0, m1_le, m1_m1, m1_ge0, not_true_eq_false, not_false_eq_true, or_self, or_false, false_or, or_true, true_or, and_self, and_true, true_and])) ?_)
    refine eN_iload (M := ML_isListed) dL_isListed_58 (pc' := 60) rfl rfl ?_
    refine (ev_if_lt (M := ML_isListed) (t := 84) dL_isListed_60 (by decide) (pc' := 63) rfl).mpr (ifF (by first | assumption | omega | rfl | exact fun q => q (by assumption) | exact fun q => q rfl | (simp (disch := omega) only [nle_t, nle_f, nlt_t, nlt_f, neq_t, neq_f, i_lt0, i_le0, i_0le, i_0lt, i_eq0, i_lt, i_le, i_eq, nI_add, i_sub, i_cl, i_m1a, i_m1b, i_m1c, i_m1d, i_m1e, i_am1, i_ite0, m1_le, m1_m1, m1_ge0, not_true_eq_false, not_false_eq_true, or_self, or_false, false_or, or_true, true_or, and_self, and_true, true_and])) ?_)
    refine eN_aload_n (M := ML_isListed) (k := 1) rfl dL_isListed_63 (pc' := 64) rfl rfl ?_
    refine eN_iload_n (M := ML_isListed) (k := 2) rfl dL_isListed_64 (pc' := 65) rfl rfl ?_
    refine eN_laload (M := ML_isListed) dL_isListed_65 (pc' := 66) rfl (by assumption) (by assumption) (by omega) ?_
    refine eN_iload (M := ML_isListed) dL_isListed_66 (pc' := 68) rfl rfl ?_
    refine (ev_cS2 (M := ML_isListed) dL_isListed_68 c_9_10 (by decide) mL_isIn rfl rfl (pc' := 71) rfl).mpr ⟨(Nat.le_of_ble_eq_true rfl), eN_c ci (by first | rfl | (simp (disch := omega) only [nI_add, i_sub]) | (simp only [*])) ?_⟩
    refine (ev_if_eq (M := ML_isListed) (t := 84) dL_isListed_71 (by decide) (pc' := 74) rfl).mpr (ifF (by first | assumption | omega | rfl | exact fun q => q (by assumption) | exact fun q => q rfl | (simp (disch := omega) only [nle_t, nle_f, nlt_t, nlt_f, neq_t, neq_f, i_lt0, i_le0, i_0le, i_0lt, i_eq0, i_lt, i_le, i_eq, nI_add, i_sub, i_cl, i_m1a, i_m1b, i_m1c, i_m1d, i_m1e, i_am1, i_ite0, m1_le, m1_m1, m1_ge0, not_true_eq_false, not_false_eq_true, or_self, or_false, false_or, or_true, true_or, and_self, and_true, true_and])) ?_)
    refine eN_aload_n (M := ML_isListed) (k := 0) rfl dL_isListed_74 (pc' := 75) rfl rfl ?_
    refine eN_iload_n (M := ML_isListed) (k := 2) rfl dL_isListed_75 (pc' := 76) rfl rfl ?_
    refine eN_iload (M := ML_isListed) dL_isListed_76 (pc' := 78) rfl rfl ?_
    refine (ev_cV2 (M := ML_isListed) (kk := 8) dL_isListed_78 c_9_29 mX6_chunksOf rfl rfl (by decide) rfl (pc' := 81) rfl).mpr ⟨(by assumption), (Nat.le_of_ble_eq_true rfl), eN_c d1 (by first | rfl | (simp (disch := omega) only [nI_add, i_sub]) | (simp only [*])) ?_⟩
    refine (ev_goto (M := ML_isListed) (pc' := 85) dL_isListed_81 (by decide)).mpr ?_
    refine (ev_istore (M := ML_isListed) dL_isListed_85 (by decide) (pc' := 87) rfl).mpr ?_
    refine (ev_iconst (M := ML_isListed) (v := (nI 0)) rfl dL_isListed_87 (pc' := 88) rfl).mpr ?_
    refine (ev_istore (M := ML_isListed) dL_isListed_88 (by decide) (pc' := 90) rfl).mpr ?_
    exact ev_more (by repeat (first | exact trivial | refine ⟨rfl, ?_⟩)) (by exact rfl) (by exact rfl) front
end LIS
