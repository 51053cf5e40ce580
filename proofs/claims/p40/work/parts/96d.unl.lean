/-! areUnlike -/
section UNL
variable {d X G : Nat} {va ba ca : Nat → Nat} {dr kl : List Nat} {vf vn : Nat → Nat} {vb ve : Nat → List Nat} {vp : Nat → Option Nat} {nx : Nat → Nat} {sv : Nat} {cb : Nat → List Nat} {us : Nat → Nat} {bl cs : List Nat} {co : Nat → List Nat} {op hi re st : Nat} {rw : List Nat} {bx : Nat → Nat} {ud : Nat} {T : TS}
/-- where the chunk at a place begins -/
def beg (cb : Nat → List Nat) (es : List Nat) (i : Nat) : Nat := sm (fun j => (cb (es.getD j 0)).length) i
theorem beg_is {xs : List Nat} : ∀ f, ∀ es : List Nat, f ≤ xs.length → es.map cb = (cuts xs f).map (sub xs) → ∀ i, i < es.length → f + beg cb es i + (cb (es.getD i 0)).length ≤ xs.length ∧ ∀ t, t < (cb (es.getD i 0)).length → xs.getD (f + beg cb es i + t) 0 = (cb (es.getD i 0)).getD t 0 := by
  refine cuts_ind (xs := xs) (fun f h => ?_) (fun f h ih => ?_)
  · intro es hf he i hi
    rw [cuts_nil h] at he
    have := congrArg List.length he
    simp at this
    rw [this] at hi
    exact absurd hi (Nat.not_lt_zero i)
  · intro es hf he i hi
    obtain ⟨h1, h2, -, -⟩ := nxt_is h
    rw [cuts_cons h, List.map_cons] at he
    cases es with
    | nil => cases he
    | cons n es =>
      rw [List.map_cons] at he
      obtain ⟨e1, e2⟩ := List.cons.inj he
      have hl : (cb n).length = nxt xs f - f := by rw [e1]; exact sub_len (q := (f, nxt xs f - f)) (by show f + _ ≤ _; omega)
      cases i with
      | zero =>
        show f + 0 + (cb n).length ≤ _ ∧ ∀ t, t < (cb n).length → xs.getD (f + 0 + t) 0 = (cb n).getD t 0
        refine ⟨by omega, fun t ht => ?_⟩
        rw [e1]
        exact (sub_get (q := (f, nxt xs f - f)) (by show t < nxt xs f - f; omega)).symm
      | succ i =>
        obtain ⟨a1, a2⟩ := ih es h2 e2 i (Nat.lt_of_succ_lt_succ hi)
        have eb : beg cb (n :: es) (i + 1) = (cb n).length + beg cb es i := by
          unfold beg
          rw [sm_shift]
          rfl
        show f + beg cb (n :: es) (i + 1) + (cb (es.getD i 0)).length ≤ _ ∧ ∀ t, t < (cb (es.getD i 0)).length → xs.getD (f + beg cb (n :: es) (i + 1) + t) 0 = (cb (es.getD i 0)).getD t 0
        rw [eb]
        refine ⟨by omega, fun t ht => ?_⟩
        have := a2 t ht
        rw [show f + ((cb n).length + beg cb es i) + t = nxt xs f + beg cb es i + t by omega]
        exact this
/-- alike up to i -/
def alk (a b : List Nat) (i : Nat) : Nat := if a.length = b.length ∧ ∀ t, t < i → a.getD t 0 = b.getD t 0 then 1 else 0
theorem alk_s1 {a b : List Nat} {i : Nat} (h : alk a b i = 1) (he : a.getD i 0 = b.getD i 0) : alk a b (i + 1) = 1 := by
  unfold alk at h ⊢
  split at h
  · rename_i q
    rw [if_pos ⟨q.1, fun t ht => by
      by_cases e : t = i
      · rw [e]; exact he
      · exact q.2 t (by omega)⟩]
  · cases h
theorem alk_s2 {a b : List Nat} {i : Nat} (he : ¬ a.getD i 0 = b.getD i 0) : alk a b (i + 1) = 0 := by
  unfold alk
  rw [if_neg (fun q => he (q.2 i (Nat.lt_succ_self i)))]
theorem alk_s3 {a b : List Nat} {i : Nat} (h : ¬ alk a b i = 1) : alk a b i = 0 ∧ alk a b (i + 1) = 0 := by
  unfold alk at h ⊢
  split at h
  · exact absurd rfl h
  · rename_i q
    rw [if_neg q, if_neg (fun z => q ⟨z.1, fun t ht => z.2 t (by omega)⟩)]
    exact ⟨rfl, rfl⟩
theorem alk_end {a b : List Nat} : alk a b a.length = if a = b then 1 else 0 := by
  unfold alk
  by_cases e : a = b
  · subst e
    rw [if_pos rfl, if_pos ⟨rfl, fun t _ => rfl⟩]
  · rw [if_neg e, if_neg]
    rintro ⟨h1, h2⟩
    refine e (List.ext_getElem h1 (fun i p1 p2 => ?_))
    have := h2 i p1
    rw [List.getD_eq_getElem?_getD, List.getD_eq_getElem?_getD, List.getElem?_eq_getElem p1, List.getElem?_eq_getElem p2] at this
    exact this
section Z
variable {f v g w x y n m a b s t i e l : Nat} {Q : Post}
theorem Z_un1 (k8 : tK T X = 8) (hi : i < a) (ha : a ≤ 30) (hs : s ≤ 1000) (hl : l ≤ 32) (c1 : Call (d + 5) 98 [.ref X, .int (nI f), .int (nI v), .int (nI i)] T (.inl (some (.int (nI e)))) T) (c2 : Call (d + 5) 104 [.ref X, .int (nI e)] T (.inl (some (.int (nI l)))) T) (hq : Ev (d + 5) ML_areUnlike [] 52 [(13, .int (nI (i + 1))), (12, .int (nI t)), (11, .int (nI (s + l))), (10, .int (nI b)), (9, .int (nI a)), (8, .int (nI m)), (7, .int (nI n)), (0, .ref X), (1, .int (nI f)), (2, .int (nI v)), (3, .int (nI g)), (4, .int (nI w)), (5, .int (nI x)), (6, .int (nI y))] [] T Q) : Ev (d + 5) ML_areUnlike [] 52 [(13, .int (nI i)), (12, .int (nI t)), (11, .int (nI s)), (10, .int (nI b)), (9, .int (nI a)), (8, .int (nI m)), (7, .int (nI n)), (0, .ref X), (1, .int (nI f)), (2, .int (nI v)), (3, .int (nI g)), (4, .int (nI w)), (5, .int (nI x)), (6, .int (nI y))] [] T Q := by
  refine eN_iload (M := ML_areUnlike) dL_areUnlike_52 (pc' := 54) rfl rfl ?_
  refine eN_iload (M := ML_areUnlike) dL_areUnlike_54 (pc' := 56) rfl rfl ?_
  refine (ev_icmp_ge (M := ML_areUnlike) (t := 82) dL_areUnlike_56 (by decide) (pc' := 59) rfl).mpr (ifF (by first | assumption | omega | rfl | exact fun q => q (by assumption) | exact fun q => q rfl | (simp (disch := omega) only [nle_t, nle_f, nlt_t, nlt_f, neq_t, neq_f, i_lt0, i_le0, i_0le, i_0lt, i_eq0, i_lt, i_le, i_eq, nI_add, i_sub, i_cl, i_m1a, i_m1b, i_m1c, i_m1d, i_m1e, i_am1, i_ite0, m1_le, m1_m1, m1_ge0, not_true_eq_false, not_false_eq_true, or_self, or_false, false_or, or_true, true_or, and_self, and_true, true_and])) ?_)
  refine eN_iload (M := ML_areUnlike) dL_areUnlike_59 (pc' := 61) rfl rfl ?_
  refine eN_aload_n (M := ML_areUnlike) (k := 0) rfl dL_areUnlike_61 (pc' := 62) rfl rfl ?_
  refine eN_aload_n (M := ML_areUnlike) (k := 0) rfl dL_areUnlike_62 (pc' := 63) rfl rfl ?_
  refine eN_iload_n (M := ML_areUnlike) (k := 1) rfl dL_areUnlike_63 (pc' := 64) rfl rfl ?_
  refine eN_iload_n (M := ML_areUnlike) (k := 2) rfl dL_areUnlike_64 (pc' := 65) rfl rfl ?_
  refine eN_iload (M := ML_areUnlike) dL_areUnlike_65 (pc' := 67) rfl rfl ?_
  refine (ev_cV3 (M := ML_areUnlike) (kk := 8) dL_areUnlike_67 c_9_32 mX6_chunkAt rfl rfl (by decide) rfl (pc' := 70) rfl).mpr ⟨(by assumption), (Nat.le_of_ble_eq_true rfl), eN_c c1 (by first | rfl | (simp (disch := omega) only [nI_add, i_sub]) | (simp only [*])) ?_⟩
  refine (ev_cV1 (M := ML_areUnlike) (kk := 8) dL_areUnlike_70 c_9_35 mX6_chunkLength rfl rfl (by decide) rfl (pc' := 73) rfl).mpr ⟨(by assumption), (Nat.le_of_ble_eq_true rfl), eN_c c2 (by first | rfl | (simp (disch := omega) only [nI_add, i_sub]) | (simp only [*])) ?_⟩
  refine eN_iadd (M := ML_areUnlike) dL_areUnlike_73 (pc' := 74) rfl ?_
  refine (ev_istore (M := ML_areUnlike) dL_areUnlike_74 (by decide) (pc' := 76) rfl).mpr ?_
  refine eN_iinc (M := ML_areUnlike) (v := 1) rfl dL_areUnlike_76 (by decide) (pc' := 79) rfl rfl ?_
  refine (ev_goto (M := ML_areUnlike) (pc' := 52) dL_areUnlike_79 (by decide)).mpr ?_
  exact ev_more (by repeat (first | exact trivial | refine ⟨rfl, ?_⟩)) (by exact rfl) (by exact rfl) hq
theorem Z_un2 (ha : a ≤ 30) (hq : Ev (d + 5) ML_areUnlike [] 85 [(13, .int (nI 0)), (12, .int (nI t)), (11, .int (nI s)), (10, .int (nI b)), (9, .int (nI a)), (8, .int (nI m)), (7, .int (nI n)), (0, .ref X), (1, .int (nI f)), (2, .int (nI v)), (3, .int (nI g)), (4, .int (nI w)), (5, .int (nI x)), (6, .int (nI y))] [] T Q) : Ev (d + 5) ML_areUnlike [] 52 [(13, .int (nI a)), (12, .int (nI t)), (11, .int (nI s)), (10, .int (nI b)), (9, .int (nI a)), (8, .int (nI m)), (7, .int (nI n)), (0, .ref X), (1, .int (nI f)), (2, .int (nI v)), (3, .int (nI g)), (4, .int (nI w)), (5, .int (nI x)), (6, .int (nI y))] [] T Q := by
  refine eN_iload (M := ML_areUnlike) dL_areUnlike_52 (pc' := 54) rfl rfl ?_
  refine eN_iload (M := ML_areUnlike) dL_areUnlike_54 (pc' := 56) rfl rfl ?_
  refine (ev_icmp_ge (M := ML_areUnlike) (t := 82) dL_areUnlike_56 (by decide) (pc' := 59) rfl).mpr (ifT (by first | assumption | omega | rfl | exact fun q => q (by assumption) | exact fun q => q rfl | (simp (disch := omega) only [nle_t, nle_f, nlt_t, nlt_f, neq_t, neq_f, i_lt0, i_le0, i_0le, i_0lt, i_eq0, i_lt, i_le, i_eq, nI_add, i_sub, i_cl, i_m1a, i_m1b, i_m1c, i_m1d, i_m1e, i_am1, i_ite0, m1_le, m1_m1, m1_ge0, not_true_eq_false, not_false_eq_true, or_self, or_false, false_or, or_true, true_or, and_self, and_true, true_and])) ?_)
  refine (ev_iconst (M := ML_areUnlike) (v := (nI 0)) rfl dL_areUnlike_82 (pc' := 83) rfl).mpr ?_
  refine (ev_istore (M := ML_areUnlike) dL_areUnlike_83 (by decide) (pc' := 85) rfl).mpr ?_
  exact ev_more (by repeat (first | exact trivial | refine ⟨rfl, ?_⟩)) (by exact rfl) (by exact rfl) hq
theorem Z_un3 (k8 : tK T X = 8) (hi : i < b) (ha : b ≤ 30) (hs : t ≤ 1000) (hl : l ≤ 32) (c1 : Call (d + 5) 98 [.ref X, .int (nI g), .int (nI w), .int (nI i)] T (.inl (some (.int (nI e)))) T) (c2 : Call (d + 5) 104 [.ref X, .int (nI e)] T (.inl (some (.int (nI l)))) T) (hq : Ev (d + 5) ML_areUnlike [] 85 [(13, .int (nI (i + 1))), (12, .int (nI (t + l))), (11, .int (nI s)), (10, .int (nI b)), (9, .int (nI a)), (8, .int (nI m)), (7, .int (nI n)), (0, .ref X), (1, .int (nI f)), (2, .int (nI v)), (3, .int (nI g)), (4, .int (nI w)), (5, .int (nI x)), (6, .int (nI y))] [] T Q) : Ev (d + 5) ML_areUnlike [] 85 [(13, .int (nI i)), (12, .int (nI t)), (11, .int (nI s)), (10, .int (nI b)), (9, .int (nI a)), (8, .int (nI m)), (7, .int (nI n)), (0, .ref X), (1, .int (nI f)), (2, .int (nI v)), (3, .int (nI g)), (4, .int (nI w)), (5, .int (nI x)), (6, .int (nI y))] [] T Q := by
  refine eN_iload (M := ML_areUnlike) dL_areUnlike_85 (pc' := 87) rfl rfl ?_
  refine eN_iload (M := ML_areUnlike) dL_areUnlike_87 (pc' := 89) rfl rfl ?_
  refine (ev_icmp_ge (M := ML_areUnlike) (t := 116) dL_areUnlike_89 (by decide) (pc' := 92) rfl).mpr (ifF (by first | assumption | omega | rfl | exact fun q => q (by assumption) | exact fun q => q rfl | (simp (disch := omega) only [nle_t, nle_f, nlt_t, nlt_f, neq_t, neq_f, i_lt0, i_le0, i_0le, i_0lt, i_eq0, i_lt, i_le, i_eq, nI_add, i_sub, i_cl, i_m1a, i_m1b, i_m1c, i_m1d, i_m1e, i_am1, i_ite0, m1_le, m1_m1, m1_ge0, not_true_eq_false, not_false_eq_true, or_self, or_false, false_or, or_true, true_or, and_self, and_true, true_and])) ?_)
  refine eN_iload (M := ML_areUnlike) dL_areUnlike_92 (pc' := 94) rfl rfl ?_
  refine eN_aload_n (M := ML_areUnlike) (k := 0) rfl dL_areUnlike_94 (pc' := 95) rfl rfl ?_
  refine eN_aload_n (M := ML_areUnlike) (k := 0) rfl dL_areUnlike_95 (pc' := 96) rfl rfl ?_
  refine eN_iload_n (M := ML_areUnlike) (k := 3) rfl dL_areUnlike_96 (pc' := 97) rfl rfl ?_
  refine eN_iload (M := ML_areUnlike) dL_areUnlike_97 (pc' := 99) rfl rfl ?_
  refine eN_iload (M := ML_areUnlike) dL_areUnlike_99 (pc' := 101) rfl rfl ?_
  refine (ev_cV3 (M := ML_areUnlike) (kk := 8) dL_areUnlike_101 c_9_32 mX6_chunkAt rfl rfl (by decide) rfl (pc' := 104) rfl).mpr ⟨(by assumption), (Nat.le_of_ble_eq_true rfl), eN_c c1 (by first | rfl | (simp (disch := omega) only [nI_add, i_sub]) | (simp only [*])) ?_⟩
  refine (ev_cV1 (M := ML_areUnlike) (kk := 8) dL_areUnlike_104 c_9_35 mX6_chunkLength rfl rfl (by decide) rfl (pc' := 107) rfl).mpr ⟨(by assumption), (Nat.le_of_ble_eq_true rfl), eN_c c2 (by first | rfl | (simp (disch := omega) only [nI_add, i_sub]) | (simp only [*])) ?_⟩
  refine eN_iadd (M := ML_areUnlike) dL_areUnlike_107 (pc' := 108) rfl ?_
  refine (ev_istore (M := ML_areUnlike) dL_areUnlike_108 (by decide) (pc' := 110) rfl).mpr ?_
  refine eN_iinc (M := ML_areUnlike) (v := 1) rfl dL_areUnlike_110 (by decide) (pc' := 113) rfl rfl ?_
  refine (ev_goto (M := ML_areUnlike) (pc' := 85) dL_areUnlike_113 (by decide)).mpr ?_
  exact ev_more (by repeat (first | exact trivial | refine ⟨rfl, ?_⟩)) (by exact rfl) (by exact rfl) hq
theorem Z_un4 {z : Nat} (k8 : tK T X = 8) (ha : b ≤ 30) (hl : l ≤ 32) (hz : z ≤ 32) {e' u : Nat} (hu : u = if l = z then 1 else 0) (c1 : Call (d + 5) 98 [.ref X, .int (nI f), .int (nI v), .int (nI a)] T (.inl (some (.int (nI e)))) T) (c2 : Call (d + 5) 104 [.ref X, .int (nI e)] T (.inl (some (.int (nI l)))) T) (c3 : Call (d + 5) 98 [.ref X, .int (nI g), .int (nI w), .int (nI b)] T (.inl (some (.int (nI e')))) T) (c4 : Call (d + 5) 104 [.ref X, .int (nI e')] T (.inl (some (.int (nI z)))) T) (hq : Ev (d + 5) ML_areUnlike [] 164 [(17, .int (nI 0)), (16, .int (nI 0)), (15, .int (nI 1)), (14, .int (nI u)), (13, .int (nI l)), (12, .int (nI t)), (11, .int (nI s)), (10, .int (nI b)), (9, .int (nI a)), (8, .int (nI m)), (7, .int (nI n)), (0, .ref X), (1, .int (nI f)), (2, .int (nI v)), (3, .int (nI g)), (4, .int (nI w)), (5, .int (nI x)), (6, .int (nI y))] [] T Q) : Ev (d + 5) ML_areUnlike [] 85 [(13, .int (nI b)), (12, .int (nI t)), (11, .int (nI s)), (10, .int (nI b)), (9, .int (nI a)), (8, .int (nI m)), (7, .int (nI n)), (0, .ref X), (1, .int (nI f)), (2, .int (nI v)), (3, .int (nI g)), (4, .int (nI w)), (5, .int (nI x)), (6, .int (nI y))] [] T Q := by
  by_cases h : l = z
  · rw [if_pos h] at hu
    subst hu
    refine eN_iload (M := ML_areUnlike) dL_areUnlike_85 (pc' := 87) rfl rfl ?_
    refine eN_iload (M := ML_areUnlike) dL_areUnlike_87 (pc' := 89) rfl rfl ?_
    refine (ev_icmp_ge (M := ML_areUnlike) (t := 116) dL_areUnlike_89 (by decide) (pc' := 92) rfl).mpr (ifT (by first | assumption | omega | rfl | exact fun q => q (by assumption) | exact fun q => q rfl | (simp (disch := omega) only [nle_t, nle_f, nlt_t, nlt_f, neq_t, neq_f, i_lt0, i_le0, i_0le, i_0lt, i_eq0, i_lt, i_le, i_eq, nI_add, i_sub, i_cl, i_m1a, i_m1b, i_m1c, i_m1d, i_m1e, i_am1, i_ite0, m1_le, m1_m1, m1_ge0, not_true_eq_false, not_false_eq_true, or_self, or_false, false_or, or_true, true_or, and_self, and_true, true_and])) ?_)
    refine eN_aload_n (M := ML_areUnlike) (k := 0) rfl dL_areUnlike_116 (pc' := 117) rfl rfl ?_
    refine eN_aload_n (M := ML_areUnlike) (k := 0) rfl dL_areUnlike_117 (pc' := 118) rfl rfl ?_
    refine eN_iload_n (M := ML_areUnlike) (k := 1) rfl dL_areUnlike_118 (pc' := 119) rfl rfl ?_
    refine eN_iload_n (M := ML_areUnlike) (k := 2) rfl dL_areUnlike_119 (pc' := 120) rfl rfl ?_
    refine eN_iload (M := ML_areUnlike) dL_areUnlike_120 (pc' := 122) rfl rfl ?_
    refine (ev_cV3 (M := ML_areUnlike) (kk := 8) dL_areUnlike_122 c_9_32 mX6_chunkAt rfl rfl (by decide) rfl (pc' := 125) rfl).mpr ⟨(by assumption), (Nat.le_of_ble_eq_true rfl), eN_c c1 (by first | rfl | (simp (disch := omega) only [nI_add, i_sub]) | (simp only [*])) ?_⟩
    refine (ev_cV1 (M := ML_areUnlike) (kk := 8) dL_areUnlike_125 c_9_35 mX6_chunkLength rfl rfl (by decide) rfl (pc' := 128) rfl).mpr ⟨(by assumption), (Nat.le_of_ble_eq_true rfl), eN_c c2 (by first | rfl | (simp (disch := omega) only [nI_add, i_sub]) | (simp only [*])) ?_⟩
    refine (ev_istore (M := ML_areUnlike) dL_areUnlike_128 (by decide) (pc' := 130) rfl).mpr ?_
    refine eN_iload (M := ML_areUnlike) dL_areUnlike_130 (pc' := 132) rfl rfl ?_
    refine eN_aload_n (M := ML_areUnlike) (k := 0) rfl dL_areUnlike_132 (pc' := 133) rfl rfl ?_
    refine eN_aload_n (M := ML_areUnlike) (k := 0) rfl dL_areUnlike_133 (pc' := 134) rfl rfl ?_
    refine eN_iload_n (M := ML_areUnlike) (k := 3) rfl dL_areUnlike_134 (pc' := 135) rfl rfl ?_
    refine eN_iload (M := ML_areUnlike) dL_areUnlike_135 (pc' := 137) rfl rfl ?_
    refine eN_iload (M := ML_areUnlike) dL_areUnlike_137 (pc' := 139) rfl rfl ?_
    refine (ev_cV3 (M := ML_areUnlike) (kk := 8) dL_areUnlike_139 c_9_32 mX6_chunkAt rfl rfl (by decide) rfl (pc' := 142) rfl).mpr ⟨(by assumption), (Nat.le_of_ble_eq_true rfl), eN_c c3 (by first | rfl | (simp (disch := omega) only [nI_add, i_sub]) | (simp only [*])) ?_⟩
    refine (ev_cV1 (M := ML_areUnlike) (kk := 8) dL_areUnlike_142 c_9_35 mX6_chunkLength rfl rfl (by decide) rfl (pc' := 145) rfl).mpr ⟨(by assumption), (Nat.le_of_ble_eq_true rfl), eN_c c4 (by first | rfl | (simp (disch := omega) only [nI_add, i_sub]) | (simp only [*])) ?_⟩
    refine (ev_icmp_ne (M := ML_areUnlike) (t := 152) dL_areUnlike_145 (by decide) (pc' := 148) rfl).mpr (ifF (by first | assumption | omega | rfl | exact fun q => q (by assumption) | exact fun q => q rfl | (simp (disch := omega) only [nle_t, nle_f, nlt_t, nlt_f, neq_t, neq_f, i_lt0, i_le0, i_0le, i_0lt, i_eq0, i_lt, i_le, i_eq, nI_add, i_sub, i_cl, i_m1a, i_m1b, i_m1c, i_m1d, i_m1e, i_am1, i_ite0, m1_le, m1_m1, m1_ge0, not_true_eq_false, not_false_eq_true, or_self, or_false, false_or, or_true, true_or, and_self, and_true, true_and])) ?_)
    refine (ev_iconst (M := ML_areUnlike) (v := (nI 1)) rfl dL_areUnlike_148 (pc' := 149) rfl).mpr ?_
    refine (ev_goto (M := ML_areUnlike) (pc' := 153) dL_areUnlike_149 (by decide)).mpr ?_
    refine (ev_istore (M := ML_areUnlike) dL_areUnlike_153 (by decide) (pc' := 155) rfl).mpr ?_
    refine (ev_iconst (M := ML_areUnlike) (v := (nI 1)) rfl dL_areUnlike_155 (pc' := 156) rfl).mpr ?_
    refine (ev_istore (M := ML_areUnlike) dL_areUnlike_156 (by decide) (pc' := 158) rfl).mpr ?_
    refine (ev_iconst (M := ML_areUnlike) (v := (nI 0)) rfl dL_areUnlike_158 (pc' := 159) rfl).mpr ?_
    refine (ev_istore (M := ML_areUnlike) dL_areUnlike_159 (by decide) (pc' := 161) rfl).mpr ?_
    refine (ev_iconst (M := ML_areUnlike) (v := (nI 0)) rfl dL_areUnlike_161 (pc' := 162) rfl).mpr ?_
    refine (ev_istore (M := ML_areUnlike) dL_areUnlike_162 (by decide) (pc' := 164) rfl).mpr ?_
    exact ev_more (by repeat (first | exact trivial | refine ⟨rfl, ?_⟩)) (by exact rfl) (by exact rfl) hq
  · rw [if_neg h] at hu
    subst hu
    refine eN_iload (M := ML_areUnlike) dL_areUnlike_85 (pc' := 87) rfl rfl ?_
    refine eN_iload (M := ML_areUnlike) dL_areUnlike_87 (pc' := 89) rfl rfl ?_
    refine (ev_icmp_ge (M := ML_areUnlike) (t := 116) dL_areUnlike_89 (by decide) (pc' := 92) rfl).mpr (ifT (by first | assumption | omega | rfl | exact fun q => q (by assumption) | exact fun q => q rfl | (simp (disch := omega) only [nle_t, nle_f, nlt_t, nlt_f, neq_t, neq_f, i_lt0, i_le0, i_0le, i_0lt, i_eq0, i_lt, i_le, i_eq, nI_add, i_sub, i_cl, i_m1a, i_m1b, i_m1c, i_m1d, i_m1e, i_am1, i_ite0, m1_le, m1_m1, m1_ge0, not_true_eq_false, not_false_eq_true, or_self, or_false, false_or, or_true, true_or, and_self, and_true, true_and])) ?_)
    refine eN_aload_n (M := ML_areUnlike) (k := 0) rfl dL_areUnlike_116 (pc' := 117) rfl rfl ?_
    refine eN_aload_n (M := ML_areUnlike) (k := 0) rfl dL_areUnlike_117 (pc' := 118) rfl rfl ?_
    refine eN_iload_n (M := ML_areUnlike) (k := 1) rfl dL_areUnlike_118 (pc' := 119) rfl rfl ?_
    refine eN_iload_n (M := ML_areUnlike) (k := 2) rfl dL_areUnlike_119 (pc' := 120) rfl rfl ?_
    refine eN_iload (M := ML_areUnlike) dL_areUnlike_120 (pc' := 122) rfl rfl ?_
    refine (ev_cV3 (M := ML_areUnlike) (kk := 8) dL_areUnlike_122 c_9_32 mX6_chunkAt rfl rfl (by decide) rfl (pc' := 125) rfl).mpr ⟨(by assumption), (Nat.le_of_ble_eq_true rfl), eN_c c1 (by first | rfl | (simp (disch := omega) only [nI_add, i_sub]) | (simp only [*])) ?_⟩
    refine (ev_cV1 (M := ML_areUnlike) (kk := 8) dL_areUnlike_125 c_9_35 mX6_chunkLength rfl rfl (by decide) rfl (pc' := 128) rfl).mpr ⟨(by assumption), (Nat.le_of_ble_eq_true rfl), eN_c c2 (by first | rfl | (simp (disch := omega) only [nI_add, i_sub]) | (simp only [*])) ?_⟩
    refine (ev_istore (M := ML_areUnlike) dL_areUnlike_128 (by decide) (pc' := 130) rfl).mpr ?_
    refine eN_iload (M := ML_areUnlike) dL_areUnlike_130 (pc' := 132) rfl rfl ?_
    refine eN_aload_n (M := ML_areUnlike) (k := 0) rfl dL_areUnlike_132 (pc' := 133) rfl rfl ?_
    refine eN_aload_n (M := ML_areUnlike) (k := 0) rfl dL_areUnlike_133 (pc' := 134) rfl rfl ?_
    refine eN_iload_n (M := ML_areUnlike) (k := 3) rfl dL_areUnlike_134 (pc' := 135) rfl rfl ?_
    refine eN_iload (M := ML_areUnlike) dL_areUnlike_135 (pc' := 137) rfl rfl ?_
    refine eN_iload (M := ML_areUnlike) dL_areUnlike_137 (pc' := 139) rfl rfl ?_
    refine (ev_cV3 (M := ML_areUnlike) (kk := 8) dL_areUnlike_139 c_9_32 mX6_chunkAt rfl rfl (by decide) rfl (pc' := 142) rfl).mpr ⟨(by assumption), (Nat.le_of_ble_eq_true rfl), eN_c c3 (by first | rfl | (simp (disch := omega) only [nI_add, i_sub]) | (simp only [*])) ?_⟩
    refine (ev_cV1 (M := ML_areUnlike) (kk := 8) dL_areUnlike_142 c_9_35 mX6_chunkLength rfl rfl (by decide) rfl (pc' := 145) rfl).mpr ⟨(by assumption), (Nat.le_of_ble_eq_true rfl), eN_c c4 (by first | rfl | (simp (disch := omega) only [nI_add, i_sub]) | (simp only [*])) ?_⟩
    refine (ev_icmp_ne (M := ML_areUnlike) (t := 152) dL_areUnlike_145 (by decide) (pc' := 148) rfl).mpr (ifT (by first | assumption | omega | rfl | exact fun q => q (by assumption) | exact fun q => q rfl | (simp (disch := omega) only [nle_t, nle_f, nlt_t, nlt_f, neq_t, neq_f, i_lt0, i_le0, i_0le, i_0lt, i_eq0, i_lt, i_le, i_eq, nI_add, i_sub, i_cl, i_m1a, i_m1b, i_m1c, i_m1d, i_m1e, i_am1, i_ite0, m1_le, m1_m1, m1_ge0, not_true_eq_false, not_false_eq_true, or_self, or_false, false_or, or_true, true_or, and_self, and_true, true_and])) ?_)
    refine (ev_iconst (M := ML_areUnlike) (v := (nI 0)) rfl dL_areUnlike_152 (pc' := 153) rfl).mpr ?_
    refine (ev_istore (M := ML_areUnlike) dL_areUnlike_153 (by decide) (pc' := 155) rfl).mpr ?_
    refine (ev_iconst (M := ML_areUnlike) (v := (nI 1)) rfl dL_areUnlike_155 (pc' := 156) rfl).mpr ?_
    refine (ev_istore (M := ML_areUnlike) dL_areUnlike_156 (by decide) (pc' := 158) rfl).mpr ?_
    refine (ev_iconst (M := ML_areUnlike) (v := (nI 0)) rfl dL_areUnlike_158 (pc' := 159) rfl).mpr ?_
    refine (ev_istore (M := ML_areUnlike) dL_areUnlike_159 (by decide) (pc' := 161) rfl).mpr ?_
    refine (ev_iconst (M := ML_areUnlike) (v := (nI 0)) rfl dL_areUnlike_161 (pc' := 162) rfl).mpr ?_
    refine (ev_istore (M := ML_areUnlike) dL_areUnlike_162 (by decide) (pc' := 164) rfl).mpr ?_
    exact ev_more (by repeat (first | exact trivial | refine ⟨rfl, ?_⟩)) (by exact rfl) (by exact rfl) hq
theorem Z_un5 {u p q x1 x2 : Nat} (k8 : tK T X = 8) (hi : i < l) (hl : l ≤ 32) (hs : s ≤ 1000) (ht : t ≤ 1000) (hp : p < 251) (hq9 : q < 251) (h1 : x1 < 256) (h2 : x2 < 256) (hu : u = if x1 = x2 then 1 else 0) (c1 : Call (d + 5) 96 [.ref X, .int (nI f), .int (nI v), .int (nI (s + i))] T (.inl (some (.int (nI x1)))) T) (c2 : Call (d + 5) 96 [.ref X, .int (nI g), .int (nI w), .int (nI (t + i))] T (.inl (some (.int (nI x2)))) T) (hq : Ev (d + 5) ML_areUnlike [] 164 [(17, .int (nI (i + 1))), (16, .int (nI ((q + (p + x1) % 251) % 251))), (15, .int (nI ((p + x1) % 251))), (14, .int (nI u)), (13, .int (nI l)), (12, .int (nI t)), (11, .int (nI s)), (10, .int (nI b)), (9, .int (nI a)), (8, .int (nI m)), (7, .int (nI n)), (0, .ref X), (1, .int (nI f)), (2, .int (nI v)), (3, .int (nI g)), (4, .int (nI w)), (5, .int (nI x)), (6, .int (nI y))] [] T Q) : Ev (d + 5) ML_areUnlike [] 164 [(17, .int (nI i)), (16, .int (nI q)), (15, .int (nI p)), (14, .int (nI 1)), (13, .int (nI l)), (12, .int (nI t)), (11, .int (nI s)), (10, .int (nI b)), (9, .int (nI a)), (8, .int (nI m)), (7, .int (nI n)), (0, .ref X), (1, .int (nI f)), (2, .int (nI v)), (3, .int (nI g)), (4, .int (nI w)), (5, .int (nI x)), (6, .int (nI y))] [] T Q := by
  by_cases h : x1 = x2
  · rw [if_pos h] at hu
    subst hu
    refine eN_iload (M := ML_areUnlike) dL_areUnlike_164 (pc' := 166) rfl rfl ?_
    refine eN_iload (M := ML_areUnlike) dL_areUnlike_166 (pc' := 168) rfl rfl ?_
    refine (ev_icmp_ge (M := ML_areUnlike) (t := 246) dL_areUnlike_168 (by decide) (pc' := 171) rfl).mpr (ifF (by first | assumption | omega | rfl | exact fun q => q (by assumption) | exact fun q => q rfl | (simp (disch := omega) only [nle_t, nle_f, nlt_t, nlt_f, neq_t, neq_f, i_lt0, i_le0, i_0le, i_0lt, i_eq0, i_lt, i_le, i_eq, nI_add, i_sub, i_cl, i_m1a, i_m1b, i_m1c, i_m1d, i_m1e, i_am1, i_ite0, m1_le, m1_m1, m1_ge0, not_true_eq_false, not_false_eq_true, or_self, or_false, false_or, or_true, true_or, and_self, and_true, true_and])) ?_)
    refine eN_iload (M := ML_areUnlike) dL_areUnlike_171 (pc' := 173) rfl rfl ?_
    refine (ev_if_eq (M := ML_areUnlike) (t := 206) dL_areUnlike_173 (by decide) (pc' := 176) rfl).mpr (ifF (by first | assumption | omega | rfl | exact fun q => q (by assumption) | exact fun q => q rfl | (simp (disch := omega) only [nle_t, nle_f, nlt_t, nlt_f, neq_t, neq_f, i_lt0, i_le0, i_0le, i_0lt, i_eq0, i_lt, i_le, i_eq, nI_add, i_sub, i_cl, i_m1a, i_m1b, i_m1c, i_m1d, i_m1e, i_am1, i_ite0, m1_le, m1_m1, m1_ge0, not_true_eq_false, not_false_eq_true, or_self, or_false, false_or, or_true, true_or, and_self, and_true, true_and])) ?_)
    refine eN_aload_n (M := ML_areUnlike) (k := 0) rfl dL_areUnlike_176 (pc' := 177) rfl rfl ?_
    refine eN_iload_n (M := ML_areUnlike) (k := 1) rfl dL_areUnlike_177 (pc' := 178) rfl rfl ?_
    refine eN_iload_n (M := ML_areUnlike) (k := 2) rfl dL_areUnlike_178 (pc' := 179) rfl rfl ?_
    refine eN_iload (M := ML_areUnlike) dL_areUnlike_179 (pc' := 181) rfl rfl ?_
    refine eN_iload (M := ML_areUnlike) dL_areUnlike_181 (pc' := 183) rfl rfl ?_
    refine eN_iadd (M := ML_areUnlike) dL_areUnlike_183 (pc' := 184) rfl ?_
    refine (ev_cV3 (M := ML_areUnlike) (kk := 8) dL_areUnlike_184 c_9_26 mX6_byteByCopy rfl rfl (by decide) rfl (pc' := 187) rfl).mpr ⟨(by assumption), (Nat.le_of_ble_eq_true rfl), eN_c c1 (by first | rfl | (simp (disch := omega) only [nI_add, i_sub]) | (simp only [*])) ?_⟩
    refine eN_aload_n (M := ML_areUnlike) (k := 0) rfl dL_areUnlike_187 (pc' := 188) rfl rfl ?_
    refine eN_iload_n (M := ML_areUnlike) (k := 3) rfl dL_areUnlike_188 (pc' := 189) rfl rfl ?_
    refine eN_iload (M := ML_areUnlike) dL_areUnlike_189 (pc' := 191) rfl rfl ?_
    refine eN_iload (M := ML_areUnlike) dL_areUnlike_191 (pc' := 193) rfl rfl ?_
    refine eN_iload (M := ML_areUnlike) dL_areUnlike_193 (pc' := 195) rfl rfl ?_
    refine eN_iadd (M := ML_areUnlike) dL_areUnlike_195 (pc' := 196) rfl ?_
    refine (ev_cV3 (M := ML_areUnlike) (kk := 8) dL_areUnlike_196 c_9_26 mX6_byteByCopy rfl rfl (by decide) rfl (pc' := 199) rfl).mpr ⟨(by assumption), (Nat.le_of_ble_eq_true rfl), eN_c c2 (by first | rfl | (simp (disch := omega) only [nI_add, i_sub]) | (simp only [*])) ?_⟩
    refine (ev_icmp_ne (M := ML_areUnlike) (t := 206) dL_areUnlike_199 (by decide) (pc' := 202) rfl).mpr (ifF (by first | assumption | omega | rfl | exact fun q => q (by assumption) | exact fun q => q rfl | (simp (disch := omega) only [nle_t, nle_f, nlt_t, nlt_f, neq_t, neq_f, i_lt0, i_le0, i_0le, i_0lt, i_eq0, i_lt, i_le, i_eq, nI_add, i_sub, i_cl, i_m1a, i_m1b, i_m1c, i_m1d, i_m1e, i_am1, i_ite0, m1_le, m1_m1, m1_ge0, not_true_eq_false, not_false_eq_true, or_self, or_false, false_or, or_true, true_or, and_self, and_true, true_and])) ?_)
    refine (ev_iconst (M := ML_areUnlike) (v := (nI 1)) rfl dL_areUnlike_202 (pc' := 203) rfl).mpr ?_
    refine (ev_goto (M := ML_areUnlike) (pc' := 207) dL_areUnlike_203 (by decide)).mpr ?_
    refine (ev_istore (M := ML_areUnlike) dL_areUnlike_207 (by decide) (pc' := 209) rfl).mpr ?_
    refine eN_iload (M := ML_areUnlike) dL_areUnlike_209 (pc' := 211) rfl rfl ?_
    refine eN_aload_n (M := ML_areUnlike) (k := 0) rfl dL_areUnlike_211 (pc' := 212) rfl rfl ?_
    refine eN_iload_n (M := ML_areUnlike) (k := 1) rfl dL_areUnlike_212 (pc' := 213) rfl rfl ?_
    refine eN_iload_n (M := ML_areUnlike) (k := 2) rfl dL_areUnlike_213 (pc' := 214) rfl rfl ?_
    refine eN_iload (M := ML_areUnlike) dL_areUnlike_214 (pc' := 216) rfl rfl ?_
    refine eN_iload (M := ML_areUnlike) dL_areUnlike_216 (pc' := 218) rfl rfl ?_
    refine eN_iadd (M := ML_areUnlike) dL_areUnlike_218 (pc' := 219) rfl ?_
    refine (ev_cV3 (M := ML_areUnlike) (kk := 8) dL_areUnlike_219 c_9_26 mX6_byteByCopy rfl rfl (by decide) rfl (pc' := 222) rfl).mpr ⟨(by assumption), (Nat.le_of_ble_eq_true rfl), eN_c c1 (by first | rfl | (simp (disch := omega) only [nI_add, i_sub]) | (simp only [*])) ?_⟩
    refine eN_iadd (M := ML_areUnlike) dL_areUnlike_222 (pc' := 223) rfl ?_
    refine (ev_sipush (M := ML_areUnlike) (v := (nI 251)) rfl dL_areUnlike_223 (pc' := 226) rfl).mpr ?_
    refine eN_irem (M := ML_areUnlike) dL_areUnlike_226 (pc' := 227) rfl (by omega) ?_
    refine (ev_istore (M := ML_areUnlike) dL_areUnlike_227 (by decide) (pc' := 229) rfl).mpr ?_
    refine eN_iload (M := ML_areUnlike) dL_areUnlike_229 (pc' := 231) rfl rfl ?_
    refine eN_iload (M := ML_areUnlike) dL_areUnlike_231 (pc' := 233) rfl rfl ?_
    refine eN_iadd (M := ML_areUnlike) dL_areUnlike_233 (pc' := 234) rfl ?_
    refine (ev_sipush (M := ML_areUnlike) (v := (nI 251)) rfl dL_areUnlike_234 (pc' := 237) rfl).mpr ?_
    refine eN_irem (M := ML_areUnlike) dL_areUnlike_237 (pc' := 238) rfl (by omega) ?_
    refine (ev_istore (M := ML_areUnlike) dL_areUnlike_238 (by decide) (pc' := 240) rfl).mpr ?_
    refine eN_iinc (M := ML_areUnlike) (v := 1) rfl dL_areUnlike_240 (by decide) (pc' := 243) rfl rfl ?_
    refine (ev_goto (M := ML_areUnlike) (pc' := 164) dL_areUnlike_243 (by decide)).mpr ?_
    exact ev_more (by repeat (first | exact trivial | refine ⟨rfl, ?_⟩)) (by exact rfl) (by exact rfl) hq
  · rw [if_neg h] at hu
    subst hu
    refine eN_iload (M := ML_areUnlike) dL_areUnlike_164 (pc' := 166) rfl rfl ?_
    refine eN_iload (M := ML_areUnlike) dL_areUnlike_166 (pc' := 168) rfl rfl ?_
    refine (ev_icmp_ge (M := ML_areUnlike) (t := 246) dL_areUnlike_168 (by decide) (pc' := 171) rfl).mpr (ifF (by first | assumption | omega | rfl | exact fun q => q (by assumption) | exact fun q => q rfl | (simp (disch := omega) only [nle_t, nle_f, nlt_t, nlt_f, neq_t, neq_f, i_lt0, i_le0, i_0le, i_0lt, i_eq0, i_lt, i_le, i_eq, nI_add, i_sub, i_cl, i_m1a, i_m1b, i_m1c, i_m1d, i_m1e, i_am1, i_ite0, m1_le, m1_m1, m1_ge0, not_true_eq_false, not_false_eq_true, or_self, or_false, false_or, or_true, true_or, and_self, and_true, true_and])) ?_)
    refine eN_iload (M := ML_areUnlike) dL_areUnlike_171 (pc' := 173) rfl rfl ?_
    refine (ev_if_eq (M := ML_areUnlike) (t := 206) dL_areUnlike_173 (by decide) (pc' := 176) rfl).mpr (ifF (by first | assumption | omega | rfl | exact fun q => q (by assumption) | exact fun q => q rfl | (simp (disch := omega) only [nle_t, nle_f, nlt_t, nlt_f, neq_t, neq_f, i_lt0, i_le0, i_0le, i_0lt, i_eq0, i_lt, i_le, i_eq, nI_add, i_sub, i_cl, i_m1a, i_m1b, i_m1c, i_m1d, i_m1e, i_am1, i_ite0, m1_le, m1_m1, m1_ge0, not_true_eq_false, not_false_eq_true, or_self, or_false, false_or, or_true, true_or, and_self, and_true, true_and])) ?_)
    refine eN_aload_n (M := ML_areUnlike) (k := 0) rfl dL_areUnlike_176 (pc' := 177) rfl rfl ?_
    refine eN_iload_n (M := ML_areUnlike) (k := 1) rfl dL_areUnlike_177 (pc' := 178) rfl rfl ?_
    refine eN_iload_n (M := ML_areUnlike) (k := 2) rfl dL_areUnlike_178 (pc' := 179) rfl rfl ?_
    refine eN_iload (M := ML_areUnlike) dL_areUnlike_179 (pc' := 181) rfl rfl ?_
    refine eN_iload (M := ML_areUnlike) dL_areUnlike_181 (pc' := 183) rfl rfl ?_
    refine eN_iadd (M := ML_areUnlike) dL_areUnlike_183 (pc' := 184) rfl ?_
    refine (ev_cV3 (M := ML_areUnlike) (kk := 8) dL_areUnlike_184 c_9_26 mX6_byteByCopy rfl rfl (by decide) rfl (pc' := 187) rfl).mpr ⟨(by assumption), (Nat.le_of_ble_eq_true rfl), eN_c c1 (by first | rfl | (simp (disch := omega) only [nI_add, i_sub]) | (simp only [*])) ?_⟩
    refine eN_aload_n (M := ML_areUnlike) (k := 0) rfl dL_areUnlike_187 (pc' := 188) rfl rfl ?_
    refine eN_iload_n (M := ML_areUnlike) (k := 3) rfl dL_areUnlike_188 (pc' := 189) rfl rfl ?_
    refine eN_iload (M := ML_areUnlike) dL_areUnlike_189 (pc' := 191) rfl rfl ?_
    refine eN_iload (M := ML_areUnlike) dL_areUnlike_191 (pc' := 193) rfl rfl ?_
    refine eN_iload (M := ML_areUnlike) dL_areUnlike_193 (pc' := 195) rfl rfl ?_
    refine eN_iadd (M := ML_areUnlike) dL_areUnlike_195 (pc' := 196) rfl ?_
    refine (ev_cV3 (M := ML_areUnlike) (kk := 8) dL_areUnlike_196 c_9_26 mX6_byteByCopy rfl rfl (by decide) rfl (pc' := 199) rfl).mpr ⟨(by assumption), (Nat.le_of_ble_eq_true rfl), eN_c c2 (by first | rfl | (simp (disch := omega) only [nI_add, i_sub]) | (simp only [*])) ?_⟩
    refine (ev_icmp_ne (M := ML_areUnlike) (t := 206) dL_areUnlike_199 (by decide) (pc' := 202) rfl).mpr (ifT (by first | assumption | omega | rfl | exact fun q => q (by assumption) | exact fun q => q rfl | (simp (disch := omega) only [nle_t, nle_f, nlt_t, nlt_f, neq_t, neq_f, i_lt0, i_le0, i_0le, i_0lt, i_eq0, i_lt, i_le, i_eq, nI_add, i_sub, i_cl, i_m1a, i_m1b, i_m1c, i_m1d, i_m1e, i_am1, i_ite0, m1_le, m1_m1, m1_ge0, not_true_eq_false, not_false_eq_true, or_self, or_false, false_or, or_true, true_or, and_self, and_true, true_and])) ?_)
    refine (ev_iconst (M := ML_areUnlike) (v := (nI 0)) rfl dL_areUnlike_206 (pc' := 207) rfl).mpr ?_
    refine (ev_istore (M := ML_areUnlike) dL_areUnlike_207 (by decide) (pc' := 209) rfl).mpr ?_
    refine eN_iload (M := ML_areUnlike) dL_areUnlike_209 (pc' := 211) rfl rfl ?_
    refine eN_aload_n (M := ML_areUnlike) (k := 0) rfl dL_areUnlike_211 (pc' := 212) rfl rfl ?_
    refine eN_iload_n (M := ML_areUnlike) (k := 1) rfl dL_areUnlike_212 (pc' := 213) rfl rfl ?_
    refine eN_iload_n (M := ML_areUnlike) (k := 2) rfl dL_areUnlike_213 (pc' := 214) rfl rfl ?_
    refine eN_iload (M := ML_areUnlike) dL_areUnlike_214 (pc' := 216) rfl rfl ?_
    refine eN_iload (M := ML_areUnlike) dL_areUnlike_216 (pc' := 218) rfl rfl ?_
    refine eN_iadd (M := ML_areUnlike) dL_areUnlike_218 (pc' := 219) rfl ?_
    refine (ev_cV3 (M := ML_areUnlike) (kk := 8) dL_areUnlike_219 c_9_26 mX6_byteByCopy rfl rfl (by decide) rfl (pc' := 222) rfl).mpr ⟨(by assumption), (Nat.le_of_ble_eq_true rfl), eN_c c1 (by first | rfl | (simp (disch := omega) only [nI_add, i_sub]) | (simp only [*])) ?_⟩
    refine eN_iadd (M := ML_areUnlike) dL_areUnlike_222 (pc' := 223) rfl ?_
    refine (ev_sipush (M := ML_areUnlike) (v := (nI 251)) rfl dL_areUnlike_223 (pc' := 226) rfl).mpr ?_
    refine eN_irem (M := ML_areUnlike) dL_areUnlike_226 (pc' := 227) rfl (by omega) ?_
    refine (ev_istore (M := ML_areUnlike) dL_areUnlike_227 (by decide) (pc' := 229) rfl).mpr ?_
    refine eN_iload (M := ML_areUnlike) dL_areUnlike_229 (pc' := 231) rfl rfl ?_
    refine eN_iload (M := ML_areUnlike) dL_areUnlike_231 (pc' := 233) rfl rfl ?_
    refine eN_iadd (M := ML_areUnlike) dL_areUnlike_233 (pc' := 234) rfl ?_
    refine (ev_sipush (M := ML_areUnlike) (v := (nI 251)) rfl dL_areUnlike_234 (pc' := 237) rfl).mpr ?_
    refine eN_irem (M := ML_areUnlike) dL_areUnlike_237 (pc' := 238) rfl (by omega) ?_
    refine (ev_istore (M := ML_areUnlike) dL_areUnlike_238 (by decide) (pc' := 240) rfl).mpr ?_
    refine eN_iinc (M := ML_areUnlike) (v := 1) rfl dL_areUnlike_240 (by decide) (pc' := 243) rfl rfl ?_
    refine (ev_goto (M := ML_areUnlike) (pc' := 164) dL_areUnlike_243 (by decide)).mpr ?_
    exact ev_more (by repeat (first | exact trivial | refine ⟨rfl, ?_⟩)) (by exact rfl) (by exact rfl) hq
theorem Z_un6 {p q x1 : Nat} (k8 : tK T X = 8) (hi : i < l) (hl : l ≤ 32) (hs : s ≤ 1000) (hp : p < 251) (hq9 : q < 251) (h1 : x1 < 256) (c1 : Call (d + 5) 96 [.ref X, .int (nI f), .int (nI v), .int (nI (s + i))] T (.inl (some (.int (nI x1)))) T) (hq : Ev (d + 5) ML_areUnlike [] 164 [(17, .int (nI (i + 1))), (16, .int (nI ((q + (p + x1) % 251) % 251))), (15, .int (nI ((p + x1) % 251))), (14, .int (nI 0)), (13, .int (nI l)), (12, .int (nI t)), (11, .int (nI s)), (10, .int (nI b)), (9, .int (nI a)), (8, .int (nI m)), (7, .int (nI n)), (0, .ref X), (1, .int (nI f)), (2, .int (nI v)), (3, .int (nI g)), (4, .int (nI w)), (5, .int (nI x)), (6, .int (nI y))] [] T Q) : Ev (d + 5) ML_areUnlike [] 164 [(17, .int (nI i)), (16, .int (nI q)), (15, .int (nI p)), (14, .int (nI 0)), (13, .int (nI l)), (12, .int (nI t)), (11, .int (nI s)), (10, .int (nI b)), (9, .int (nI a)), (8, .int (nI m)), (7, .int (nI n)), (0, .ref X), (1, .int (nI f)), (2, .int (nI v)), (3, .int (nI g)), (4, .int (nI w)), (5, .int (nI x)), (6, .int (nI y))] [] T Q := by
  refine eN_iload (M := ML_areUnlike) dL_areUnlike_164 (pc' := 166) rfl rfl ?_
  refine eN_iload (M := ML_areUnlike) dL_areUnlike_166 (pc' := 168) rfl rfl ?_
  refine (ev_icmp_ge (M := ML_areUnlike) (t := 246) dL_areUnlike_168 (by decide) (pc' := 171) rfl).mpr (ifF (by first | assumption | omega | rfl | exact fun q => q (by assumption) | exact fun q => q rfl | (simp (disch := omega) only [nle_t, nle_f, nlt_t, nlt_f, neq_t, neq_f, i_lt0, i_le0, i_0le, i_0lt, i_eq0, i_lt, i_le, i_eq, nI_add, i_sub, i_cl, i_m1a, i_m1b, i_m1c, i_m1d, i_m1e, i_am1, i_ite0, m1_le, m1_m1, m1_ge0, not_true_eq_false, not_false_eq_true, or_self, or_false, false_or, or_true, true_or, and_self, and_true, true_and])) ?_)
  refine eN_iload (M := ML_areUnlike) dL_areUnlike_171 (pc' := 173) rfl rfl ?_
  refine (ev_if_eq (M := ML_areUnlike) (t := 206) dL_areUnlike_173 (by decide) (pc' := 176) rfl).mpr (ifT (by first | assumption | omega | rfl | exact fun q => q (by assumption) | exact fun q => q rfl | (simp (disch := omega) only [nle_t, nle_f, nlt_t, nlt_f, neq_t, neq_f, i_lt0, i_le0, i_0le, i_0lt, i_eq0, i_lt, i_le, i_eq, nI_add, i_sub, i_cl, i_m1a, i_m1b, i_m1c, i_m1d, i_m1e, i_am1, i_ite0, m1_le, m1_m1, m1_ge0, not_true_eq_false, not_false_eq_true, or_self, or_false, false_or, or_true, true_or, and_self, and_true, true_and])) ?_)
  refine (ev_iconst (M := ML_areUnlike) (v := (nI 0)) rfl dL_areUnlike_206 (pc' := 207) rfl).mpr ?_
  refine (ev_istore (M := ML_areUnlike) dL_areUnlike_207 (by decide) (pc' := 209) rfl).mpr ?_
  refine eN_iload (M := ML_areUnlike) dL_areUnlike_209 (pc' := 211) rfl rfl ?_
  refine eN_aload_n (M := ML_areUnlike) (k := 0) rfl dL_areUnlike_211 (pc' := 212) rfl rfl ?_
  refine eN_iload_n (M := ML_areUnlike) (k := 1) rfl dL_areUnlike_212 (pc' := 213) rfl rfl ?_
  refine eN_iload_n (M := ML_areUnlike) (k := 2) rfl dL_areUnlike_213 (pc' := 214) rfl rfl ?_
  refine eN_iload (M := ML_areUnlike) dL_areUnlike_214 (pc' := 216) rfl rfl ?_
  refine eN_iload (M := ML_areUnlike) dL_areUnlike_216 (pc' := 218) rfl rfl ?_
  refine eN_iadd (M := ML_areUnlike) dL_areUnlike_218 (pc' := 219) rfl ?_
  refine (ev_cV3 (M := ML_areUnlike) (kk := 8) dL_areUnlike_219 c_9_26 mX6_byteByCopy rfl rfl (by decide) rfl (pc' := 222) rfl).mpr ⟨(by assumption), (Nat.le_of_ble_eq_true rfl), eN_c c1 (by first | rfl | (simp (disch := omega) only [nI_add, i_sub]) | (simp only [*])) ?_⟩
  refine eN_iadd (M := ML_areUnlike) dL_areUnlike_222 (pc' := 223) rfl ?_
  refine (ev_sipush (M := ML_areUnlike) (v := (nI 251)) rfl dL_areUnlike_223 (pc' := 226) rfl).mpr ?_
  refine eN_irem (M := ML_areUnlike) dL_areUnlike_226 (pc' := 227) rfl (by omega) ?_
  refine (ev_istore (M := ML_areUnlike) dL_areUnlike_227 (by decide) (pc' := 229) rfl).mpr ?_
  refine eN_iload (M := ML_areUnlike) dL_areUnlike_229 (pc' := 231) rfl rfl ?_
  refine eN_iload (M := ML_areUnlike) dL_areUnlike_231 (pc' := 233) rfl rfl ?_
  refine eN_iadd (M := ML_areUnlike) dL_areUnlike_233 (pc' := 234) rfl ?_
  refine (ev_sipush (M := ML_areUnlike) (v := (nI 251)) rfl dL_areUnlike_234 (pc' := 237) rfl).mpr ?_
  refine eN_irem (M := ML_areUnlike) dL_areUnlike_237 (pc' := 238) rfl (by omega) ?_
  refine (ev_istore (M := ML_areUnlike) dL_areUnlike_238 (by decide) (pc' := 240) rfl).mpr ?_
  refine eN_iinc (M := ML_areUnlike) (v := 1) rfl dL_areUnlike_240 (by decide) (pc' := 243) rfl rfl ?_
  refine (ev_goto (M := ML_areUnlike) (pc' := 164) dL_areUnlike_243 (by decide)).mpr ?_
  exact ev_more (by repeat (first | exact trivial | refine ⟨rfl, ?_⟩)) (by exact rfl) (by exact rfl) hq
theorem Z_un7 {u p q e' : Nat} (k8 : tK T X = 8) (hl : l ≤ 32) (hp : p < 251) (hq9 : q < 251) (he : e < 1000000) (he' : e' < 1000000) (hu : u = if e = e' then 1 else 0) (c1 : Call (d + 5) 98 [.ref X, .int (nI f), .int (nI v), .int (nI a)] T (.inl (some (.int (nI e)))) T) (c3 : Call (d + 5) 98 [.ref X, .int (nI g), .int (nI w), .int (nI b)] T (.inl (some (.int (nI e')))) T) (c2 : Call (d + 5) 105 [.ref X, .int (nI e)] T (.inl (some (.int (nI (256 * q + p))))) T) (hQ : Q (.inl (some (.int (nI 1)))) T) : Ev (d + 5) ML_areUnlike [] 164 [(17, .int (nI l)), (16, .int (nI q)), (15, .int (nI p)), (14, .int (nI u)), (13, .int (nI l)), (12, .int (nI t)), (11, .int (nI s)), (10, .int (nI b)), (9, .int (nI a)), (8, .int (nI m)), (7, .int (nI n)), (0, .ref X), (1, .int (nI f)), (2, .int (nI v)), (3, .int (nI g)), (4, .int (nI w)), (5, .int (nI x)), (6, .int (nI y))] [] T Q := by
  by_cases h : e = e'
  · rw [if_pos h] at hu
    subst hu
    refine eN_iload (M := ML_areUnlike) dL_areUnlike_164 (pc' := 166) rfl rfl ?_
    refine eN_iload (M := ML_areUnlike) dL_areUnlike_166 (pc' := 168) rfl rfl ?_
    refine (ev_icmp_ge (M := ML_areUnlike) (t := 246) dL_areUnlike_168 (by decide) (pc' := 171) rfl).mpr (ifT (by first | assumption | omega | rfl | exact fun q => q (by assumption) | exact fun q => q rfl | (simp (disch := omega) only [nle_t, nle_f, nlt_t, nlt_f, neq_t, neq_f, i_lt0, i_le0, i_0le, i_0lt, i_eq0, i_lt, i_le, i_eq, nI_add, i_sub, i_cl, i_m1a, i_m1b, i_m1c, i_m1d, i_m1e, i_am1, i_ite0, m1_le, m1_m1, m1_ge0, not_true_eq_false, not_false_eq_true, or_self, or_false, false_or, or_true, true_or, and_self, and_true, true_and])) ?_)
    refine eN_iload (M := ML_areUnlike) dL_areUnlike_246 (pc' := 248) rfl rfl ?_
    refine eN_aload_n (M := ML_areUnlike) (k := 0) rfl dL_areUnlike_248 (pc' := 249) rfl rfl ?_
    refine eN_iload_n (M := ML_areUnlike) (k := 1) rfl dL_areUnlike_249 (pc' := 250) rfl rfl ?_
    refine eN_iload_n (M := ML_areUnlike) (k := 2) rfl dL_areUnlike_250 (pc' := 251) rfl rfl ?_
    refine eN_iload (M := ML_areUnlike) dL_areUnlike_251 (pc' := 253) rfl rfl ?_
    refine (ev_cV3 (M := ML_areUnlike) (kk := 8) dL_areUnlike_253 c_9_32 mX6_chunkAt rfl rfl (by decide) rfl (pc' := 256) rfl).mpr ⟨(by assumption), (Nat.le_of_ble_eq_true rfl), eN_c c1 (by first | rfl | (simp (disch := omega) only [nI_add, i_sub]) | (simp only [*])) ?_⟩
    refine eN_aload_n (M := ML_areUnlike) (k := 0) rfl dL_areUnlike_256 (pc' := 257) rfl rfl ?_
    refine eN_iload_n (M := ML_areUnlike) (k := 3) rfl dL_areUnlike_257 (pc' := 258) rfl rfl ?_
    refine eN_iload (M := ML_areUnlike) dL_areUnlike_258 (pc' := 260) rfl rfl ?_
    refine eN_iload (M := ML_areUnlike) dL_areUnlike_260 (pc' := 262) rfl rfl ?_
    refine (ev_cV3 (M := ML_areUnlike) (kk := 8) dL_areUnlike_262 c_9_32 mX6_chunkAt rfl rfl (by decide) rfl (pc' := 265) rfl).mpr ⟨(by assumption), (Nat.le_of_ble_eq_true rfl), eN_c c3 (by first | rfl | (simp (disch := omega) only [nI_add, i_sub]) | (simp only [*])) ?_⟩
    refine (ev_icmp_ne (M := ML_areUnlike) (t := 272) dL_areUnlike_265 (by decide) (pc' := 268) rfl).mpr (ifF (by first | assumption | omega | rfl | exact fun q => q (by assumption) | exact fun q => q rfl | (simp (disch := omega) only [nle_t, nle_f, nlt_t, nlt_f, neq_t, neq_f, i_lt0, i_le0, i_0le, i_0lt, i_eq0, i_lt, i_le, i_eq, nI_add, i_sub, i_cl, i_m1a, i_m1b, i_m1c, i_m1d, i_m1e, i_am1, i_ite0, m1_le, m1_m1, m1_ge0, not_true_eq_false, not_false_eq_true, or_self, or_false, false_or, or_true, true_or, and_self, and_true, true_and])) ?_)
    refine (ev_iconst (M := ML_areUnlike) (v := (nI 1)) rfl dL_areUnlike_268 (pc' := 269) rfl).mpr ?_
    refine (ev_goto (M := ML_areUnlike) (pc' := 273) dL_areUnlike_269 (by decide)).mpr ?_
    refine (ev_icmp_ne (M := ML_areUnlike) (t := 304) dL_areUnlike_273 (by decide) (pc' := 276) rfl).mpr (ifF (by first | assumption | omega | rfl | exact fun q => q (by assumption) | exact fun q => q rfl | (simp (disch := omega) only [nle_t, nle_f, nlt_t, nlt_f, neq_t, neq_f, i_lt0, i_le0, i_0le, i_0lt, i_eq0, i_lt, i_le, i_eq, nI_add, i_sub, i_cl, i_m1a, i_m1b, i_m1c, i_m1d, i_m1e, i_am1, i_ite0, m1_le, m1_m1, m1_ge0, not_true_eq_false, not_false_eq_true, or_self, or_false, false_or, or_true, true_or, and_self, and_true, true_and])) ?_)
    refine eN_aload_n (M := ML_areUnlike) (k := 0) rfl dL_areUnlike_276 (pc' := 277) rfl rfl ?_
    refine eN_aload_n (M := ML_areUnlike) (k := 0) rfl dL_areUnlike_277 (pc' := 278) rfl rfl ?_
    refine eN_iload_n (M := ML_areUnlike) (k := 1) rfl dL_areUnlike_278 (pc' := 279) rfl rfl ?_
    refine eN_iload_n (M := ML_areUnlike) (k := 2) rfl dL_areUnlike_279 (pc' := 280) rfl rfl ?_
    refine eN_iload (M := ML_areUnlike) dL_areUnlike_280 (pc' := 282) rfl rfl ?_
    refine (ev_cV3 (M := ML_areUnlike) (kk := 8) dL_areUnlike_282 c_9_32 mX6_chunkAt rfl rfl (by decide) rfl (pc' := 285) rfl).mpr ⟨(by assumption), (Nat.le_of_ble_eq_true rfl), eN_c c1 (by first | rfl | (simp (disch := omega) only [nI_add, i_sub]) | (simp only [*])) ?_⟩
    refine (ev_cV1 (M := ML_areUnlike) (kk := 8) dL_areUnlike_285 c_9_48 mX6_fingerprint rfl rfl (by decide) rfl (pc' := 288) rfl).mpr ⟨(by assumption), (Nat.le_of_ble_eq_true rfl), eN_c c2 (by first | rfl | (simp (disch := omega) only [nI_add, i_sub]) | (simp only [*])) ?_⟩
    refine (ev_sipush (M := ML_areUnlike) (v := (nI 256)) rfl dL_areUnlike_288 (pc' := 291) rfl).mpr ?_
    refine eN_iload (M := ML_areUnlike) dL_areUnlike_291 (pc' := 293) rfl rfl ?_
    refine eN_imul (M := ML_areUnlike) dL_areUnlike_293 (pc' := 294) rfl ?_
    refine eN_iload (M := ML_areUnlike) dL_areUnlike_294 (pc' := 296) rfl rfl ?_
    refine eN_iadd (M := ML_areUnlike) dL_areUnlike_296 (pc' := 297) rfl ?_
    refine (ev_icmp_ne (M := ML_areUnlike) (t := 304) dL_areUnlike_297 (by decide) (pc' := 300) rfl).mpr (ifF (by first | assumption | omega | rfl | exact fun q => q (by assumption) | exact fun q => q rfl | (simp (disch := omega) only [nle_t, nle_f, nlt_t, nlt_f, neq_t, neq_f, i_lt0, i_le0, i_0le, i_0lt, i_eq0, i_lt, i_le, i_eq, nI_add, i_sub, i_cl, i_m1a, i_m1b, i_m1c, i_m1d, i_m1e, i_am1, i_ite0, m1_le, m1_m1, m1_ge0, not_true_eq_false, not_false_eq_true, or_self, or_false, false_or, or_true, true_or, and_self, and_true, true_and])) ?_)
    refine (ev_iconst (M := ML_areUnlike) (v := (nI 1)) rfl dL_areUnlike_300 (pc' := 301) rfl).mpr ?_
    refine (ev_goto (M := ML_areUnlike) (pc' := 305) dL_areUnlike_301 (by decide)).mpr ?_
    refine (ev_zretI (M := ML_areUnlike) rfl dL_areUnlike_305 (by omega)).mpr ?_
    exact hQ
  · rw [if_neg h] at hu
    subst hu
    refine eN_iload (M := ML_areUnlike) dL_areUnlike_164 (pc' := 166) rfl rfl ?_
    refine eN_iload (M := ML_areUnlike) dL_areUnlike_166 (pc' := 168) rfl rfl ?_
    refine (ev_icmp_ge (M := ML_areUnlike) (t := 246) dL_areUnlike_168 (by decide) (pc' := 171) rfl).mpr (ifT (by first | assumption | omega | rfl | exact fun q => q (by assumption) | exact fun q => q rfl | (simp (disch := omega) only [nle_t, nle_f, nlt_t, nlt_f, neq_t, neq_f, i_lt0, i_le0, i_0le, i_0lt, i_eq0, i_lt, i_le, i_eq, nI_add, i_sub, i_cl, i_m1a, i_m1b, i_m1c, i_m1d, i_m1e, i_am1, i_ite0, m1_le, m1_m1, m1_ge0, not_true_eq_false, not_false_eq_true, or_self, or_false, false_or, or_true, true_or, and_self, and_true, true_and])) ?_)
    refine eN_iload (M := ML_areUnlike) dL_areUnlike_246 (pc' := 248) rfl rfl ?_
    refine eN_aload_n (M := ML_areUnlike) (k := 0) rfl dL_areUnlike_248 (pc' := 249) rfl rfl ?_
    refine eN_iload_n (M := ML_areUnlike) (k := 1) rfl dL_areUnlike_249 (pc' := 250) rfl rfl ?_
    refine eN_iload_n (M := ML_areUnlike) (k := 2) rfl dL_areUnlike_250 (pc' := 251) rfl rfl ?_
    refine eN_iload (M := ML_areUnlike) dL_areUnlike_251 (pc' := 253) rfl rfl ?_
    refine (ev_cV3 (M := ML_areUnlike) (kk := 8) dL_areUnlike_253 c_9_32 mX6_chunkAt rfl rfl (by decide) rfl (pc' := 256) rfl).mpr ⟨(by assumption), (Nat.le_of_ble_eq_true rfl), eN_c c1 (by first | rfl | (simp (disch := omega) only [nI_add, i_sub]) | (simp only [*])) ?_⟩
    refine eN_aload_n (M := ML_areUnlike) (k := 0) rfl dL_areUnlike_256 (pc' := 257) rfl rfl ?_
    refine eN_iload_n (M := ML_areUnlike) (k := 3) rfl dL_areUnlike_257 (pc' := 258) rfl rfl ?_
    refine eN_iload (M := ML_areUnlike) dL_areUnlike_258 (pc' := 260) rfl rfl ?_
    refine eN_iload (M := ML_areUnlike) dL_areUnlike_260 (pc' := 262) rfl rfl ?_
    refine (ev_cV3 (M := ML_areUnlike) (kk := 8) dL_areUnlike_262 c_9_32 mX6_chunkAt rfl rfl (by decide) rfl (pc' := 265) rfl).mpr ⟨(by assumption), (Nat.le_of_ble_eq_true rfl), eN_c c3 (by first | rfl | (simp (disch := omega) only [nI_add, i_sub]) | (simp only [*])) ?_⟩
    refine (ev_icmp_ne (M := ML_areUnlike) (t := 272) dL_areUnlike_265 (by decide) (pc' := 268) rfl).mpr (ifT (by first | assumption | omega | rfl | exact fun q => q (by assumption) | exact fun q => q rfl | (simp (disch := omega) only [nle_t, nle_f, nlt_t, nlt_f, neq_t, neq_f, i_lt0, i_le0, i_0le, i_0lt, i_eq0, i_lt, i_le, i_eq, nI_add, i_sub, i_cl, i_m1a, i_m1b, i_m1c, i_m1d, i_m1e, i_am1, i_ite0, m1_le, m1_m1, m1_ge0, not_true_eq_false, not_false_eq_true, or_self, or_false, false_or, or_true, true_or, and_self, and_true, true_and])) ?_)
    refine (ev_iconst (M := ML_areUnlike) (v := (nI 0)) rfl dL_areUnlike_272 (pc' := 273) rfl).mpr ?_
    refine (ev_icmp_ne (M := ML_areUnlike) (t := 304) dL_areUnlike_273 (by decide) (pc' := 276) rfl).mpr (ifF (by first | assumption | omega | rfl | exact fun q => q (by assumption) | exact fun q => q rfl | (simp (disch := omega) only [nle_t, nle_f, nlt_t, nlt_f, neq_t, neq_f, i_lt0, i_le0, i_0le, i_0lt, i_eq0, i_lt, i_le, i_eq, nI_add, i_sub, i_cl, i_m1a, i_m1b, i_m1c, i_m1d, i_m1e, i_am1, i_ite0, m1_le, m1_m1, m1_ge0, not_true_eq_false, not_false_eq_true, or_self, or_false, false_or, or_true, true_or, and_self, and_true, true_and])) ?_)
    refine eN_aload_n (M := ML_areUnlike) (k := 0) rfl dL_areUnlike_276 (pc' := 277) rfl rfl ?_
    refine eN_aload_n (M := ML_areUnlike) (k := 0) rfl dL_areUnlike_277 (pc' := 278) rfl rfl ?_
    refine eN_iload_n (M := ML_areUnlike) (k := 1) rfl dL_areUnlike_278 (pc' := 279) rfl rfl ?_
    refine eN_iload_n (M := ML_areUnlike) (k := 2) rfl dL_areUnlike_279 (pc' := 280) rfl rfl ?_
    refine eN_iload (M := ML_areUnlike) dL_areUnlike_280 (pc' := 282) rfl rfl ?_
    refine (ev_cV3 (M := ML_areUnlike) (kk := 8) dL_areUnlike_282 c_9_32 mX6_chunkAt rfl rfl (by decide) rfl (pc' := 285) rfl).mpr ⟨(by assumption), (Nat.le_of_ble_eq_true rfl), eN_c c1 (by first | rfl | (simp (disch := omega) only [nI_add, i_sub]) | (simp only [*])) ?_⟩
    refine (ev_cV1 (M := ML_areUnlike) (kk := 8) dL_areUnlike_285 c_9_48 mX6_fingerprint rfl rfl (by decide) rfl (pc' := 288) rfl).mpr ⟨(by assumption), (Nat.le_of_ble_eq_true rfl), eN_c c2 (by first | rfl | (simp (disch := omega) only [nI_add, i_sub]) | (simp only [*])) ?_⟩
    refine (ev_sipush (M := ML_areUnlike) (v := (nI 256)) rfl dL_areUnlike_288 (pc' := 291) rfl).mpr ?_
    refine eN_iload (M := ML_areUnlike) dL_areUnlike_291 (pc' := 293) rfl rfl ?_
    refine eN_imul (M := ML_areUnlike) dL_areUnlike_293 (pc' := 294) rfl ?_
    refine eN_iload (M := ML_areUnlike) dL_areUnlike_294 (pc' := 296) rfl rfl ?_
    refine eN_iadd (M := ML_areUnlike) dL_areUnlike_296 (pc' := 297) rfl ?_
    refine (ev_icmp_ne (M := ML_areUnlike) (t := 304) dL_areUnlike_297 (by decide) (pc' := 300) rfl).mpr (ifF (by first | assumption | omega | rfl | exact fun q => q (by assumption) | exact fun q => q rfl | (simp (disch := omega) only [nle_t, nle_f, nlt_t, nlt_f, neq_t, neq_f, i_lt0, i_le0, i_0le, i_0lt, i_eq0, i_lt, i_le, i_eq, nI_add, i_sub, i_cl, i_m1a, i_m1b, i_m1c, i_m1d, i_m1e, i_am1, i_ite0, m1_le, m1_m1, m1_ge0, not_true_eq_false, not_false_eq_true, or_self, or_false, false_or, or_true, true_or, and_self, and_true, true_and])) ?_)
    refine (ev_iconst (M := ML_areUnlike) (v := (nI 1)) rfl dL_areUnlike_300 (pc' := 301) rfl).mpr ?_
    refine (ev_goto (M := ML_areUnlike) (pc' := 305) dL_areUnlike_301 (by decide)).mpr ?_
    refine (ev_zretI (M := ML_areUnlike) rfl dL_areUnlike_305 (by omega)).mpr ?_
    exact hQ
end Z
theorem C_areUnlike {k k' x y : Nat} (h : LV T X va ba ca dr kl vf vn vb ve vp nx sv cb us bl co op cs hi re st rw bx ud) (hk : k ∈ kl) (hk' : k' ∈ kl) (hx : x < 2147483648) (hy : y < 2147483648) : Call (d + 6) 135 [.ref X, .int (nI (vf k)), .int (nI (vn k)), .int (nI (vf k')), .int (nI (vn k')), .int (nI x), .int (nI y)] T (.inl (some (.int (nI 1)))) T := by
  have k8 := h.k8
  have c1 := h.chunksOf (d := d + 1) hk
  have c1' := h.chunksOf (d := d + 1) hk'
  have c2 := fun i hi => h.chunkAt (d := d + 1) (j := i) hk hi
  have c2' := fun i hi => h.chunkAt (d := d + 1) (j := i) hk' hi
  have c3 := fun n hn => h.chunkLength (d := d) (n := n) hn
  have c4 := fun i hi => h.byCopy (d := d + 1) (j := i) hk hi
  have c4' := fun i hi => h.byCopy (d := d + 1) (j := i) hk' hi
  obtain ⟨hl, hel⟩ := h.lens hk
  obtain ⟨hl', hel'⟩ := h.lens hk'
  have hb := h.bytes hk
  have hb' := h.bytes hk'
  have her := h.ents hk
  have her' := h.ents hk'
  have hbg := beg_is 0 (ve k) (Nat.zero_le _) (h.pieces hk)
  have hbg' := beg_is 0 (ve k') (Nat.zero_le _) (h.pieces hk')
  have hr := h.rwl
  have h32 : ∀ n ∈ rw, (cb n).length ≤ 32 := fun n hn => (h.2.2.1.2.2.1 n hn).2.2.1
  have hun := h.2.2.1.2.2.2.1
  refine Call_of ?_
  by_cases h0 : (ve k).length = 0
  · rw [h0] at c1
    rw [uL_areUnlike]
    refine eN_aload_n (M := ML_areUnlike) (k := 0) rfl dL_areUnlike_0 (pc' := 1) rfl rfl ?_
    refine eN_iload_n (M := ML_areUnlike) (k := 1) rfl dL_areUnlike_1 (pc' := 2) rfl rfl ?_
    refine eN_iload_n (M := ML_areUnlike) (k := 2) rfl dL_areUnlike_2 (pc' := 3) rfl rfl ?_
    refine (ev_cV2 (M := ML_areUnlike) (kk := 8) dL_areUnlike_3 c_9_29 mX6_chunksOf rfl rfl (by decide) rfl (pc' := 6) rfl).mpr ⟨(by assumption), (Nat.le_of_ble_eq_true rfl), eN_c c1 (by first | rfl | (simp (disch := omega) only [nI_add, i_sub]) | (simp only [*])) ?_⟩
    refine (ev_istore (M := ML_areUnlike) dL_areUnlike_6 (by decide) (pc' := 8) rfl).mpr ?_
    refine eN_aload_n (M := ML_areUnlike) (k := 0) rfl dL_areUnlike_8 (pc' := 9) rfl rfl ?_
    refine eN_iload_n (M := ML_areUnlike) (k := 3) rfl dL_areUnlike_9 (pc' := 10) rfl rfl ?_
    refine eN_iload (M := ML_areUnlike) dL_areUnlike_10 (pc' := 12) rfl rfl ?_
    refine (ev_cV2 (M := ML_areUnlike) (kk := 8) dL_areUnlike_12 c_9_29 mX6_chunksOf rfl rfl (by decide) rfl (pc' := 15) rfl).mpr ⟨(by assumption), (Nat.le_of_ble_eq_true rfl), eN_c c1' (by first | rfl | (simp (disch := omega) only [nI_add, i_sub]) | (simp only [*])) ?_⟩
    refine (ev_istore (M := ML_areUnlike) dL_areUnlike_15 (by decide) (pc' := 17) rfl).mpr ?_
    refine eN_iload (M := ML_areUnlike) dL_areUnlike_17 (pc' := 19) rfl rfl ?_
    refine (ev_if_eq (M := ML_areUnlike) (t := 27) dL_areUnlike_19 (by decide) (pc' := 22) rfl).mpr (ifT (by first | assumption | omega | rfl | exact fun q => q (by assumption) | exact fun q => q rfl | (simp (disch := omega) only [nle_t, nle_f, nlt_t, nlt_f, neq_t, neq_f, i_lt0, i_le0, i_0le, i_0lt, i_eq0, i_lt, i_le, i_eq, nI_add, i_sub, i_cl, i_m1a, i_m1b, i_m1c, i_m1d, i_m1e, i_am1, i_ite0, m1_le, m1_m1, m1_ge0, not_true_eq_false, not_false_eq_true, or_self, or_false, false_or, or_true, true_or, and_self, and_true, true_and])) ?_)
    refine (ev_iconst (M := ML_areUnlike) (v := (nI 1)) rfl dL_areUnlike_27 (pc' := 28) rfl).mpr ?_
    refine (ev_zretI (M := ML_areUnlike) rfl dL_areUnlike_28 (by omega)).mpr ?_
    exact ⟨rfl, rfl⟩
  by_cases h0' : (ve k').length = 0
  · rw [h0'] at c1'
    rw [uL_areUnlike]
    refine eN_aload_n (M := ML_areUnlike) (k := 0) rfl dL_areUnlike_0 (pc' := 1) rfl rfl ?_
    refine eN_iload_n (M := ML_areUnlike) (k := 1) rfl dL_areUnlike_1 (pc' := 2) rfl rfl ?_
    refine eN_iload_n (M := ML_areUnlike) (k := 2) rfl dL_areUnlike_2 (pc' := 3) rfl rfl ?_
    refine (ev_cV2 (M := ML_areUnlike) (kk := 8) dL_areUnlike_3 c_9_29 mX6_chunksOf rfl rfl (by decide) rfl (pc' := 6) rfl).mpr ⟨(by assumption), (Nat.le_of_ble_eq_true rfl), eN_c c1 (by first | rfl | (simp (disch := omega) only [nI_add, i_sub]) | (simp only [*])) ?_⟩
    refine (ev_istore (M := ML_areUnlike) dL_areUnlike_6 (by decide) (pc' := 8) rfl).mpr ?_
    refine eN_aload_n (M := ML_areUnlike) (k := 0) rfl dL_areUnlike_8 (pc' := 9) rfl rfl ?_
    refine eN_iload_n (M := ML_areUnlike) (k := 3) rfl dL_areUnlike_9 (pc' := 10) rfl rfl ?_
    refine eN_iload (M := ML_areUnlike) dL_areUnlike_10 (pc' := 12) rfl rfl ?_
    refine (ev_cV2 (M := ML_areUnlike) (kk := 8) dL_areUnlike_12 c_9_29 mX6_chunksOf rfl rfl (by decide) rfl (pc' := 15) rfl).mpr ⟨(by assumption), (Nat.le_of_ble_eq_true rfl), eN_c c1' (by first | rfl | (simp (disch := omega) only [nI_add, i_sub]) | (simp only [*])) ?_⟩
    refine (ev_istore (M := ML_areUnlike) dL_areUnlike_15 (by decide) (pc' := 17) rfl).mpr ?_
    refine eN_iload (M := ML_areUnlike) dL_areUnlike_17 (pc' := 19) rfl rfl ?_
    refine (ev_if_eq (M := ML_areUnlike) (t := 27) dL_areUnlike_19 (by decide) (pc' := 22) rfl).mpr (ifF (by first | assumption | omega | rfl | exact fun q => q (by assumption) | exact fun q => q rfl | (simp (disch := omega) only [nle_t, nle_f, nlt_t, nlt_f, neq_t, neq_f, i_lt0, i_le0, i_0le, i_0lt, i_eq0, i_lt, i_le, i_eq, nI_add, i_sub, i_cl, i_m1a, i_m1b, i_m1c, i_m1d, i_m1e, i_am1, i_ite0, m1_le, m1_m1, m1_ge0, not_true_eq_false, not_false_eq_true, or_self, or_false, false_or, or_true, true_or, and_self, and_true, true_and])) ?_)
    refine eN_iload (M := ML_areUnlike) dL_areUnlike_22 (pc' := 24) rfl rfl ?_
    refine (ev_if_ne (M := ML_areUnlike) (t := 29) dL_areUnlike_24 (by decide) (pc' := 27) rfl).mpr (ifF (by first | assumption | omega | rfl | exact fun q => q (by assumption) | exact fun q => q rfl | (simp (disch := omega) only [nle_t, nle_f, nlt_t, nlt_f, neq_t, neq_f, i_lt0, i_le0, i_0le, i_0lt, i_eq0, i_lt, i_le, i_eq, nI_add, i_sub, i_cl, i_m1a, i_m1b, i_m1c, i_m1d, i_m1e, i_am1, i_ite0, m1_le, m1_m1, m1_ge0, not_true_eq_false, not_false_eq_true, or_self, or_false, false_or, or_true, true_or, and_self, and_true, true_and])) ?_)
    refine (ev_iconst (M := ML_areUnlike) (v := (nI 1)) rfl dL_areUnlike_27 (pc' := 28) rfl).mpr ?_
    refine (ev_zretI (M := ML_areUnlike) rfl dL_areUnlike_28 (by omega)).mpr ?_
    exact ⟨rfl, rfl⟩
  have ha : x % (ve k).length < (ve k).length := Nat.mod_lt _ (by omega)
  have hb9 : y % (ve k').length < (ve k').length := Nat.mod_lt _ (by omega)
  rw [uL_areUnlike]
  refine eN_aload_n (M := ML_areUnlike) (k := 0) rfl dL_areUnlike_0 (pc' := 1) rfl rfl ?_
  refine eN_iload_n (M := ML_areUnlike) (k := 1) rfl dL_areUnlike_1 (pc' := 2) rfl rfl ?_
  refine eN_iload_n (M := ML_areUnlike) (k := 2) rfl dL_areUnlike_2 (pc' := 3) rfl rfl ?_
  refine (ev_cV2 (M := ML_areUnlike) (kk := 8) dL_areUnlike_3 c_9_29 mX6_chunksOf rfl rfl (by decide) rfl (pc' := 6) rfl).mpr ⟨(by assumption), (Nat.le_of_ble_eq_true rfl), eN_c c1 (by first | rfl | (simp (disch := omega) only [nI_add, i_sub]) | (simp only [*])) ?_⟩
  refine (ev_istore (M := ML_areUnlike) dL_areUnlike_6 (by decide) (pc' := 8) rfl).mpr ?_
  refine eN_aload_n (M := ML_areUnlike) (k := 0) rfl dL_areUnlike_8 (pc' := 9) rfl rfl ?_
  refine eN_iload_n (M := ML_areUnlike) (k := 3) rfl dL_areUnlike_9 (pc' := 10) rfl rfl ?_
  refine eN_iload (M := ML_areUnlike) dL_areUnlike_10 (pc' := 12) rfl rfl ?_
  refine (ev_cV2 (M := ML_areUnlike) (kk := 8) dL_areUnlike_12 c_9_29 mX6_chunksOf rfl rfl (by decide) rfl (pc' := 15) rfl).mpr ⟨(by assumption), (Nat.le_of_ble_eq_true rfl), eN_c c1' (by first | rfl | (simp (disch := omega) only [nI_add, i_sub]) | (simp only [*])) ?_⟩
  refine (ev_istore (M := ML_areUnlike) dL_areUnlike_15 (by decide) (pc' := 17) rfl).mpr ?_
  refine eN_iload (M := ML_areUnlike) dL_areUnlike_17 (pc' := 19) rfl rfl ?_
  refine (ev_if_eq (M := ML_areUnlike) (t := 27) dL_areUnlike_19 (by decide) (pc' := 22) rfl).mpr (ifF (by first | assumption | omega | rfl | exact fun q => q (by assumption) | exact fun q => q rfl | (simp (disch := omega) only [nle_t, nle_f, nlt_t, nlt_f, neq_t, neq_f, i_lt0, i_le0, i_0le, i_0lt, i_eq0, i_lt, i_le, i_eq, nI_add, i_sub, i_cl, i_m1a, i_m1b, i_m1c, i_m1d, i_m1e, i_am1, i_ite0, m1_le, m1_m1, m1_ge0, not_true_eq_false, not_false_eq_true, or_self, or_false, false_or, or_true, true_or, and_self, and_true, true_and])) ?_)
  refine eN_iload (M := ML_areUnlike) dL_areUnlike_22 (pc' := 24) rfl rfl ?_
  refine (ev_if_ne (M := ML_areUnlike) (t := 29) dL_areUnlike_24 (by decide) (pc' := 27) rfl).mpr (ifT (by first | assumption | omega | rfl | exact fun q => q (by assumption) | exact fun q => q rfl | (simp (disch := omega) only [nle_t, nle_f, nlt_t, nlt_f, neq_t, neq_f, i_lt0, i_le0, i_0le, i_0lt, i_eq0, i_lt, i_le, i_eq, nI_add, i_sub, i_cl, i_m1a, i_m1b, i_m1c, i_m1d, i_m1e, i_am1, i_ite0, m1_le, m1_m1, m1_ge0, not_true_eq_false, not_false_eq_true, or_self, or_false, false_or, or_true, true_or, and_self, and_true, true_and])) ?_)
  refine eN_iload (M := ML_areUnlike) dL_areUnlike_29 (pc' := 31) rfl rfl ?_
  refine eN_iload (M := ML_areUnlike) dL_areUnlike_31 (pc' := 33) rfl rfl ?_
  refine eN_irem (M := ML_areUnlike) dL_areUnlike_33 (pc' := 34) rfl (by omega) ?_
  refine (ev_istore (M := ML_areUnlike) dL_areUnlike_34 (by decide) (pc' := 36) rfl).mpr ?_
  refine eN_iload (M := ML_areUnlike) dL_areUnlike_36 (pc' := 38) rfl rfl ?_
  refine eN_iload (M := ML_areUnlike) dL_areUnlike_38 (pc' := 40) rfl rfl ?_
  refine eN_irem (M := ML_areUnlike) dL_areUnlike_40 (pc' := 41) rfl (by omega) ?_
  refine (ev_istore (M := ML_areUnlike) dL_areUnlike_41 (by decide) (pc' := 43) rfl).mpr ?_
  refine (ev_iconst (M := ML_areUnlike) (v := (nI 0)) rfl dL_areUnlike_43 (pc' := 44) rfl).mpr ?_
  refine (ev_istore (M := ML_areUnlike) dL_areUnlike_44 (by decide) (pc' := 46) rfl).mpr ?_
  refine (ev_iconst (M := ML_areUnlike) (v := (nI 0)) rfl dL_areUnlike_46 (pc' := 47) rfl).mpr ?_
  refine (ev_istore (M := ML_areUnlike) dL_areUnlike_47 (by decide) (pc' := 49) rfl).mpr ?_
  refine (ev_iconst (M := ML_areUnlike) (v := (nI 0)) rfl dL_areUnlike_49 (pc' := 50) rfl).mpr ?_
  refine (ev_istore (M := ML_areUnlike) dL_areUnlike_50 (by decide) (pc' := 52) rfl).mpr ?_
  generalize hA : x % (ve k).length = a at *
  generalize hB : y % (ve k').length = b at *
  obtain ⟨g1, g2⟩ := hbg a ha
  obtain ⟨g1', g2'⟩ := hbg' b hb9
  have r1 := her _ (gD_mem ha)
  have r1' := her' _ (gD_mem hb9)
  have n1 := hr.2 _ r1
  have n1' := hr.2 _ r1'
  have d1 := c2 a ha
  have d1' := c2' b hb9
  have d2 := c3 _ r1
  have d2' := c3 _ r1'
  have d3 := h.fingerprint (d := d) r1
  have q32 := h32 _ r1
  have q32' := h32 _ r1'
  have huu := hun _ r1 _ r1'
  have hbl : ∀ i, i ≤ (ve k).length → beg cb (ve k) i ≤ 960 := fun i hi => by
    have := smb_le (f := fun j => (cb ((ve k).getD j 0)).length) (b := 32) i (fun j hj => h32 _ (her _ (gD_mem (by omega))))
    have e : beg cb (ve k) i = sm (fun j => (cb ((ve k).getD j 0)).length) i := rfl
    omega
  have hbl' : ∀ i, i ≤ (ve k').length → beg cb (ve k') i ≤ 960 := fun i hi => by
    have := smb_le (f := fun j => (cb ((ve k').getD j 0)).length) (b := 32) i (fun j hj => h32 _ (her' _ (gD_mem (by omega))))
    have e : beg cb (ve k') i = sm (fun j => (cb ((ve k').getD j 0)).length) i := rfl
    omega
  have ba1 := hbl a (by omega)
  have bb1 := hbl' b (by omega)
  rw [Nat.zero_add] at g1 g1' g2 g2'
  have three : Ev (d + 5) ML_areUnlike [] 164 [(17, .int (nI 0)), (16, .int (nI 0)), (15, .int (nI 1)), (14, .int (nI (if (cb ((ve k).getD a 0)).length = (cb ((ve k').getD b 0)).length then 1 else 0))), (13, .int (nI (cb ((ve k).getD a 0)).length)), (12, .int (nI (beg cb (ve k') b))), (11, .int (nI (beg cb (ve k) a))), (10, .int (nI b)), (9, .int (nI a)), (8, .int (nI (ve k').length)), (7, .int (nI (ve k).length)), (0, .ref X), (1, .int (nI (vf k))), (2, .int (nI (vn k))), (3, .int (nI (vf k'))), (4, .int (nI (vn k'))), (5, .int (nI x)), (6, .int (nI y))] [] T (fun r T' => r = .inl (some (.int (nI 1))) ∧ T' = T) := by
    generalize hc : (ve k).getD a 0 = c at *
    generalize hc' : (ve k').getD b 0 = c' at *
    have e0 : (if (cb c).length = (cb c').length then 1 else 0) = alk (cb c) (cb c') 0 := by
      unfold alk
      by_cases e : (cb c).length = (cb c').length
      · rw [if_pos e, if_pos ⟨e, fun t ht => absurd ht (Nat.not_lt_zero t)⟩]
      · rw [if_neg e, if_neg (fun q => e q.1)]
    rw [e0]
    refine lpX (fun i => [(17, .int (nI i)), (16, .int (nI (mkB (cb c) i))), (15, .int (nI (mkA (cb c) i))), (14, .int (nI (alk (cb c) (cb c') i))), (13, .int (nI (cb c).length)), (12, .int (nI (beg cb (ve k') b))), (11, .int (nI (beg cb (ve k) a))), (10, .int (nI b)), (9, .int (nI a)), (8, .int (nI (ve k').length)), (7, .int (nI (ve k).length)), (0, .ref X), (1, .int (nI (vf k))), (2, .int (nI (vn k))), (3, .int (nI (vf k'))), (4, .int (nI (vn k'))), (5, .int (nI x)), (6, .int (nI y))]) (fun _ => T) (cb c).length rfl rfl ?_ ?_
    · intro i hi hq
      have eA : mkA (cb c) (i + 1) = (mkA (cb c) i + (cb c).getD i 0) % 251 := rfl
      have eB : mkB (cb c) (i + 1) = (mkB (cb c) i + mkA (cb c) (i + 1)) % 251 := rfl
      have f1 := c4 (beg cb (ve k) a + i) (by omega)
      rw [g2 i hi] at f1
      have x1 := hb _ (gD_mem (xs := vb k) (k := beg cb (ve k) a + i) (by omega))
      rw [g2 i hi] at x1
      have lA := mkA_lt (cb c) i
      have lB := mkB_lt (cb c) i
      rw [eB, eA] at hq
      by_cases e1 : alk (cb c) (cb c') i = 1
      · have hll : (cb c).length = (cb c').length := by
          unfold alk at e1
          split at e1
          · rename_i q; exact q.1
          · cases e1
        have f2 := c4' (beg cb (ve k') b + i) (by omega)
        rw [g2' i (by omega)] at f2
        have x2 := hb' _ (gD_mem (xs := vb k') (k := beg cb (ve k') b + i) (by omega))
        rw [g2' i (by omega)] at x2
        rw [e1]
        refine Z_un5 (u := alk (cb c) (cb c') (i + 1)) k8 hi q32 (by omega) (by omega) lA lB x1 x2 ?_ f1 f2 hq
        by_cases e2 : (cb c).getD i 0 = (cb c').getD i 0
        · rw [if_pos e2, alk_s1 e1 e2]
        · rw [if_neg e2, alk_s2 e2]
      · obtain ⟨z1, z2⟩ := alk_s3 e1
        rw [z2] at hq
        rw [z1]
        exact Z_un6 k8 hi q32 (by omega) lA lB x1 f1 hq
    · rw [alk_end]
      refine Z_un7 k8 q32 (mkA_lt _ _) (mkB_lt _ _) (by omega) (by omega) ?_ d1 d1' d3 ⟨rfl, rfl⟩
      by_cases e : c = c'
      · rw [if_pos e, if_pos (by rw [e])]
      · rw [if_neg e, if_neg (fun q => e (huu q))]
  have two : Ev (d + 5) ML_areUnlike [] 85 [(13, .int (nI 0)), (12, .int (nI 0)), (11, .int (nI (beg cb (ve k) a))), (10, .int (nI b)), (9, .int (nI a)), (8, .int (nI (ve k').length)), (7, .int (nI (ve k).length)), (0, .ref X), (1, .int (nI (vf k))), (2, .int (nI (vn k))), (3, .int (nI (vf k'))), (4, .int (nI (vn k'))), (5, .int (nI x)), (6, .int (nI y))] [] T (fun r T' => r = .inl (some (.int (nI 1))) ∧ T' = T) := by
    refine lpX (fun i => [(13, .int (nI i)), (12, .int (nI (beg cb (ve k') i))), (11, .int (nI (beg cb (ve k) a))), (10, .int (nI b)), (9, .int (nI a)), (8, .int (nI (ve k').length)), (7, .int (nI (ve k).length)), (0, .ref X), (1, .int (nI (vf k))), (2, .int (nI (vn k))), (3, .int (nI (vf k'))), (4, .int (nI (vn k'))), (5, .int (nI x)), (6, .int (nI y))]) (fun _ => T) b rfl rfl ?_ ?_
    · intro i hi hq
      have e : beg cb (ve k') (i + 1) = beg cb (ve k') i + (cb ((ve k').getD i 0)).length := rfl
      rw [e] at hq
      have q1 := hbl' i (by omega)
      exact Z_un3 k8 hi (by omega) (by omega) (h32 _ (her' _ (gD_mem (by omega)))) (c2' i (by omega)) (c3 _ (her' _ (gD_mem (by omega)))) hq
    · exact Z_un4 k8 (by omega) q32 q32' rfl d1 d2 d1' d2' three
  have one : Ev (d + 5) ML_areUnlike [] 52 [(13, .int (nI 0)), (12, .int (nI 0)), (11, .int (nI 0)), (10, .int (nI b)), (9, .int (nI a)), (8, .int (nI (ve k').length)), (7, .int (nI (ve k).length)), (0, .ref X), (1, .int (nI (vf k))), (2, .int (nI (vn k))), (3, .int (nI (vf k'))), (4, .int (nI (vn k'))), (5, .int (nI x)), (6, .int (nI y))] [] T (fun r T' => r = .inl (some (.int (nI 1))) ∧ T' = T) := by
    refine lpX (fun i => [(13, .int (nI i)), (12, .int (nI 0)), (11, .int (nI (beg cb (ve k) i))), (10, .int (nI b)), (9, .int (nI a)), (8, .int (nI (ve k').length)), (7, .int (nI (ve k).length)), (0, .ref X), (1, .int (nI (vf k))), (2, .int (nI (vn k))), (3, .int (nI (vf k'))), (4, .int (nI (vn k'))), (5, .int (nI x)), (6, .int (nI y))]) (fun _ => T) a rfl rfl ?_ ?_
    · intro i hi hq
      have e : beg cb (ve k) (i + 1) = beg cb (ve k) i + (cb ((ve k).getD i 0)).length := rfl
      rw [e] at hq
      have q1 := hbl i (by omega)
      exact Z_un1 k8 hi (by omega) (by omega) (h32 _ (her _ (gD_mem (by omega)))) (c2 i (by omega)) (c3 _ (her _ (gD_mem (by omega)))) hq
    · exact Z_un2 (by omega) two
  exact ev_more (by repeat (first | exact trivial | refine ⟨rfl, ?_⟩)) (by exact rfl) (by exact rfl) one
end UNL
