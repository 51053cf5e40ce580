/-! areChunks, isCache -/
def DNN : Prop := ∀ x y : Int32, y ≠ 0 → FP.ddiv (FP.i2d x) (FP.i2d y) &&& 0x7fffffffffffffff ≤ 0x7ff0000000000000
/-- a number is equal to itself -/
def DCQ : Prop := ∀ w : UInt64, w &&& 0x7fffffffffffffff ≤ 0x7ff0000000000000 → Op.cmpValue (FP.dcmp w w) .l = 0
/-! small facts on sums -/
theorem gb_le (P : Nat → Prop) [DecidablePred P] (cb : Nat → List Nat) : ∀ l : List Nat, (l.map (fun n => if P n then (cb n).length else 0)).sum ≤ byS cb l := by
  intro l
  unfold byS
  induction l with
  | nil => exact Nat.le_refl _
  | cons a l ih =>
    rw [List.map_cons, List.map_cons, List.sum_cons, List.sum_cons]
    have : (if P a then (cb a).length else 0) ≤ (cb a).length := by split <;> omega
    omega
theorem sumb {α : Type} (l : List α) (f : α → Nat) (b : Nat) (h : ∀ k ∈ l, f k ≤ b) : (l.map f).sum ≤ b * l.length := by
  induction l with
  | nil => exact Nat.le_refl _
  | cons a l ih =>
    rw [List.map_cons, List.sum_cons, List.length_cons, Nat.mul_succ]
    have h1 := h a List.mem_cons_self
    have h2 := ih (fun k hk => h k (List.mem_cons_of_mem _ hk))
    omega
section ACH
variable {d X G : Nat} {va ba ca : Nat → Nat} {dr kl : List Nat} {vf vn : Nat → Nat} {vb ve : Nat → List Nat} {vp : Nat → Option Nat} {nx : Nat → Nat} {sv : Nat} {cb : Nat → List Nat} {us : Nat → Nat} {bl cs : List Nat} {co : Nat → List Nat} {op hi re st : Nat} {rw : List Nat} {bx : Nat → Nat} {ud : Nat} {T : TS}
/-- the ratio's bits -/
def rtW (a b : Nat) : UInt64 := if b = 0 then FP.dconst0 else FP.ddiv (FP.i2d (nI a)) (FP.i2d (nI b))
theorem dnn_n (hD : DNN) {a b : Nat} (hb : b < 1000000) (h0 : ¬ b = 0) : FP.ddiv (FP.i2d (nI a)) (FP.i2d (nI b)) &&& 0x7fffffffffffffff ≤ 0x7ff0000000000000 := hD _ _ (fun e => by
  have := i_eq0 (a := b) (by omega)
  rw [this] at e
  exact h0 e)
theorem R_ratio (hD : DNN) (h : XR T X va ba ca dr kl vf vn vb ve vp nx sv cb us bl co op cs hi re st) (hb : (bl.map (fun k => byS cb (co k))).sum < 1000000) : Call (d + 4) 116 [.ref X] T (.inl (some (.double (rtW (kl.map (fun k => (vb k).length)).sum (bl.map (fun k => byS cb (co k))).sum)))) T := by
  have c1 := C_filledBytes (d := d) h.2.2.2.2.1
  have c2 := R_savedBytes (d := d) h
  have k5 := h.2.2.2.2.1.1.1
  obtain ⟨⟨x1, x2, x3, x4, x5, x6, x7⟩, -⟩ := h
  refine Call_of ?_
  unfold rtW
  by_cases e : (bl.map (fun k => byS cb (co k))).sum = 0
  · rw [if_pos e]
    simp (disch := omega) only [ev_aload_n (M := MX6_ratio) (k := 0) rfl dX6_ratio_0 (pc' := 1) rfl, ev_getR (M := MX6_ratio) (f := 227) (kk := 8) f_7_32 rfl rfl rfl dX6_ratio_1 (pc' := 4) rfl, ev_cV0 (M := MX6_ratio) (kk := 6) dX6_ratio_4 c_7_218 mX4_filledBytes rfl rfl (by decide) rfl (pc' := 7) rfl, ev_istore_n (M := MX6_ratio) (k := 1) rfl dX6_ratio_7 (by decide) (pc' := 8) rfl, ev_iload_n (M := MX6_ratio) (k := 1) rfl dX6_ratio_8 (pc' := 9) rfl, ev_if_ne (M := MX6_ratio) (t := 14) dX6_ratio_9 (by decide) (pc' := 12) rfl, ev_dconst0 (M := MX6_ratio) dX6_ratio_12 (pc' := 13) rfl, ev_dret (M := MX6_ratio) rfl dX6_ratio_13, ev_aload_n (M := MX6_ratio) (k := 0) rfl dX6_ratio_14 (pc' := 15) rfl, ev_cV0 (M := MX6_ratio) (kk := 8) dX6_ratio_15 c_7_224 mX6_savedBytes rfl rfl (by decide) rfl (pc' := 18) rfl, ev_i2d (M := MX6_ratio) dX6_ratio_18 (pc' := 19) rfl, ev_iload_n (M := MX6_ratio) (k := 1) rfl dX6_ratio_19 (pc' := 20) rfl, ev_i2d (M := MX6_ratio) dX6_ratio_20 (pc' := 21) rfl, ev_ddiv (M := MX6_ratio) dX6_ratio_21 (pc' := 22) rfl, ev_dret (M := MX6_ratio) rfl dX6_ratio_22, uX6_ratio, lI_some, lJ_some, lR_ref, lR_null, lD_some, lget_cons, ldel_cons, ldel_nil, evR_v, evR_0, evR_x, vrf_s, vrf_n, Value.category, Nat.reduceEqDiff, Nat.reduceAdd, Nat.reduceSub, Nat.reduceMul, Nat.reduceLeDiff, reduceIte, if_true, if_false, or_self, or_false, false_or, or_true, true_or, and_self, and_true, true_and, and_false, false_and, not_true_eq_false, not_false_eq_true, List.length_cons, List.length_nil, Nat.zero_le, Nat.add_eq_zero_iff, Nat.succ_ne_zero, Nat.zero_add, Nat.add_zero, nle_t, nle_f, nlt_t, nlt_f, neq_t, neq_f, i_lt0, i_le0, i_0le, i_0lt, i_eq0, i_lt, i_le, i_eq, nI_add, i_sub, i_cl, i_m1a, i_m1b, i_m1c, i_m1d, i_m1e, i_am1, i_ite0, x1, x5, k5, cq c1, cq c2, e]
  · rw [if_neg e]
    have hdn := dnn_n hD (a := (kl.map (fun k => (vb k).length)).sum) hb e
    generalize (bl.map (fun k => byS cb (co k))).sum = s at *
    simp (disch := omega) only [ev_aload_n (M := MX6_ratio) (k := 0) rfl dX6_ratio_0 (pc' := 1) rfl, ev_getR (M := MX6_ratio) (f := 227) (kk := 8) f_7_32 rfl rfl rfl dX6_ratio_1 (pc' := 4) rfl, ev_cV0 (M := MX6_ratio) (kk := 6) dX6_ratio_4 c_7_218 mX4_filledBytes rfl rfl (by decide) rfl (pc' := 7) rfl, ev_istore_n (M := MX6_ratio) (k := 1) rfl dX6_ratio_7 (by decide) (pc' := 8) rfl, ev_iload_n (M := MX6_ratio) (k := 1) rfl dX6_ratio_8 (pc' := 9) rfl, ev_if_ne (M := MX6_ratio) (t := 14) dX6_ratio_9 (by decide) (pc' := 12) rfl, ev_dconst0 (M := MX6_ratio) dX6_ratio_12 (pc' := 13) rfl, ev_dret (M := MX6_ratio) rfl dX6_ratio_13, ev_aload_n (M := MX6_ratio) (k := 0) rfl dX6_ratio_14 (pc' := 15) rfl, ev_cV0 (M := MX6_ratio) (kk := 8) dX6_ratio_15 c_7_224 mX6_savedBytes rfl rfl (by decide) rfl (pc' := 18) rfl, ev_i2d (M := MX6_ratio) dX6_ratio_18 (pc' := 19) rfl, ev_iload_n (M := MX6_ratio) (k := 1) rfl dX6_ratio_19 (pc' := 20) rfl, ev_i2d (M := MX6_ratio) dX6_ratio_20 (pc' := 21) rfl, ev_ddiv (M := MX6_ratio) dX6_ratio_21 (pc' := 22) rfl, ev_dret (M := MX6_ratio) rfl dX6_ratio_22, uX6_ratio, lI_some, lJ_some, lR_ref, lR_null, lD_some, lget_cons, ldel_cons, ldel_nil, evR_v, evR_0, evR_x, vrf_s, vrf_n, Value.category, Nat.reduceEqDiff, Nat.reduceAdd, Nat.reduceSub, Nat.reduceMul, Nat.reduceLeDiff, reduceIte, if_true, if_false, or_self, or_false, false_or, or_true, true_or, and_self, and_true, true_and, and_false, false_and, not_true_eq_false, not_false_eq_true, List.length_cons, List.length_nil, Nat.zero_le, Nat.add_eq_zero_iff, Nat.succ_ne_zero, Nat.zero_add, Nat.add_zero, nle_t, nle_f, nlt_t, nlt_f, neq_t, neq_f, i_lt0, i_le0, i_0le, i_0lt, i_eq0, i_lt, i_le, i_eq, nI_add, i_sub, i_cl, i_m1a, i_m1b, i_m1c, i_m1d, i_m1e, i_am1, i_ite0, x1, x5, k5, cq c1, cq c2, e, hdn]
/-! sums over the chunks' numbers -/
theorem sm_range (g : Nat → Nat) : ∀ n, ((List.range n).map g).sum = sm g n := by
  intro n
  induction n with
  | zero => rfl
  | succ n ih =>
    rw [List.range_succ, List.map_append, List.sum_append_nat, ih]
    show _ + (g n + 0) = sm g n + g n
    omega
theorem chu_in (h : LV T X va ba ca dr kl vf vn vb ve vp nx sv cb us bl co op cs hi re st rw bx ud) (g : Nat → Nat) : sm (fun n => if n ∈ rw then g n else 0) st = (rw.map g).sum := sm_in g rw h.2.2.1.2.1 h.rwl.2
theorem box_sum (h : LV T X va ba ca dr kl vf vn vb ve vp nx sv cb us bl co op cs hi re st rw bx ud) : sm (fun k => bIn rw bx cb k) (op + 1) = byS cb rw := by
  have hS := h.2.2.1.1
  have e := part_sum (bx := bx) (fun n => (cb n).length) (bl := List.range (op + 1)) List.nodup_range rw (fun n hn => List.mem_range.mpr (by have := hS.2.2 n hn; dsimp only at this; omega))
  have e2 : (List.range (op + 1)).map (fun k => ((rw.filter (fun n => decide (bx n = k))).map (fun n => (cb n).length)).sum) = (List.range (op + 1)).map (fun k => bIn rw bx cb k) := List.map_congr_left (fun k _ => (bIn_f rw bx cb k).symm)
  rw [e2, sm_range] at e
  exact e
theorem box_cnt (h : LV T X va ba ca dr kl vf vn vb ve vp nx sv cb us bl co op cs hi re st rw bx ud) : sm (fun k => if 0 < bIn rw bx cb k ∨ k = op then 1 else 0) (op + 1) = bl.length := by
  have e := h.2.2.1.1.count (fun n hn => (h.2.2.1.2.2.1 n hn).2.1)
  dsimp only at e
  rw [e]
  show sm _ op + (if 0 < bIn rw bx cb op ∨ op = op then 1 else 0) = _
  rw [if_pos (Or.inr rfl), Nat.add_comm]
  congr 1
  refine sm_congr (fun k hk => ?_)
  by_cases q : 0 < bIn rw bx cb k
  · rw [if_pos (Or.inl q), if_pos q]
  · rw [if_neg (fun z => z.elim q (fun z => by omega)), if_neg q]
section Z
variable {c s g b k y n l u r N : Nat} {Q : Post}
/-- a container's bytes: one chunk -/
theorem Z_ch1 (k8 : tK T X = 8) (g1 : tK T G = 22) (g2 : tl T G = 7) (g3 : tJ T G 6 = jN N) (hN : N < 1000000) (hn : n < N) (hy : y ≤ 10000000) (c1 : Call (d + 5) 102 [.ref X, .int (nI n)] T (.inl (some (.int (nI 0)))) T) (hq : Ev (d + 5) ML_areChunks [] 36 [(9, .int (nI (n + 1))), (8, .int (nI y)), (7, .int (nI k)), (6, .int (nI 1)), (5, .int (nI b)), (4, .int (nI 0)), (3, .int (nI s)), (2, .int (nI 0)), (0, .ref X), (1, .ref G)] [] T Q) : Ev (d + 5) ML_areChunks [] 36 [(9, .int (nI n)), (8, .int (nI y)), (7, .int (nI k)), (6, .int (nI 1)), (5, .int (nI b)), (4, .int (nI 0)), (3, .int (nI s)), (2, .int (nI 0)), (0, .ref X), (1, .ref G)] [] T Q := by
  have hlc : ¬ 0 ≤ lg_cmp (nI n).toInt64 (tJ T G 6) := by rw [g3, lj_ge (by omega) (by omega)]; omega
  refine eN_iload (M := ML_areChunks) dL_areChunks_36 (pc' := 38) rfl rfl ?_
  refine (ev_i2l (M := ML_areChunks) dL_areChunks_38 (pc' := 39) rfl).mpr ?_
  refine eN_aload_n (M := ML_areChunks) (k := 1) rfl dL_areChunks_39 (pc' := 40) rfl rfl ?_
  refine (ev_bipush (M := ML_areChunks) (v := (nI 6)) rfl dL_areChunks_40 (pc' := 42) rfl).mpr ?_
  refine eN_laload (M := ML_areChunks) dL_areChunks_42 (pc' := 43) rfl (by assumption) (by assumption) (by omega) ?_
  refine (ev_lcmp (M := ML_areChunks) dL_areChunks_43 (pc' := 44) rfl).mpr ?_
  refine (ev_if_ge (M := ML_areChunks) (t := 88) dL_areChunks_44 (by decide) (pc' := 47) rfl).mpr (ifF (by first | assumption | omega | rfl | exact fun q => q (by assumption) | exact fun q => q rfl | (simp (disch := omega) only [nle_t, nle_f, nlt_t, nlt_f, neq_t, neq_f, i_lt0, i_le0, i_0le, i_0lt, i_eq0, i_lt, i_le, i_eq, nI_add, i_sub, i_cl, i_m1a, i_m1b, i_m1c, i_m1d, i_m1e, i_am1, i_ite0, m1_le, m1_m1, m1_ge0, not_true_eq_false, not_false_eq_true, or_self, or_false, false_or, or_true, true_or, and_self, and_true, true_and])) ?_)
  refine eN_iload (M := ML_areChunks) dL_areChunks_47 (pc' := 49) rfl rfl ?_
  refine eN_aload_n (M := ML_areChunks) (k := 0) rfl dL_areChunks_49 (pc' := 50) rfl rfl ?_
  refine eN_iload (M := ML_areChunks) dL_areChunks_50 (pc' := 52) rfl rfl ?_
  refine (ev_cV1 (M := ML_areChunks) (kk := 8) dL_areChunks_52 c_9_84 mX6_isStored rfl rfl (by decide) rfl (pc' := 55) rfl).mpr ⟨(by assumption), (Nat.le_of_ble_eq_true rfl), eN_c c1 (by first | rfl | (simp (disch := omega) only [nI_add, i_sub]) | (simp only [*])) ?_⟩
  refine (ev_if_eq (M := ML_areChunks) (t := 78) dL_areChunks_55 (by decide) (pc' := 58) rfl).mpr (ifT (by first | assumption | omega | rfl | exact fun q => q (by assumption) | exact fun q => q rfl | (simp (disch := omega) only [nle_t, nle_f, nlt_t, nlt_f, neq_t, neq_f, i_lt0, i_le0, i_0le, i_0lt, i_eq0, i_lt, i_le, i_eq, nI_add, i_sub, i_cl, i_m1a, i_m1b, i_m1c, i_m1d, i_m1e, i_am1, i_ite0, m1_le, m1_m1, m1_ge0, not_true_eq_false, not_false_eq_true, or_self, or_false, false_or, or_true, true_or, and_self, and_true, true_and])) ?_)
  refine (ev_iconst (M := ML_areChunks) (v := (nI 0)) rfl dL_areChunks_78 (pc' := 79) rfl).mpr ?_
  refine eN_iadd (M := ML_areChunks) dL_areChunks_79 (pc' := 80) rfl ?_
  refine (ev_istore (M := ML_areChunks) dL_areChunks_80 (by decide) (pc' := 82) rfl).mpr ?_
  refine eN_iinc (M := ML_areChunks) (v := 1) rfl dL_areChunks_82 (by decide) (pc' := 85) rfl rfl ?_
  refine (ev_goto (M := ML_areChunks) (pc' := 36) dL_areChunks_85 (by decide)).mpr ?_
  exact ev_more (by repeat (first | exact trivial | refine ⟨rfl, ?_⟩)) (by exact rfl) (by exact rfl) hq
theorem Z_ch2 (k8 : tK T X = 8) (g1 : tK T G = 22) (g2 : tl T G = 7) (g3 : tJ T G 6 = jN N) (hN : N < 1000000) (hn : n < N) (hy : y ≤ 10000000) (hk : k < 1000000) (hr : r < 1000000) (hne : ¬ r = k) (c1 : Call (d + 5) 102 [.ref X, .int (nI n)] T (.inl (some (.int (nI 1)))) T) (c2 : Call (d + 5) 107 [.ref X, .int (nI n)] T (.inl (some (.int (nI r)))) T) (hq : Ev (d + 5) ML_areChunks [] 36 [(9, .int (nI (n + 1))), (8, .int (nI y)), (7, .int (nI k)), (6, .int (nI 1)), (5, .int (nI b)), (4, .int (nI 0)), (3, .int (nI s)), (2, .int (nI 0)), (0, .ref X), (1, .ref G)] [] T Q) : Ev (d + 5) ML_areChunks [] 36 [(9, .int (nI n)), (8, .int (nI y)), (7, .int (nI k)), (6, .int (nI 1)), (5, .int (nI b)), (4, .int (nI 0)), (3, .int (nI s)), (2, .int (nI 0)), (0, .ref X), (1, .ref G)] [] T Q := by
  have hlc : ¬ 0 ≤ lg_cmp (nI n).toInt64 (tJ T G 6) := by rw [g3, lj_ge (by omega) (by omega)]; omega
  refine eN_iload (M := ML_areChunks) dL_areChunks_36 (pc' := 38) rfl rfl ?_
  refine (ev_i2l (M := ML_areChunks) dL_areChunks_38 (pc' := 39) rfl).mpr ?_
  refine eN_aload_n (M := ML_areChunks) (k := 1) rfl dL_areChunks_39 (pc' := 40) rfl rfl ?_
  refine (ev_bipush (M := ML_areChunks) (v := (nI 6)) rfl dL_areChunks_40 (pc' := 42) rfl).mpr ?_
  refine eN_laload (M := ML_areChunks) dL_areChunks_42 (pc' := 43) rfl (by assumption) (by assumption) (by omega) ?_
  refine (ev_lcmp (M := ML_areChunks) dL_areChunks_43 (pc' := 44) rfl).mpr ?_
  refine (ev_if_ge (M := ML_areChunks) (t := 88) dL_areChunks_44 (by decide) (pc' := 47) rfl).mpr (ifF (by first | assumption | omega | rfl | exact fun q => q (by assumption) | exact fun q => q rfl | (simp (disch := omega) only [nle_t, nle_f, nlt_t, nlt_f, neq_t, neq_f, i_lt0, i_le0, i_0le, i_0lt, i_eq0, i_lt, i_le, i_eq, nI_add, i_sub, i_cl, i_m1a, i_m1b, i_m1c, i_m1d, i_m1e, i_am1, i_ite0, m1_le, m1_m1, m1_ge0, not_true_eq_false, not_false_eq_true, or_self, or_false, false_or, or_true, true_or, and_self, and_true, true_and])) ?_)
  refine eN_iload (M := ML_areChunks) dL_areChunks_47 (pc' := 49) rfl rfl ?_
  refine eN_aload_n (M := ML_areChunks) (k := 0) rfl dL_areChunks_49 (pc' := 50) rfl rfl ?_
  refine eN_iload (M := ML_areChunks) dL_areChunks_50 (pc' := 52) rfl rfl ?_
  refine (ev_cV1 (M := ML_areChunks) (kk := 8) dL_areChunks_52 c_9_84 mX6_isStored rfl rfl (by decide) rfl (pc' := 55) rfl).mpr ⟨(by assumption), (Nat.le_of_ble_eq_true rfl), eN_c c1 (by first | rfl | (simp (disch := omega) only [nI_add, i_sub]) | (simp only [*])) ?_⟩
  refine (ev_if_eq (M := ML_areChunks) (t := 78) dL_areChunks_55 (by decide) (pc' := 58) rfl).mpr (ifF (by first | assumption | omega | rfl | exact fun q => q (by assumption) | exact fun q => q rfl | (simp (disch := omega) only [nle_t, nle_f, nlt_t, nlt_f, neq_t, neq_f, i_lt0, i_le0, i_0le, i_0lt, i_eq0, i_lt, i_le, i_eq, nI_add, i_sub, i_cl, i_m1a, i_m1b, i_m1c, i_m1d, i_m1e, i_am1, i_ite0, m1_le, m1_m1, m1_ge0, not_true_eq_false, not_false_eq_true, or_self, or_false, false_or, or_true, true_or, and_self, and_true, true_and])) ?_)
  refine eN_aload_n (M := ML_areChunks) (k := 0) rfl dL_areChunks_58 (pc' := 59) rfl rfl ?_
  refine eN_iload (M := ML_areChunks) dL_areChunks_59 (pc' := 61) rfl rfl ?_
  refine (ev_cV1 (M := ML_areChunks) (kk := 8) dL_areChunks_61 c_9_88 mX6_containerOf rfl rfl (by decide) rfl (pc' := 64) rfl).mpr ⟨(by assumption), (Nat.le_of_ble_eq_true rfl), eN_c c2 (by first | rfl | (simp (disch := omega) only [nI_add, i_sub]) | (simp only [*])) ?_⟩
  refine eN_iload (M := ML_areChunks) dL_areChunks_64 (pc' := 66) rfl rfl ?_
  refine (ev_icmp_ne (M := ML_areChunks) (t := 78) dL_areChunks_66 (by decide) (pc' := 69) rfl).mpr (ifT (by first | assumption | omega | rfl | exact fun q => q (by assumption) | exact fun q => q rfl | (simp (disch := omega) only [nle_t, nle_f, nlt_t, nlt_f, neq_t, neq_f, i_lt0, i_le0, i_0le, i_0lt, i_eq0, i_lt, i_le, i_eq, nI_add, i_sub, i_cl, i_m1a, i_m1b, i_m1c, i_m1d, i_m1e, i_am1, i_ite0, m1_le, m1_m1, m1_ge0, not_true_eq_false, not_false_eq_true, or_self, or_false, false_or, or_true, true_or, and_self, and_true, true_and])) ?_)
  refine (ev_iconst (M := ML_areChunks) (v := (nI 0)) rfl dL_areChunks_78 (pc' := 79) rfl).mpr ?_
  refine eN_iadd (M := ML_areChunks) dL_areChunks_79 (pc' := 80) rfl ?_
  refine (ev_istore (M := ML_areChunks) dL_areChunks_80 (by decide) (pc' := 82) rfl).mpr ?_
  refine eN_iinc (M := ML_areChunks) (v := 1) rfl dL_areChunks_82 (by decide) (pc' := 85) rfl rfl ?_
  refine (ev_goto (M := ML_areChunks) (pc' := 36) dL_areChunks_85 (by decide)).mpr ?_
  exact ev_more (by repeat (first | exact trivial | refine ⟨rfl, ?_⟩)) (by exact rfl) (by exact rfl) hq
theorem Z_ch3 (k8 : tK T X = 8) (g1 : tK T G = 22) (g2 : tl T G = 7) (g3 : tJ T G 6 = jN N) (hN : N < 1000000) (hn : n < N) (hy : y ≤ 10000000) (hk : k < 1000000) (hl : l ≤ 32) (c1 : Call (d + 5) 102 [.ref X, .int (nI n)] T (.inl (some (.int (nI 1)))) T) (c2 : Call (d + 5) 107 [.ref X, .int (nI n)] T (.inl (some (.int (nI k)))) T) (c3 : Call (d + 5) 104 [.ref X, .int (nI n)] T (.inl (some (.int (nI l)))) T) (hq : Ev (d + 5) ML_areChunks [] 36 [(9, .int (nI (n + 1))), (8, .int (nI (y + l))), (7, .int (nI k)), (6, .int (nI 1)), (5, .int (nI b)), (4, .int (nI 0)), (3, .int (nI s)), (2, .int (nI 0)), (0, .ref X), (1, .ref G)] [] T Q) : Ev (d + 5) ML_areChunks [] 36 [(9, .int (nI n)), (8, .int (nI y)), (7, .int (nI k)), (6, .int (nI 1)), (5, .int (nI b)), (4, .int (nI 0)), (3, .int (nI s)), (2, .int (nI 0)), (0, .ref X), (1, .ref G)] [] T Q := by
  have hlc : ¬ 0 ≤ lg_cmp (nI n).toInt64 (tJ T G 6) := by rw [g3, lj_ge (by omega) (by omega)]; omega
  refine eN_iload (M := ML_areChunks) dL_areChunks_36 (pc' := 38) rfl rfl ?_
  refine (ev_i2l (M := ML_areChunks) dL_areChunks_38 (pc' := 39) rfl).mpr ?_
  refine eN_aload_n (M := ML_areChunks) (k := 1) rfl dL_areChunks_39 (pc' := 40) rfl rfl ?_
  refine (ev_bipush (M := ML_areChunks) (v := (nI 6)) rfl dL_areChunks_40 (pc' := 42) rfl).mpr ?_
  refine eN_laload (M := ML_areChunks) dL_areChunks_42 (pc' := 43) rfl (by assumption) (by assumption) (by omega) ?_
  refine (ev_lcmp (M := ML_areChunks) dL_areChunks_43 (pc' := 44) rfl).mpr ?_
  refine (ev_if_ge (M := ML_areChunks) (t := 88) dL_areChunks_44 (by decide) (pc' := 47) rfl).mpr (ifF (by first | assumption | omega | rfl | exact fun q => q (by assumption) | exact fun q => q rfl | (simp (disch := omega) only [nle_t, nle_f, nlt_t, nlt_f, neq_t, neq_f, i_lt0, i_le0, i_0le, i_0lt, i_eq0, i_lt, i_le, i_eq, nI_add, i_sub, i_cl, i_m1a, i_m1b, i_m1c, i_m1d, i_m1e, i_am1, i_ite0, m1_le, m1_m1, m1_ge0, not_true_eq_false, not_false_eq_true, or_self, or_false, false_or, or_true, true_or, and_self, and_true, true_and])) ?_)
  refine eN_iload (M := ML_areChunks) dL_areChunks_47 (pc' := 49) rfl rfl ?_
  refine eN_aload_n (M := ML_areChunks) (k := 0) rfl dL_areChunks_49 (pc' := 50) rfl rfl ?_
  refine eN_iload (M := ML_areChunks) dL_areChunks_50 (pc' := 52) rfl rfl ?_
  refine (ev_cV1 (M := ML_areChunks) (kk := 8) dL_areChunks_52 c_9_84 mX6_isStored rfl rfl (by decide) rfl (pc' := 55) rfl).mpr ⟨(by assumption), (Nat.le_of_ble_eq_true rfl), eN_c c1 (by first | rfl | (simp (disch := omega) only [nI_add, i_sub]) | (simp only [*])) ?_⟩
  refine (ev_if_eq (M := ML_areChunks) (t := 78) dL_areChunks_55 (by decide) (pc' := 58) rfl).mpr (ifF (by first | assumption | omega | rfl | exact fun q => q (by assumption) | exact fun q => q rfl | (simp (disch := omega) only [nle_t, nle_f, nlt_t, nlt_f, neq_t, neq_f, i_lt0, i_le0, i_0le, i_0lt, i_eq0, i_lt, i_le, i_eq, nI_add, i_sub, i_cl, i_m1a, i_m1b, i_m1c, i_m1d, i_m1e, i_am1, i_ite0, m1_le, m1_m1, m1_ge0, not_true_eq_false, not_false_eq_true, or_self, or_false, false_or, or_true, true_or, and_self, and_true, true_and])) ?_)
  refine eN_aload_n (M := ML_areChunks) (k := 0) rfl dL_areChunks_58 (pc' := 59) rfl rfl ?_
  refine eN_iload (M := ML_areChunks) dL_areChunks_59 (pc' := 61) rfl rfl ?_
  refine (ev_cV1 (M := ML_areChunks) (kk := 8) dL_areChunks_61 c_9_88 mX6_containerOf rfl rfl (by decide) rfl (pc' := 64) rfl).mpr ⟨(by assumption), (Nat.le_of_ble_eq_true rfl), eN_c c2 (by first | rfl | (simp (disch := omega) only [nI_add, i_sub]) | (simp only [*])) ?_⟩
  refine eN_iload (M := ML_areChunks) dL_areChunks_64 (pc' := 66) rfl rfl ?_
  refine (ev_icmp_ne (M := ML_areChunks) (t := 78) dL_areChunks_66 (by decide) (pc' := 69) rfl).mpr (ifF (by first | assumption | omega | rfl | exact fun q => q (by assumption) | exact fun q => q rfl | (simp (disch := omega) only [nle_t, nle_f, nlt_t, nlt_f, neq_t, neq_f, i_lt0, i_le0, i_0le, i_0lt, i_eq0, i_lt, i_le, i_eq, nI_add, i_sub, i_cl, i_m1a, i_m1b, i_m1c, i_m1d, i_m1e, i_am1, i_ite0, m1_le, m1_m1, m1_ge0, not_true_eq_false, not_false_eq_true, or_self, or_false, false_or, or_true, true_or, and_self, and_true, true_and])) ?_)
  refine eN_aload_n (M := ML_areChunks) (k := 0) rfl dL_areChunks_69 (pc' := 70) rfl rfl ?_
  refine eN_iload (M := ML_areChunks) dL_areChunks_70 (pc' := 72) rfl rfl ?_
  refine (ev_cV1 (M := ML_areChunks) (kk := 8) dL_areChunks_72 c_9_35 mX6_chunkLength rfl rfl (by decide) rfl (pc' := 75) rfl).mpr ⟨(by assumption), (Nat.le_of_ble_eq_true rfl), eN_c c3 (by first | rfl | (simp (disch := omega) only [nI_add, i_sub]) | (simp only [*])) ?_⟩
  refine (ev_goto (M := ML_areChunks) (pc' := 79) dL_areChunks_75 (by decide)).mpr ?_
  refine eN_iadd (M := ML_areChunks) dL_areChunks_79 (pc' := 80) rfl ?_
  refine (ev_istore (M := ML_areChunks) dL_areChunks_80 (by decide) (pc' := 82) rfl).mpr ?_
  refine eN_iinc (M := ML_areChunks) (v := 1) rfl dL_areChunks_82 (by decide) (pc' := 85) rfl rfl ?_
  refine (ev_goto (M := ML_areChunks) (pc' := 36) dL_areChunks_85 (by decide)).mpr ?_
  exact ev_more (by repeat (first | exact trivial | refine ⟨rfl, ?_⟩)) (by exact rfl) (by exact rfl) hq
/-- one container -/
theorem Z_ch4 {o : Nat} (k8 : tK T X = 8) (hk : k ≤ o) (ho : o < 1000000) (c1 : Call (d + 5) 109 [.ref X] T (.inl (some (.int (nI o)))) T) (hq : Ev (d + 5) ML_areChunks [] 36 [(9, .int (nI 0)), (8, .int (nI 0)), (7, .int (nI k)), (6, .int (nI 1)), (5, .int (nI b)), (4, .int (nI 0)), (3, .int (nI s)), (2, .int (nI 0)), (0, .ref X), (1, .ref G)] [] T Q) : Ev (d + 5) ML_areChunks [] 16 [(7, .int (nI k)), (6, .int (nI 1)), (5, .int (nI b)), (4, .int (nI 0)), (3, .int (nI s)), (2, .int (nI 0)), (0, .ref X), (1, .ref G)] [] T Q := by
  refine eN_iload (M := ML_areChunks) dL_areChunks_16 (pc' := 18) rfl rfl ?_
  refine eN_aload_n (M := ML_areChunks) (k := 0) rfl dL_areChunks_18 (pc' := 19) rfl rfl ?_
  refine (ev_cV0 (M := ML_areChunks) (kk := 8) dL_areChunks_19 c_9_81 mX6_openContainer rfl rfl (by decide) rfl (pc' := 22) rfl).mpr ⟨(by assumption), (Nat.le_of_ble_eq_true rfl), eN_c c1 (by first | rfl | (simp (disch := omega) only [nI_add, i_sub]) | (simp only [*])) ?_⟩
  refine (ev_icmp_gt (M := ML_areChunks) (t := 138) dL_areChunks_22 (by decide) (pc' := 25) rfl).mpr (ifF (by first | assumption | omega | rfl | exact fun q => q (by assumption) | exact fun q => q rfl | (simp (disch := omega) only [nle_t, nle_f, nlt_t, nlt_f, neq_t, neq_f, i_lt0, i_le0, i_0le, i_0lt, i_eq0, i_lt, i_le, i_eq, nI_add, i_sub, i_cl, i_m1a, i_m1b, i_m1c, i_m1d, i_m1e, i_am1, i_ite0, m1_le, m1_m1, m1_ge0, not_true_eq_false, not_false_eq_true, or_self, or_false, false_or, or_true, true_or, and_self, and_true, true_and])) ?_)
  refine eN_iload (M := ML_areChunks) dL_areChunks_25 (pc' := 27) rfl rfl ?_
  refine (ev_if_eq (M := ML_areChunks) (t := 138) dL_areChunks_27 (by decide) (pc' := 30) rfl).mpr (ifF (by first | assumption | omega | rfl | exact fun q => q (by assumption) | exact fun q => q rfl | (simp (disch := omega) only [nle_t, nle_f, nlt_t, nlt_f, neq_t, neq_f, i_lt0, i_le0, i_0le, i_0lt, i_eq0, i_lt, i_le, i_eq, nI_add, i_sub, i_cl, i_m1a, i_m1b, i_m1c, i_m1d, i_m1e, i_am1, i_ite0, m1_le, m1_m1, m1_ge0, not_true_eq_false, not_false_eq_true, or_self, or_false, false_or, or_true, true_or, and_self, and_true, true_and])) ?_)
  refine (ev_iconst (M := ML_areChunks) (v := (nI 0)) rfl dL_areChunks_30 (pc' := 31) rfl).mpr ?_
  refine (ev_istore (M := ML_areChunks) dL_areChunks_31 (by decide) (pc' := 33) rfl).mpr ?_
  refine (ev_iconst (M := ML_areChunks) (v := (nI 0)) rfl dL_areChunks_33 (pc' := 34) rfl).mpr ?_
  refine (ev_istore (M := ML_areChunks) dL_areChunks_34 (by decide) (pc' := 36) rfl).mpr ?_
  exact ev_more (by repeat (first | exact trivial | refine ⟨rfl, ?_⟩)) (by exact rfl) (by exact rfl) hq
theorem Z_ch5 {o : Nat} (k8 : tK T X = 8) (g1 : tK T G = 22) (g2 : tl T G = 7) (g3 : tJ T G 6 = jN N) (hN : N < 1000000) (hk : k ≤ o) (ho : o < 1000000) (hy : y ≤ 128) (hs : s < 10000000) (hb : b < 1000000) (hu : u = if 0 < y ∨ k = o then 1 else 0) (c1 : Call (d + 5) 109 [.ref X] T (.inl (some (.int (nI o)))) T) (hq : Ev (d + 5) ML_areChunks [] 16 [(7, .int (nI (k + 1))), (6, .int (nI 1)), (5, .int (nI (b + u))), (4, .int (nI 0)), (3, .int (nI (s + y))), (2, .int (nI 0)), (0, .ref X), (1, .ref G)] [] T Q) : Ev (d + 5) ML_areChunks [] 36 [(9, .int (nI N)), (8, .int (nI y)), (7, .int (nI k)), (6, .int (nI 1)), (5, .int (nI b)), (4, .int (nI 0)), (3, .int (nI s)), (2, .int (nI 0)), (0, .ref X), (1, .ref G)] [] T Q := by
  have hgc : 0 ≤ lg_cmp (nI N).toInt64 (tJ T G 6) := by rw [g3, lj_ge (by omega) (by omega)]; omega
  by_cases e1 : 0 < y
  · rw [if_pos (Or.inl e1)] at hu
    subst hu
    refine eN_iload (M := ML_areChunks) dL_areChunks_36 (pc' := 38) rfl rfl ?_
    refine (ev_i2l (M := ML_areChunks) dL_areChunks_38 (pc' := 39) rfl).mpr ?_
    refine eN_aload_n (M := ML_areChunks) (k := 1) rfl dL_areChunks_39 (pc' := 40) rfl rfl ?_
    refine (ev_bipush (M := ML_areChunks) (v := (nI 6)) rfl dL_areChunks_40 (pc' := 42) rfl).mpr ?_
    refine eN_laload (M := ML_areChunks) dL_areChunks_42 (pc' := 43) rfl (by assumption) (by assumption) (by omega) ?_
    refine (ev_lcmp (M := ML_areChunks) dL_areChunks_43 (pc' := 44) rfl).mpr ?_
    refine (ev_if_ge (M := ML_areChunks) (t := 88) dL_areChunks_44 (by decide) (pc' := 47) rfl).mpr (ifT (by first | assumption | omega | rfl | exact fun q => q (by assumption) | exact fun q => q rfl | (simp (disch := omega) only [nle_t, nle_f, nlt_t, nlt_f, neq_t, neq_f, i_lt0, i_le0, i_0le, i_0lt, i_eq0, i_lt, i_le, i_eq, nI_add, i_sub, i_cl, i_m1a, i_m1b, i_m1c, i_m1d, i_m1e, i_am1, i_ite0, m1_le, m1_m1, m1_ge0, not_true_eq_false, not_false_eq_true, or_self, or_false, false_or, or_true, true_or, and_self, and_true, true_and])) ?_)
    refine eN_iload (M := ML_areChunks) dL_areChunks_88 (pc' := 90) rfl rfl ?_
    refine (ev_sipush (M := ML_areChunks) (v := (nI 128)) rfl dL_areChunks_90 (pc' := 93) rfl).mpr ?_
    refine (ev_icmp_gt (M := ML_areChunks) (t := 100) dL_areChunks_93 (by decide) (pc' := 96) rfl).mpr (ifF (by first | assumption | omega | rfl | exact fun q => q (by assumption) | exact fun q => q rfl | (simp (disch := omega) only [nle_t, nle_f, nlt_t, nlt_f, neq_t, neq_f, i_lt0, i_le0, i_0le, i_0lt, i_eq0, i_lt, i_le, i_eq, nI_add, i_sub, i_cl, i_m1a, i_m1b, i_m1c, i_m1d, i_m1e, i_am1, i_ite0, m1_le, m1_m1, m1_ge0, not_true_eq_false, not_false_eq_true, or_self, or_false, false_or, or_true, true_or, and_self, and_true, true_and])) ?_)
    refine (ev_iconst (M := ML_areChunks) (v := (nI 1)) rfl dL_areChunks_96 (pc' := 97) rfl).mpr ?_
    refine (ev_goto (M := ML_areChunks) (pc' := 101) dL_areChunks_97 (by decide)).mpr ?_
    refine (ev_istore (M := ML_areChunks) dL_areChunks_101 (by decide) (pc' := 103) rfl).mpr ?_
    refine eN_iload (M := ML_areChunks) dL_areChunks_103 (pc' := 105) rfl rfl ?_
    refine eN_iload (M := ML_areChunks) dL_areChunks_105 (pc' := 107) rfl rfl ?_
    refine (ev_if_gt (M := ML_areChunks) (t := 119) dL_areChunks_107 (by decide) (pc' := 110) rfl).mpr (ifT (by first | assumption | omega | rfl | exact fun q => q (by assumption) | exact fun q => q rfl | (simp (disch := omega) only [nle_t, nle_f, nlt_t, nlt_f, neq_t, neq_f, i_lt0, i_le0, i_0le, i_0lt, i_eq0, i_lt, i_le, i_eq, nI_add, i_sub, i_cl, i_m1a, i_m1b, i_m1c, i_m1d, i_m1e, i_am1, i_ite0, m1_le, m1_m1, m1_ge0, not_true_eq_false, not_false_eq_true, or_self, or_false, false_or, or_true, true_or, and_self, and_true, true_and])) ?_)
    refine (ev_iconst (M := ML_areChunks) (v := (nI 1)) rfl dL_areChunks_119 (pc' := 120) rfl).mpr ?_
    refine (ev_goto (M := ML_areChunks) (pc' := 124) dL_areChunks_120 (by decide)).mpr ?_
    refine eN_iadd (M := ML_areChunks) dL_areChunks_124 (pc' := 125) rfl ?_
    refine (ev_istore (M := ML_areChunks) dL_areChunks_125 (by decide) (pc' := 127) rfl).mpr ?_
    refine eN_iload_n (M := ML_areChunks) (k := 3) rfl dL_areChunks_127 (pc' := 128) rfl rfl ?_
    refine eN_iload (M := ML_areChunks) dL_areChunks_128 (pc' := 130) rfl rfl ?_
    refine eN_iadd (M := ML_areChunks) dL_areChunks_130 (pc' := 131) rfl ?_
    refine (ev_istore_n (M := ML_areChunks) (k := 3) rfl dL_areChunks_131 (by decide) (pc' := 132) rfl).mpr ?_
    refine eN_iinc (M := ML_areChunks) (v := 1) rfl dL_areChunks_132 (by decide) (pc' := 135) rfl rfl ?_
    refine (ev_goto (M := ML_areChunks) (pc' := 16) dL_areChunks_135 (by decide)).mpr ?_
    exact ev_more (by repeat (first | exact trivial | refine ⟨rfl, ?_⟩)) (by exact rfl) (by exact rfl) hq
  · by_cases e2 : k = o
    · rw [if_pos (Or.inr e2)] at hu
      subst hu
      refine eN_iload (M := ML_areChunks) dL_areChunks_36 (pc' := 38) rfl rfl ?_
      refine (ev_i2l (M := ML_areChunks) dL_areChunks_38 (pc' := 39) rfl).mpr ?_
      refine eN_aload_n (M := ML_areChunks) (k := 1) rfl dL_areChunks_39 (pc' := 40) rfl rfl ?_
      refine (ev_bipush (M := ML_areChunks) (v := (nI 6)) rfl dL_areChunks_40 (pc' := 42) rfl).mpr ?_
      refine eN_laload (M := ML_areChunks) dL_areChunks_42 (pc' := 43) rfl (by assumption) (by assumption) (by omega) ?_
      refine (ev_lcmp (M := ML_areChunks) dL_areChunks_43 (pc' := 44) rfl).mpr ?_
      refine (ev_if_ge (M := ML_areChunks) (t := 88) dL_areChunks_44 (by decide) (pc' := 47) rfl).mpr (ifT (by first | assumption | omega | rfl | exact fun q => q (by assumption) | exact fun q => q rfl | (simp (disch := omega) only [nle_t, nle_f, nlt_t, nlt_f, neq_t, neq_f, i_lt0, i_le0, i_0le, i_0lt, i_eq0, i_lt, i_le, i_eq, nI_add, i_sub, i_cl, i_m1a, i_m1b, i_m1c, i_m1d, i_m1e, i_am1, i_ite0, m1_le, m1_m1, m1_ge0, not_true_eq_false, not_false_eq_true, or_self, or_false, false_or, or_true, true_or, and_self, and_true, true_and])) ?_)
      refine eN_iload (M := ML_areChunks) dL_areChunks_88 (pc' := 90) rfl rfl ?_
      refine (ev_sipush (M := ML_areChunks) (v := (nI 128)) rfl dL_areChunks_90 (pc' := 93) rfl).mpr ?_
      refine (ev_icmp_gt (M := ML_areChunks) (t := 100) dL_areChunks_93 (by decide) (pc' := 96) rfl).mpr (ifF (by first | assumption | omega | rfl | exact fun q => q (by assumption) | exact fun q => q rfl | (simp (disch := omega) only [nle_t, nle_f, nlt_t, nlt_f, neq_t, neq_f, i_lt0, i_le0, i_0le, i_0lt, i_eq0, i_lt, i_le, i_eq, nI_add, i_sub, i_cl, i_m1a, i_m1b, i_m1c, i_m1d, i_m1e, i_am1, i_ite0, m1_le, m1_m1, m1_ge0, not_true_eq_false, not_false_eq_true, or_self, or_false, false_or, or_true, true_or, and_self, and_true, true_and])) ?_)
      refine (ev_iconst (M := ML_areChunks) (v := (nI 1)) rfl dL_areChunks_96 (pc' := 97) rfl).mpr ?_
      refine (ev_goto (M := ML_areChunks) (pc' := 101) dL_areChunks_97 (by decide)).mpr ?_
      refine (ev_istore (M := ML_areChunks) dL_areChunks_101 (by decide) (pc' := 103) rfl).mpr ?_
      refine eN_iload (M := ML_areChunks) dL_areChunks_103 (pc' := 105) rfl rfl ?_
      refine eN_iload (M := ML_areChunks) dL_areChunks_105 (pc' := 107) rfl rfl ?_
      refine (ev_if_gt (M := ML_areChunks) (t := 119) dL_areChunks_107 (by decide) (pc' := 110) rfl).mpr (ifF (by first | assumption | omega | rfl | exact fun q => q (by assumption) | exact fun q => q rfl | (simp (disch := omega) only [nle_t, nle_f, nlt_t, nlt_f, neq_t, neq_f, i_lt0, i_le0, i_0le, i_0lt, i_eq0, i_lt, i_le, i_eq, nI_add, i_sub, i_cl, i_m1a, i_m1b, i_m1c, i_m1d, i_m1e, i_am1, i_ite0, m1_le, m1_m1, m1_ge0, not_true_eq_false, not_false_eq_true, or_self, or_false, false_or, or_true, true_or, and_self, and_true, true_and])) ?_)
      refine eN_iload (M := ML_areChunks) dL_areChunks_110 (pc' := 112) rfl rfl ?_
      refine eN_aload_n (M := ML_areChunks) (k := 0) rfl dL_areChunks_112 (pc' := 113) rfl rfl ?_
      refine (ev_cV0 (M := ML_areChunks) (kk := 8) dL_areChunks_113 c_9_81 mX6_openContainer rfl rfl (by decide) rfl (pc' := 116) rfl).mpr ⟨(by assumption), (Nat.le_of_ble_eq_true rfl), eN_c c1 (by first | rfl | (simp (disch := omega) only [nI_add, i_sub]) | (simp only [*])) ?_⟩
      refine (ev_icmp_ne (M := ML_areChunks) (t := 123) dL_areChunks_116 (by decide) (pc' := 119) rfl).mpr (ifF (by first | assumption | omega | rfl | exact fun q => q (by assumption) | exact fun q => q rfl | (simp (disch := omega) only [nle_t, nle_f, nlt_t, nlt_f, neq_t, neq_f, i_lt0, i_le0, i_0le, i_0lt, i_eq0, i_lt, i_le, i_eq, nI_add, i_sub, i_cl, i_m1a, i_m1b, i_m1c, i_m1d, i_m1e, i_am1, i_ite0, m1_le, m1_m1, m1_ge0, not_true_eq_false, not_false_eq_true, or_self, or_false, false_or, or_true, true_or, and_self, and_true, true_and])) ?_)
      refine (ev_iconst (M := ML_areChunks) (v := (nI 1)) rfl dL_areChunks_119 (pc' := 120) rfl).mpr ?_
      refine (ev_goto (M := ML_areChunks) (pc' := 124) dL_areChunks_120 (by decide)).mpr ?_
      refine eN_iadd (M := ML_areChunks) dL_areChunks_124 (pc' := 125) rfl ?_
      refine (ev_istore (M := ML_areChunks) dL_areChunks_125 (by decide) (pc' := 127) rfl).mpr ?_
      refine eN_iload_n (M := ML_areChunks) (k := 3) rfl dL_areChunks_127 (pc' := 128) rfl rfl ?_
      refine eN_iload (M := ML_areChunks) dL_areChunks_128 (pc' := 130) rfl rfl ?_
      refine eN_iadd (M := ML_areChunks) dL_areChunks_130 (pc' := 131) rfl ?_
      refine (ev_istore_n (M := ML_areChunks) (k := 3) rfl dL_areChunks_131 (by decide) (pc' := 132) rfl).mpr ?_
      refine eN_iinc (M := ML_areChunks) (v := 1) rfl dL_areChunks_132 (by decide) (pc' := 135) rfl rfl ?_
      refine (ev_goto (M := ML_areChunks) (pc' := 16) dL_areChunks_135 (by decide)).mpr ?_
      exact ev_more (by repeat (first | exact trivial | refine ⟨rfl, ?_⟩)) (by exact rfl) (by exact rfl) hq
    · rw [if_neg (fun z => z.elim e1 e2)] at hu
      subst hu
      refine eN_iload (M := ML_areChunks) dL_areChunks_36 (pc' := 38) rfl rfl ?_
      refine (ev_i2l (M := ML_areChunks) dL_areChunks_38 (pc' := 39) rfl).mpr ?_
      refine eN_aload_n (M := ML_areChunks) (k := 1) rfl dL_areChunks_39 (pc' := 40) rfl rfl ?_
      refine (ev_bipush (M := ML_areChunks) (v := (nI 6)) rfl dL_areChunks_40 (pc' := 42) rfl).mpr ?_
      refine eN_laload (M := ML_areChunks) dL_areChunks_42 (pc' := 43) rfl (by assumption) (by assumption) (by omega) ?_
      refine (ev_lcmp (M := ML_areChunks) dL_areChunks_43 (pc' := 44) rfl).mpr ?_
      refine (ev_if_ge (M := ML_areChunks) (t := 88) dL_areChunks_44 (by decide) (pc' := 47) rfl).mpr (ifT (by first | assumption | omega | rfl | exact fun q => q (by assumption) | exact fun q => q rfl | (simp (disch := omega) only [nle_t, nle_f, nlt_t, nlt_f, neq_t, neq_f, i_lt0, i_le0, i_0le, i_0lt, i_eq0, i_lt, i_le, i_eq, nI_add, i_sub, i_cl, i_m1a, i_m1b, i_m1c, i_m1d, i_m1e, i_am1, i_ite0, m1_le, m1_m1, m1_ge0, not_true_eq_false, not_false_eq_true, or_self, or_false, false_or, or_true, true_or, and_self, and_true, true_and])) ?_)
      refine eN_iload (M := ML_areChunks) dL_areChunks_88 (pc' := 90) rfl rfl ?_
      refine (ev_sipush (M := ML_areChunks) (v := (nI 128)) rfl dL_areChunks_90 (pc' := 93) rfl).mpr ?_
      refine (ev_icmp_gt (M := ML_areChunks) (t := 100) dL_areChunks_93 (by decide) (pc' := 96) rfl).mpr (ifF (by first | assumption | omega | rfl | exact fun q => q (by assumption) | exact fun q => q rfl | (simp (disch := omega) only [nle_t, nle_f, nlt_t, nlt_f, neq_t, neq_f, i_lt0, i_le0, i_0le, i_0lt, i_eq0, i_lt, i_le, i_eq, nI_add, i_sub, i_cl, i_m1a, i_m1b, i_m1c, i_m1d, i_m1e, i_am1, i_ite0, m1_le, m1_m1, m1_ge0, not_true_eq_false, not_false_eq_true, or_self, or_false, false_or, or_true, true_or, and_self, and_true, true_and])) ?_)
      refine (ev_iconst (M := ML_areChunks) (v := (nI 1)) rfl dL_areChunks_96 (pc' := 97) rfl).mpr ?_
      refine (ev_goto (M := ML_areChunks) (pc' := 101) dL_areChunks_97 (by decide)).mpr ?_
      refine (ev_istore (M := ML_areChunks) dL_areChunks_101 (by decide) (pc' := 103) rfl).mpr ?_
      refine eN_iload (M := ML_areChunks) dL_areChunks_103 (pc' := 105) rfl rfl ?_
      refine eN_iload (M := ML_areChunks) dL_areChunks_105 (pc' := 107) rfl rfl ?_
      refine (ev_if_gt (M := ML_areChunks) (t := 119) dL_areChunks_107 (by decide) (pc' := 110) rfl).mpr (ifF (by first | assumption | omega | rfl | exact fun q => q (by assumption) | exact fun q => q rfl | (simp (disch := omega) only [nle_t, nle_f, nlt_t, nlt_f, neq_t, neq_f, i_lt0, i_le0, i_0le, i_0lt, i_eq0, i_lt, i_le, i_eq, nI_add, i_sub, i_cl, i_m1a, i_m1b, i_m1c, i_m1d, i_m1e, i_am1, i_ite0, m1_le, m1_m1, m1_ge0, not_true_eq_false, not_false_eq_true, or_self, or_false, false_or, or_true, true_or, and_self, and_true, true_and])) ?_)
      refine eN_iload (M := ML_areChunks) dL_areChunks_110 (pc' := 112) rfl rfl ?_
      refine eN_aload_n (M := ML_areChunks) (k := 0) rfl dL_areChunks_112 (pc' := 113) rfl rfl ?_
      refine (ev_cV0 (M := ML_areChunks) (kk := 8) dL_areChunks_113 c_9_81 mX6_openContainer rfl rfl (by decide) rfl (pc' := 116) rfl).mpr ⟨(by assumption), (Nat.le_of_ble_eq_true rfl), eN_c c1 (by first | rfl | (simp (disch := omega) only [nI_add, i_sub]) | (simp only [*])) ?_⟩
      refine (ev_icmp_ne (M := ML_areChunks) (t := 123) dL_areChunks_116 (by decide) (pc' := 119) rfl).mpr (ifT (by first | assumption | omega | rfl | exact fun q => q (by assumption) | exact fun q => q rfl | (simp (disch := omega) only [nle_t, nle_f, nlt_t, nlt_f, neq_t, neq_f, i_lt0, i_le0, i_0le, i_0lt, i_eq0, i_lt, i_le, i_eq, nI_add, i_sub, i_cl, i_m1a, i_m1b, i_m1c, i_m1d, i_m1e, i_am1, i_ite0, m1_le, m1_m1, m1_ge0, not_true_eq_false, not_false_eq_true, or_self, or_false, false_or, or_true, true_or, and_self, and_true, true_and])) ?_)
      refine (ev_iconst (M := ML_areChunks) (v := (nI 0)) rfl dL_areChunks_123 (pc' := 124) rfl).mpr ?_
      refine eN_iadd (M := ML_areChunks) dL_areChunks_124 (pc' := 125) rfl ?_
      refine (ev_istore (M := ML_areChunks) dL_areChunks_125 (by decide) (pc' := 127) rfl).mpr ?_
      refine eN_iload_n (M := ML_areChunks) (k := 3) rfl dL_areChunks_127 (pc' := 128) rfl rfl ?_
      refine eN_iload (M := ML_areChunks) dL_areChunks_128 (pc' := 130) rfl rfl ?_
      refine eN_iadd (M := ML_areChunks) dL_areChunks_130 (pc' := 131) rfl ?_
      refine (ev_istore_n (M := ML_areChunks) (k := 3) rfl dL_areChunks_131 (by decide) (pc' := 132) rfl).mpr ?_
      refine eN_iinc (M := ML_areChunks) (v := 1) rfl dL_areChunks_132 (by decide) (pc' := 135) rfl rfl ?_
      refine (ev_goto (M := ML_areChunks) (pc' := 16) dL_areChunks_135 (by decide)).mpr ?_
      exact ev_more (by repeat (first | exact trivial | refine ⟨rfl, ?_⟩)) (by exact rfl) (by exact rfl) hq
theorem Z_ch6 {o : Nat} (k8 : tK T X = 8) (hk : o < k) (hk2 : k < 10000000) (c1 : Call (d + 5) 109 [.ref X] T (.inl (some (.int (nI o)))) T) (hq : Ev (d + 5) ML_areChunks [] 141 [(7, .int (nI 0)), (6, .int (nI 1)), (5, .int (nI b)), (4, .int (nI 0)), (3, .int (nI s)), (2, .int (nI 0)), (0, .ref X), (1, .ref G)] [] T Q) : Ev (d + 5) ML_areChunks [] 16 [(7, .int (nI k)), (6, .int (nI 1)), (5, .int (nI b)), (4, .int (nI 0)), (3, .int (nI s)), (2, .int (nI 0)), (0, .ref X), (1, .ref G)] [] T Q := by
  refine eN_iload (M := ML_areChunks) dL_areChunks_16 (pc' := 18) rfl rfl ?_
  refine eN_aload_n (M := ML_areChunks) (k := 0) rfl dL_areChunks_18 (pc' := 19) rfl rfl ?_
  refine (ev_cV0 (M := ML_areChunks) (kk := 8) dL_areChunks_19 c_9_81 mX6_openContainer rfl rfl (by decide) rfl (pc' := 22) rfl).mpr ⟨(by assumption), (Nat.le_of_ble_eq_true rfl), eN_c c1 (by first | rfl | (simp (disch := omega) only [nI_add, i_sub]) | (simp only [*])) ?_⟩
  refine (ev_icmp_gt (M := ML_areChunks) (t := 138) dL_areChunks_22 (by decide) (pc' := 25) rfl).mpr (ifT (by first | assumption | omega | rfl | exact fun q => q (by assumption) | exact fun q => q rfl | (simp (disch := omega) only [nle_t, nle_f, nlt_t, nlt_f, neq_t, neq_f, i_lt0, i_le0, i_0le, i_0lt, i_eq0, i_lt, i_le, i_eq, nI_add, i_sub, i_cl, i_m1a, i_m1b, i_m1c, i_m1d, i_m1e, i_am1, i_ite0, m1_le, m1_m1, m1_ge0, not_true_eq_false, not_false_eq_true, or_self, or_false, false_or, or_true, true_or, and_self, and_true, true_and])) ?_)
  refine (ev_iconst (M := ML_areChunks) (v := (nI 0)) rfl dL_areChunks_138 (pc' := 139) rfl).mpr ?_
  refine (ev_istore (M := ML_areChunks) dL_areChunks_139 (by decide) (pc' := 141) rfl).mpr ?_
  exact ev_more (by repeat (first | exact trivial | refine ⟨rfl, ?_⟩)) (by exact rfl) (by exact rfl) hq
/-- the second loop -/
theorem Z_ch7 (k8 : tK T X = 8) (g1 : tK T G = 22) (g2 : tl T G = 7) (g3 : tJ T G 6 = jN N) (hN : N < 1000000) (hn : n < N) (c1 : Call (d + 5) 102 [.ref X, .int (nI n)] T (.inl (some (.int (nI 0)))) T) (hq : Ev (d + 5) ML_areChunks [] 141 [(7, .int (nI (n + 1))), (6, .int (nI 1)), (5, .int (nI b)), (4, .int (nI g)), (3, .int (nI s)), (2, .int (nI c)), (0, .ref X), (1, .ref G)] [] T Q) : Ev (d + 5) ML_areChunks [] 141 [(7, .int (nI n)), (6, .int (nI 1)), (5, .int (nI b)), (4, .int (nI g)), (3, .int (nI s)), (2, .int (nI c)), (0, .ref X), (1, .ref G)] [] T Q := by
  have hlc : ¬ 0 ≤ lg_cmp (nI n).toInt64 (tJ T G 6) := by rw [g3, lj_ge (by omega) (by omega)]; omega
  refine eN_iload (M := ML_areChunks) dL_areChunks_141 (pc' := 143) rfl rfl ?_
  refine (ev_i2l (M := ML_areChunks) dL_areChunks_143 (pc' := 144) rfl).mpr ?_
  refine eN_aload_n (M := ML_areChunks) (k := 1) rfl dL_areChunks_144 (pc' := 145) rfl rfl ?_
  refine (ev_bipush (M := ML_areChunks) (v := (nI 6)) rfl dL_areChunks_145 (pc' := 147) rfl).mpr ?_
  refine eN_laload (M := ML_areChunks) dL_areChunks_147 (pc' := 148) rfl (by assumption) (by assumption) (by omega) ?_
  refine (ev_lcmp (M := ML_areChunks) dL_areChunks_148 (pc' := 149) rfl).mpr ?_
  refine (ev_if_ge (M := ML_areChunks) (t := 250) dL_areChunks_149 (by decide) (pc' := 152) rfl).mpr (ifF (by first | assumption | omega | rfl | exact fun q => q (by assumption) | exact fun q => q rfl | (simp (disch := omega) only [nle_t, nle_f, nlt_t, nlt_f, neq_t, neq_f, i_lt0, i_le0, i_0le, i_0lt, i_eq0, i_lt, i_le, i_eq, nI_add, i_sub, i_cl, i_m1a, i_m1b, i_m1c, i_m1d, i_m1e, i_am1, i_ite0, m1_le, m1_m1, m1_ge0, not_true_eq_false, not_false_eq_true, or_self, or_false, false_or, or_true, true_or, and_self, and_true, true_and])) ?_)
  refine eN_iload (M := ML_areChunks) dL_areChunks_152 (pc' := 154) rfl rfl ?_
  refine (ev_if_eq (M := ML_areChunks) (t := 250) dL_areChunks_154 (by decide) (pc' := 157) rfl).mpr (ifF (by first | assumption | omega | rfl | exact fun q => q (by assumption) | exact fun q => q rfl | (simp (disch := omega) only [nle_t, nle_f, nlt_t, nlt_f, neq_t, neq_f, i_lt0, i_le0, i_0le, i_0lt, i_eq0, i_lt, i_le, i_eq, nI_add, i_sub, i_cl, i_m1a, i_m1b, i_m1c, i_m1d, i_m1e, i_am1, i_ite0, m1_le, m1_m1, m1_ge0, not_true_eq_false, not_false_eq_true, or_self, or_false, false_or, or_true, true_or, and_self, and_true, true_and])) ?_)
  refine eN_aload_n (M := ML_areChunks) (k := 0) rfl dL_areChunks_157 (pc' := 158) rfl rfl ?_
  refine eN_iload (M := ML_areChunks) dL_areChunks_158 (pc' := 160) rfl rfl ?_
  refine (ev_cV1 (M := ML_areChunks) (kk := 8) dL_areChunks_160 c_9_84 mX6_isStored rfl rfl (by decide) rfl (pc' := 163) rfl).mpr ⟨(by assumption), (Nat.le_of_ble_eq_true rfl), eN_c c1 (by first | rfl | (simp (disch := omega) only [nI_add, i_sub]) | (simp only [*])) ?_⟩
  refine (ev_if_eq (M := ML_areChunks) (t := 244) dL_areChunks_163 (by decide) (pc' := 166) rfl).mpr (ifT (by first | assumption | omega | rfl | exact fun q => q (by assumption) | exact fun q => q rfl | (simp (disch := omega) only [nle_t, nle_f, nlt_t, nlt_f, neq_t, neq_f, i_lt0, i_le0, i_0le, i_0lt, i_eq0, i_lt, i_le, i_eq, nI_add, i_sub, i_cl, i_m1a, i_m1b, i_m1c, i_m1d, i_m1e, i_am1, i_ite0, m1_le, m1_m1, m1_ge0, not_true_eq_false, not_false_eq_true, or_self, or_false, false_or, or_true, true_or, and_self, and_true, true_and])) ?_)
  refine eN_iinc (M := ML_areChunks) (v := 1) rfl dL_areChunks_244 (by decide) (pc' := 247) rfl rfl ?_
  refine (ev_goto (M := ML_areChunks) (pc' := 141) dL_areChunks_247 (by decide)).mpr ?_
  exact ev_more (by repeat (first | exact trivial | refine ⟨rfl, ?_⟩)) (by exact rfl) (by exact rfl) hq
theorem Z_ch8 (k8 : tK T X = 8) (g1 : tK T G = 22) (g2 : tl T G = 7) (g3 : tJ T G 6 = jN N) (hN : N < 1000000) (hn : n < N) (hc : c < 1000000) (hg : g < 10000000) (h1 : 1 ≤ l) (hl : l ≤ 32) (hr : r < 1000000) (hu : u = if r = 0 then l else 0) (c1 : Call (d + 5) 102 [.ref X, .int (nI n)] T (.inl (some (.int (nI 1)))) T) (c2 : Call (d + 5) 106 [.ref X, .int (nI n)] T (.inl (some (.int (nI r)))) T) (c3 : Call (d + 5) 104 [.ref X, .int (nI n)] T (.inl (some (.int (nI l)))) T) (c4 : Call (d + 5) 137 [.ref X, .ref G, .int (nI n)] T (.inl (some (.int (nI r)))) T) (hq : Ev (d + 5) ML_areChunks [] 141 [(7, .int (nI (n + 1))), (6, .int (nI 1)), (5, .int (nI b)), (4, .int (nI (g + u))), (3, .int (nI s)), (2, .int (nI (c + 1))), (0, .ref X), (1, .ref G)] [] T Q) : Ev (d + 5) ML_areChunks [] 141 [(7, .int (nI n)), (6, .int (nI 1)), (5, .int (nI b)), (4, .int (nI g)), (3, .int (nI s)), (2, .int (nI c)), (0, .ref X), (1, .ref G)] [] T Q := by
  have hlc : ¬ 0 ≤ lg_cmp (nI n).toInt64 (tJ T G 6) := by rw [g3, lj_ge (by omega) (by omega)]; omega
  by_cases e : r = 0
  · rw [if_pos e] at hu
    subst hu
    by_cases e5 : n % 5 = 0
    · skip
      refine eN_iload (M := ML_areChunks) dL_areChunks_141 (pc' := 143) rfl rfl ?_
      refine (ev_i2l (M := ML_areChunks) dL_areChunks_143 (pc' := 144) rfl).mpr ?_
      refine eN_aload_n (M := ML_areChunks) (k := 1) rfl dL_areChunks_144 (pc' := 145) rfl rfl ?_
      refine (ev_bipush (M := ML_areChunks) (v := (nI 6)) rfl dL_areChunks_145 (pc' := 147) rfl).mpr ?_
      refine eN_laload (M := ML_areChunks) dL_areChunks_147 (pc' := 148) rfl (by assumption) (by assumption) (by omega) ?_
      refine (ev_lcmp (M := ML_areChunks) dL_areChunks_148 (pc' := 149) rfl).mpr ?_
      refine (ev_if_ge (M := ML_areChunks) (t := 250) dL_areChunks_149 (by decide) (pc' := 152) rfl).mpr (ifF (by first | assumption | omega | rfl | exact fun q => q (by assumption) | exact fun q => q rfl | (simp (disch := omega) only [nle_t, nle_f, nlt_t, nlt_f, neq_t, neq_f, i_lt0, i_le0, i_0le, i_0lt, i_eq0, i_lt, i_le, i_eq, nI_add, i_sub, i_cl, i_m1a, i_m1b, i_m1c, i_m1d, i_m1e, i_am1, i_ite0, m1_le, m1_m1, m1_ge0, not_true_eq_false, not_false_eq_true, or_self, or_false, false_or, or_true, true_or, and_self, and_true, true_and])) ?_)
      refine eN_iload (M := ML_areChunks) dL_areChunks_152 (pc' := 154) rfl rfl ?_
      refine (ev_if_eq (M := ML_areChunks) (t := 250) dL_areChunks_154 (by decide) (pc' := 157) rfl).mpr (ifF (by first | assumption | omega | rfl | exact fun q => q (by assumption) | exact fun q => q rfl | (simp (disch := omega) only [nle_t, nle_f, nlt_t, nlt_f, neq_t, neq_f, i_lt0, i_le0, i_0le, i_0lt, i_eq0, i_lt, i_le, i_eq, nI_add, i_sub, i_cl, i_m1a, i_m1b, i_m1c, i_m1d, i_m1e, i_am1, i_ite0, m1_le, m1_m1, m1_ge0, not_true_eq_false, not_false_eq_true, or_self, or_false, false_or, or_true, true_or, and_self, and_true, true_and])) ?_)
      refine eN_aload_n (M := ML_areChunks) (k := 0) rfl dL_areChunks_157 (pc' := 158) rfl rfl ?_
      refine eN_iload (M := ML_areChunks) dL_areChunks_158 (pc' := 160) rfl rfl ?_
      refine (ev_cV1 (M := ML_areChunks) (kk := 8) dL_areChunks_160 c_9_84 mX6_isStored rfl rfl (by decide) rfl (pc' := 163) rfl).mpr ⟨(by assumption), (Nat.le_of_ble_eq_true rfl), eN_c c1 (by first | rfl | (simp (disch := omega) only [nI_add, i_sub]) | (simp only [*])) ?_⟩
      refine (ev_if_eq (M := ML_areChunks) (t := 244) dL_areChunks_163 (by decide) (pc' := 166) rfl).mpr (ifF (by first | assumption | omega | rfl | exact fun q => q (by assumption) | exact fun q => q rfl | (simp (disch := omega) only [nle_t, nle_f, nlt_t, nlt_f, neq_t, neq_f, i_lt0, i_le0, i_0le, i_0lt, i_eq0, i_lt, i_le, i_eq, nI_add, i_sub, i_cl, i_m1a, i_m1b, i_m1c, i_m1d, i_m1e, i_am1, i_ite0, m1_le, m1_m1, m1_ge0, not_true_eq_false, not_false_eq_true, or_self, or_false, false_or, or_true, true_or, and_self, and_true, true_and])) ?_)
      refine eN_aload_n (M := ML_areChunks) (k := 0) rfl dL_areChunks_166 (pc' := 167) rfl rfl ?_
      refine eN_iload (M := ML_areChunks) dL_areChunks_167 (pc' := 169) rfl rfl ?_
      refine (ev_cV1 (M := ML_areChunks) (kk := 8) dL_areChunks_169 c_9_91 mX6_references rfl rfl (by decide) rfl (pc' := 172) rfl).mpr ⟨(by assumption), (Nat.le_of_ble_eq_true rfl), eN_c c2 (by first | rfl | (simp (disch := omega) only [nI_add, i_sub]) | (simp only [*])) ?_⟩
      refine (ev_istore (M := ML_areChunks) dL_areChunks_172 (by decide) (pc' := 174) rfl).mpr ?_
      refine eN_iinc (M := ML_areChunks) (v := 1) rfl dL_areChunks_174 (by decide) (pc' := 177) rfl rfl ?_
      refine eN_iload (M := ML_areChunks) dL_areChunks_177 (pc' := 179) rfl rfl ?_
      refine eN_iload (M := ML_areChunks) dL_areChunks_179 (pc' := 181) rfl rfl ?_
      refine (ev_if_ne (M := ML_areChunks) (t := 193) dL_areChunks_181 (by decide) (pc' := 184) rfl).mpr (ifF (by first | assumption | omega | rfl | exact fun q => q (by assumption) | exact fun q => q rfl | (simp (disch := omega) only [nle_t, nle_f, nlt_t, nlt_f, neq_t, neq_f, i_lt0, i_le0, i_0le, i_0lt, i_eq0, i_lt, i_le, i_eq, nI_add, i_sub, i_cl, i_m1a, i_m1b, i_m1c, i_m1d, i_m1e, i_am1, i_ite0, m1_le, m1_m1, m1_ge0, not_true_eq_false, not_false_eq_true, or_self, or_false, false_or, or_true, true_or, and_self, and_true, true_and])) ?_)
      refine eN_aload_n (M := ML_areChunks) (k := 0) rfl dL_areChunks_184 (pc' := 185) rfl rfl ?_
      refine eN_iload (M := ML_areChunks) dL_areChunks_185 (pc' := 187) rfl rfl ?_
      refine (ev_cV1 (M := ML_areChunks) (kk := 8) dL_areChunks_187 c_9_35 mX6_chunkLength rfl rfl (by decide) rfl (pc' := 190) rfl).mpr ⟨(by assumption), (Nat.le_of_ble_eq_true rfl), eN_c c3 (by first | rfl | (simp (disch := omega) only [nI_add, i_sub]) | (simp only [*])) ?_⟩
      refine (ev_goto (M := ML_areChunks) (pc' := 194) dL_areChunks_190 (by decide)).mpr ?_
      refine eN_iadd (M := ML_areChunks) dL_areChunks_194 (pc' := 195) rfl ?_
      refine (ev_istore (M := ML_areChunks) dL_areChunks_195 (by decide) (pc' := 197) rfl).mpr ?_
      refine eN_aload_n (M := ML_areChunks) (k := 0) rfl dL_areChunks_197 (pc' := 198) rfl rfl ?_
      refine eN_iload (M := ML_areChunks) dL_areChunks_198 (pc' := 200) rfl rfl ?_
      refine (ev_cV1 (M := ML_areChunks) (kk := 8) dL_areChunks_200 c_9_35 mX6_chunkLength rfl rfl (by decide) rfl (pc' := 203) rfl).mpr ⟨(by assumption), (Nat.le_of_ble_eq_true rfl), eN_c c3 (by first | rfl | (simp (disch := omega) only [nI_add, i_sub]) | (simp only [*])) ?_⟩
      refine (ev_iconst (M := ML_areChunks) (v := (nI 1)) rfl dL_areChunks_203 (pc' := 204) rfl).mpr ?_
      refine (ev_icmp_lt (M := ML_areChunks) (t := 241) dL_areChunks_204 (by decide) (pc' := 207) rfl).mpr (ifF (by first | assumption | omega | rfl | exact fun q => q (by assumption) | exact fun q => q rfl | (simp (disch := omega) only [nle_t, nle_f, nlt_t, nlt_f, neq_t, neq_f, i_lt0, i_le0, i_0le, i_0lt, i_eq0, i_lt, i_le, i_eq, nI_add, i_sub, i_cl, i_m1a, i_m1b, i_m1c, i_m1d, i_m1e, i_am1, i_ite0, m1_le, m1_m1, m1_ge0, not_true_eq_false, not_false_eq_true, or_self, or_false, false_or, or_true, true_or, and_self, and_true, true_and])) ?_)
      refine eN_aload_n (M := ML_areChunks) (k := 0) rfl dL_areChunks_207 (pc' := 208) rfl rfl ?_
      refine eN_iload (M := ML_areChunks) dL_areChunks_208 (pc' := 210) rfl rfl ?_
      refine (ev_cV1 (M := ML_areChunks) (kk := 8) dL_areChunks_210 c_9_35 mX6_chunkLength rfl rfl (by decide) rfl (pc' := 213) rfl).mpr ⟨(by assumption), (Nat.le_of_ble_eq_true rfl), eN_c c3 (by first | rfl | (simp (disch := omega) only [nI_add, i_sub]) | (simp only [*])) ?_⟩
      refine (ev_bipush (M := ML_areChunks) (v := (nI 32)) rfl dL_areChunks_213 (pc' := 215) rfl).mpr ?_
      refine (ev_icmp_gt (M := ML_areChunks) (t := 241) dL_areChunks_215 (by decide) (pc' := 218) rfl).mpr (ifF (by first | assumption | omega | rfl | exact fun q => q (by assumption) | exact fun q => q rfl | (simp (disch := omega) only [nle_t, nle_f, nlt_t, nlt_f, neq_t, neq_f, i_lt0, i_le0, i_0le, i_0lt, i_eq0, i_lt, i_le, i_eq, nI_add, i_sub, i_cl, i_m1a, i_m1b, i_m1c, i_m1d, i_m1e, i_am1, i_ite0, m1_le, m1_m1, m1_ge0, not_true_eq_false, not_false_eq_true, or_self, or_false, false_or, or_true, true_or, and_self, and_true, true_and])) ?_)
      refine eN_iload (M := ML_areChunks) dL_areChunks_218 (pc' := 220) rfl rfl ?_
      refine (ev_iconst (M := ML_areChunks) (v := (nI 5)) rfl dL_areChunks_220 (pc' := 221) rfl).mpr ?_
      refine eN_irem (M := ML_areChunks) dL_areChunks_221 (pc' := 222) rfl (by omega) ?_
      refine (ev_if_gt (M := ML_areChunks) (t := 237) dL_areChunks_222 (by decide) (pc' := 225) rfl).mpr (ifF (by first | assumption | omega | rfl | exact fun q => q (by assumption) | exact fun q => q rfl | (simp (disch := omega) only [nle_t, nle_f, nlt_t, nlt_f, neq_t, neq_f, i_lt0, i_le0, i_0le, i_0lt, i_eq0, i_lt, i_le, i_eq, nI_add, i_sub, i_cl, i_m1a, i_m1b, i_m1c, i_m1d, i_m1e, i_am1, i_ite0, m1_le, m1_m1, m1_ge0, not_true_eq_false, not_false_eq_true, or_self, or_false, false_or, or_true, true_or, and_self, and_true, true_and])) ?_)
      refine eN_iload (M := ML_areChunks) dL_areChunks_225 (pc' := 227) rfl rfl ?_
      refine eN_aload_n (M := ML_areChunks) (k := 0) rfl dL_areChunks_227 (pc' := 228) rfl rfl ?_
      refine eN_aload_n (M := ML_areChunks) (k := 1) rfl dL_areChunks_228 (pc' := 229) rfl rfl ?_
      refine eN_iload (M := ML_areChunks) dL_areChunks_229 (pc' := 231) rfl rfl ?_
      refine (ev_cS3 (M := ML_areChunks) dL_areChunks_231 c_9_94 (by decide) mL_uses rfl rfl (pc' := 234) rfl).mpr ⟨(Nat.le_of_ble_eq_true rfl), eN_c c4 (by first | rfl | (simp (disch := omega) only [nI_add, i_sub]) | (simp only [*])) ?_⟩
      refine (ev_icmp_ne (M := ML_areChunks) (t := 241) dL_areChunks_234 (by decide) (pc' := 237) rfl).mpr (ifF (by first | assumption | omega | rfl | exact fun q => q (by assumption) | exact fun q => q rfl | (simp (disch := omega) only [nle_t, nle_f, nlt_t, nlt_f, neq_t, neq_f, i_lt0, i_le0, i_0le, i_0lt, i_eq0, i_lt, i_le, i_eq, nI_add, i_sub, i_cl, i_m1a, i_m1b, i_m1c, i_m1d, i_m1e, i_am1, i_ite0, m1_le, m1_m1, m1_ge0, not_true_eq_false, not_false_eq_true, or_self, or_false, false_or, or_true, true_or, and_self, and_true, true_and])) ?_)
      refine (ev_iconst (M := ML_areChunks) (v := (nI 1)) rfl dL_areChunks_237 (pc' := 238) rfl).mpr ?_
      refine (ev_goto (M := ML_areChunks) (pc' := 242) dL_areChunks_238 (by decide)).mpr ?_
      refine (ev_istore (M := ML_areChunks) dL_areChunks_242 (by decide) (pc' := 244) rfl).mpr ?_
      refine eN_iinc (M := ML_areChunks) (v := 1) rfl dL_areChunks_244 (by decide) (pc' := 247) rfl rfl ?_
      refine (ev_goto (M := ML_areChunks) (pc' := 141) dL_areChunks_247 (by decide)).mpr ?_
      exact ev_more (by repeat (first | exact trivial | refine ⟨rfl, ?_⟩)) (by exact rfl) (by exact rfl) hq
    · skip
      refine eN_iload (M := ML_areChunks) dL_areChunks_141 (pc' := 143) rfl rfl ?_
      refine (ev_i2l (M := ML_areChunks) dL_areChunks_143 (pc' := 144) rfl).mpr ?_
      refine eN_aload_n (M := ML_areChunks) (k := 1) rfl dL_areChunks_144 (pc' := 145) rfl rfl ?_
      refine (ev_bipush (M := ML_areChunks) (v := (nI 6)) rfl dL_areChunks_145 (pc' := 147) rfl).mpr ?_
      refine eN_laload (M := ML_areChunks) dL_areChunks_147 (pc' := 148) rfl (by assumption) (by assumption) (by omega) ?_
      refine (ev_lcmp (M := ML_areChunks) dL_areChunks_148 (pc' := 149) rfl).mpr ?_
      refine (ev_if_ge (M := ML_areChunks) (t := 250) dL_areChunks_149 (by decide) (pc' := 152) rfl).mpr (ifF (by first | assumption | omega | rfl | exact fun q => q (by assumption) | exact fun q => q rfl | (simp (disch := omega) only [nle_t, nle_f, nlt_t, nlt_f, neq_t, neq_f, i_lt0, i_le0, i_0le, i_0lt, i_eq0, i_lt, i_le, i_eq, nI_add, i_sub, i_cl, i_m1a, i_m1b, i_m1c, i_m1d, i_m1e, i_am1, i_ite0, m1_le, m1_m1, m1_ge0, not_true_eq_false, not_false_eq_true, or_self, or_false, false_or, or_true, true_or, and_self, and_true, true_and])) ?_)
      refine eN_iload (M := ML_areChunks) dL_areChunks_152 (pc' := 154) rfl rfl ?_
      refine (ev_if_eq (M := ML_areChunks) (t := 250) dL_areChunks_154 (by decide) (pc' := 157) rfl).mpr (ifF (by first | assumption | omega | rfl | exact fun q => q (by assumption) | exact fun q => q rfl | (simp (disch := omega) only [nle_t, nle_f, nlt_t, nlt_f, neq_t, neq_f, i_lt0, i_le0, i_0le, i_0lt, i_eq0, i_lt, i_le, i_eq, nI_add, i_sub, i_cl, i_m1a, i_m1b, i_m1c, i_m1d, i_m1e, i_am1, i_ite0, m1_le, m1_m1, m1_ge0, not_true_eq_false, not_false_eq_true, or_self, or_false, false_or, or_true, true_or, and_self, and_true, true_and])) ?_)
      refine eN_aload_n (M := ML_areChunks) (k := 0) rfl dL_areChunks_157 (pc' := 158) rfl rfl ?_
      refine eN_iload (M := ML_areChunks) dL_areChunks_158 (pc' := 160) rfl rfl ?_
      refine (ev_cV1 (M := ML_areChunks) (kk := 8) dL_areChunks_160 c_9_84 mX6_isStored rfl rfl (by decide) rfl (pc' := 163) rfl).mpr ⟨(by assumption), (Nat.le_of_ble_eq_true rfl), eN_c c1 (by first | rfl | (simp (disch := omega) only [nI_add, i_sub]) | (simp only [*])) ?_⟩
      refine (ev_if_eq (M := ML_areChunks) (t := 244) dL_areChunks_163 (by decide) (pc' := 166) rfl).mpr (ifF (by first | assumption | omega | rfl | exact fun q => q (by assumption) | exact fun q => q rfl | (simp (disch := omega) only [nle_t, nle_f, nlt_t, nlt_f, neq_t, neq_f, i_lt0, i_le0, i_0le, i_0lt, i_eq0, i_lt, i_le, i_eq, nI_add, i_sub, i_cl, i_m1a, i_m1b, i_m1c, i_m1d, i_m1e, i_am1, i_ite0, m1_le, m1_m1, m1_ge0, not_true_eq_false, not_false_eq_true, or_self, or_false, false_or, or_true, true_or, and_self, and_true, true_and])) ?_)
      refine eN_aload_n (M := ML_areChunks) (k := 0) rfl dL_areChunks_166 (pc' := 167) rfl rfl ?_
      refine eN_iload (M := ML_areChunks) dL_areChunks_167 (pc' := 169) rfl rfl ?_
      refine (ev_cV1 (M := ML_areChunks) (kk := 8) dL_areChunks_169 c_9_91 mX6_references rfl rfl (by decide) rfl (pc' := 172) rfl).mpr ⟨(by assumption), (Nat.le_of_ble_eq_true rfl), eN_c c2 (by first | rfl | (simp (disch := omega) only [nI_add, i_sub]) | (simp only [*])) ?_⟩
      refine (ev_istore (M := ML_areChunks) dL_areChunks_172 (by decide) (pc' := 174) rfl).mpr ?_
      refine eN_iinc (M := ML_areChunks) (v := 1) rfl dL_areChunks_174 (by decide) (pc' := 177) rfl rfl ?_
      refine eN_iload (M := ML_areChunks) dL_areChunks_177 (pc' := 179) rfl rfl ?_
      refine eN_iload (M := ML_areChunks) dL_areChunks_179 (pc' := 181) rfl rfl ?_
      refine (ev_if_ne (M := ML_areChunks) (t := 193) dL_areChunks_181 (by decide) (pc' := 184) rfl).mpr (ifF (by first | assumption | omega | rfl | exact fun q => q (by assumption) | exact fun q => q rfl | (simp (disch := omega) only [nle_t, nle_f, nlt_t, nlt_f, neq_t, neq_f, i_lt0, i_le0, i_0le, i_0lt, i_eq0, i_lt, i_le, i_eq, nI_add, i_sub, i_cl, i_m1a, i_m1b, i_m1c, i_m1d, i_m1e, i_am1, i_ite0, m1_le, m1_m1, m1_ge0, not_true_eq_false, not_false_eq_true, or_self, or_false, false_or, or_true, true_or, and_self, and_true, true_and])) ?_)
      refine eN_aload_n (M := ML_areChunks) (k := 0) rfl dL_areChunks_184 (pc' := 185) rfl rfl ?_
      refine eN_iload (M := ML_areChunks) dL_areChunks_185 (pc' := 187) rfl rfl ?_
      refine (ev_cV1 (M := ML_areChunks) (kk := 8) dL_areChunks_187 c_9_35 mX6_chunkLength rfl rfl (by decide) rfl (pc' := 190) rfl).mpr ⟨(by assumption), (Nat.le_of_ble_eq_true rfl), eN_c c3 (by first | rfl | (simp (disch := omega) only [nI_add, i_sub]) | (simp only [*])) ?_⟩
      refine (ev_goto (M := ML_areChunks) (pc' := 194) dL_areChunks_190 (by decide)).mpr ?_
      refine eN_iadd (M := ML_areChunks) dL_areChunks_194 (pc' := 195) rfl ?_
      refine (ev_istore (M := ML_areChunks) dL_areChunks_195 (by decide) (pc' := 197) rfl).mpr ?_
      refine eN_aload_n (M := ML_areChunks) (k := 0) rfl dL_areChunks_197 (pc' := 198) rfl rfl ?_
      refine eN_iload (M := ML_areChunks) dL_areChunks_198 (pc' := 200) rfl rfl ?_
      refine (ev_cV1 (M := ML_areChunks) (kk := 8) dL_areChunks_200 c_9_35 mX6_chunkLength rfl rfl (by decide) rfl (pc' := 203) rfl).mpr ⟨(by assumption), (Nat.le_of_ble_eq_true rfl), eN_c c3 (by first | rfl | (simp (disch := omega) only [nI_add, i_sub]) | (simp only [*])) ?_⟩
      refine (ev_iconst (M := ML_areChunks) (v := (nI 1)) rfl dL_areChunks_203 (pc' := 204) rfl).mpr ?_
      refine (ev_icmp_lt (M := ML_areChunks) (t := 241) dL_areChunks_204 (by decide) (pc' := 207) rfl).mpr (ifF (by first | assumption | omega | rfl | exact fun q => q (by assumption) | exact fun q => q rfl | (simp (disch := omega) only [nle_t, nle_f, nlt_t, nlt_f, neq_t, neq_f, i_lt0, i_le0, i_0le, i_0lt, i_eq0, i_lt, i_le, i_eq, nI_add, i_sub, i_cl, i_m1a, i_m1b, i_m1c, i_m1d, i_m1e, i_am1, i_ite0, m1_le, m1_m1, m1_ge0, not_true_eq_false, not_false_eq_true, or_self, or_false, false_or, or_true, true_or, and_self, and_true, true_and])) ?_)
      refine eN_aload_n (M := ML_areChunks) (k := 0) rfl dL_areChunks_207 (pc' := 208) rfl rfl ?_
      refine eN_iload (M := ML_areChunks) dL_areChunks_208 (pc' := 210) rfl rfl ?_
      refine (ev_cV1 (M := ML_areChunks) (kk := 8) dL_areChunks_210 c_9_35 mX6_chunkLength rfl rfl (by decide) rfl (pc' := 213) rfl).mpr ⟨(by assumption), (Nat.le_of_ble_eq_true rfl), eN_c c3 (by first | rfl | (simp (disch := omega) only [nI_add, i_sub]) | (simp only [*])) ?_⟩
      refine (ev_bipush (M := ML_areChunks) (v := (nI 32)) rfl dL_areChunks_213 (pc' := 215) rfl).mpr ?_
      refine (ev_icmp_gt (M := ML_areChunks) (t := 241) dL_areChunks_215 (by decide) (pc' := 218) rfl).mpr (ifF (by first | assumption | omega | rfl | exact fun q => q (by assumption) | exact fun q => q rfl | (simp (disch := omega) only [nle_t, nle_f, nlt_t, nlt_f, neq_t, neq_f, i_lt0, i_le0, i_0le, i_0lt, i_eq0, i_lt, i_le, i_eq, nI_add, i_sub, i_cl, i_m1a, i_m1b, i_m1c, i_m1d, i_m1e, i_am1, i_ite0, m1_le, m1_m1, m1_ge0, not_true_eq_false, not_false_eq_true, or_self, or_false, false_or, or_true, true_or, and_self, and_true, true_and])) ?_)
      refine eN_iload (M := ML_areChunks) dL_areChunks_218 (pc' := 220) rfl rfl ?_
      refine (ev_iconst (M := ML_areChunks) (v := (nI 5)) rfl dL_areChunks_220 (pc' := 221) rfl).mpr ?_
      refine eN_irem (M := ML_areChunks) dL_areChunks_221 (pc' := 222) rfl (by omega) ?_
      refine (ev_if_gt (M := ML_areChunks) (t := 237) dL_areChunks_222 (by decide) (pc' := 225) rfl).mpr (ifT (by first | assumption | omega | rfl | exact fun q => q (by assumption) | exact fun q => q rfl | (simp (disch := omega) only [nle_t, nle_f, nlt_t, nlt_f, neq_t, neq_f, i_lt0, i_le0, i_0le, i_0lt, i_eq0, i_lt, i_le, i_eq, nI_add, i_sub, i_cl, i_m1a, i_m1b, i_m1c, i_m1d, i_m1e, i_am1, i_ite0, m1_le, m1_m1, m1_ge0, not_true_eq_false, not_false_eq_true, or_self, or_false, false_or, or_true, true_or, and_self, and_true, true_and])) ?_)
      refine (ev_iconst (M := ML_areChunks) (v := (nI 1)) rfl dL_areChunks_237 (pc' := 238) rfl).mpr ?_
      refine (ev_goto (M := ML_areChunks) (pc' := 242) dL_areChunks_238 (by decide)).mpr ?_
      refine (ev_istore (M := ML_areChunks) dL_areChunks_242 (by decide) (pc' := 244) rfl).mpr ?_
      refine eN_iinc (M := ML_areChunks) (v := 1) rfl dL_areChunks_244 (by decide) (pc' := 247) rfl rfl ?_
      refine (ev_goto (M := ML_areChunks) (pc' := 141) dL_areChunks_247 (by decide)).mpr ?_
      exact ev_more (by repeat (first | exact trivial | refine ⟨rfl, ?_⟩)) (by exact rfl) (by exact rfl) hq
  · rw [if_neg e] at hu
    subst hu
    by_cases e5 : n % 5 = 0
    · skip
      refine eN_iload (M := ML_areChunks) dL_areChunks_141 (pc' := 143) rfl rfl ?_
      refine (ev_i2l (M := ML_areChunks) dL_areChunks_143 (pc' := 144) rfl).mpr ?_
      refine eN_aload_n (M := ML_areChunks) (k := 1) rfl dL_areChunks_144 (pc' := 145) rfl rfl ?_
      refine (ev_bipush (M := ML_areChunks) (v := (nI 6)) rfl dL_areChunks_145 (pc' := 147) rfl).mpr ?_
      refine eN_laload (M := ML_areChunks) dL_areChunks_147 (pc' := 148) rfl (by assumption) (by assumption) (by omega) ?_
      refine (ev_lcmp (M := ML_areChunks) dL_areChunks_148 (pc' := 149) rfl).mpr ?_
      refine (ev_if_ge (M := ML_areChunks) (t := 250) dL_areChunks_149 (by decide) (pc' := 152) rfl).mpr (ifF (by first | assumption | omega | rfl | exact fun q => q (by assumption) | exact fun q => q rfl | (simp (disch := omega) only [nle_t, nle_f, nlt_t, nlt_f, neq_t, neq_f, i_lt0, i_le0, i_0le, i_0lt, i_eq0, i_lt, i_le, i_eq, nI_add, i_sub, i_cl, i_m1a, i_m1b, i_m1c, i_m1d, i_m1e, i_am1, i_ite0, m1_le, m1_m1, m1_ge0, not_true_eq_false, not_false_eq_true, or_self, or_false, false_or, or_true, true_or, and_self, and_true, true_and])) ?_)
      refine eN_iload (M := ML_areChunks) dL_areChunks_152 (pc' := 154) rfl rfl ?_
      refine (ev_if_eq (M := ML_areChunks) (t := 250) dL_areChunks_154 (by decide) (pc' := 157) rfl).mpr (ifF (by first | assumption | omega | rfl | exact fun q => q (by assumption) | exact fun q => q rfl | (simp (disch := omega) only [nle_t, nle_f, nlt_t, nlt_f, neq_t, neq_f, i_lt0, i_le0, i_0le, i_0lt, i_eq0, i_lt, i_le, i_eq, nI_add, i_sub, i_cl, i_m1a, i_m1b, i_m1c, i_m1d, i_m1e, i_am1, i_ite0, m1_le, m1_m1, m1_ge0, not_true_eq_false, not_false_eq_true, or_self, or_false, false_or, or_true, true_or, and_self, and_true, true_and])) ?_)
      refine eN_aload_n (M := ML_areChunks) (k := 0) rfl dL_areChunks_157 (pc' := 158) rfl rfl ?_
      refine eN_iload (M := ML_areChunks) dL_areChunks_158 (pc' := 160) rfl rfl ?_
      refine (ev_cV1 (M := ML_areChunks) (kk := 8) dL_areChunks_160 c_9_84 mX6_isStored rfl rfl (by decide) rfl (pc' := 163) rfl).mpr ⟨(by assumption), (Nat.le_of_ble_eq_true rfl), eN_c c1 (by first | rfl | (simp (disch := omega) only [nI_add, i_sub]) | (simp only [*])) ?_⟩
      refine (ev_if_eq (M := ML_areChunks) (t := 244) dL_areChunks_163 (by decide) (pc' := 166) rfl).mpr (ifF (by first | assumption | omega | rfl | exact fun q => q (by assumption) | exact fun q => q rfl | (simp (disch := omega) only [nle_t, nle_f, nlt_t, nlt_f, neq_t, neq_f, i_lt0, i_le0, i_0le, i_0lt, i_eq0, i_lt, i_le, i_eq, nI_add, i_sub, i_cl, i_m1a, i_m1b, i_m1c, i_m1d, i_m1e, i_am1, i_ite0, m1_le, m1_m1, m1_ge0, not_true_eq_false, not_false_eq_true, or_self, or_false, false_or, or_true, true_or, and_self, and_true, true_and])) ?_)
      refine eN_aload_n (M := ML_areChunks) (k := 0) rfl dL_areChunks_166 (pc' := 167) rfl rfl ?_
      refine eN_iload (M := ML_areChunks) dL_areChunks_167 (pc' := 169) rfl rfl ?_
      refine (ev_cV1 (M := ML_areChunks) (kk := 8) dL_areChunks_169 c_9_91 mX6_references rfl rfl (by decide) rfl (pc' := 172) rfl).mpr ⟨(by assumption), (Nat.le_of_ble_eq_true rfl), eN_c c2 (by first | rfl | (simp (disch := omega) only [nI_add, i_sub]) | (simp only [*])) ?_⟩
      refine (ev_istore (M := ML_areChunks) dL_areChunks_172 (by decide) (pc' := 174) rfl).mpr ?_
      refine eN_iinc (M := ML_areChunks) (v := 1) rfl dL_areChunks_174 (by decide) (pc' := 177) rfl rfl ?_
      refine eN_iload (M := ML_areChunks) dL_areChunks_177 (pc' := 179) rfl rfl ?_
      refine eN_iload (M := ML_areChunks) dL_areChunks_179 (pc' := 181) rfl rfl ?_
      refine (ev_if_ne (M := ML_areChunks) (t := 193) dL_areChunks_181 (by decide) (pc' := 184) rfl).mpr (ifT (by first | assumption | omega | rfl | exact fun q => q (by assumption) | exact fun q => q rfl | (simp (disch := omega) only [nle_t, nle_f, nlt_t, nlt_f, neq_t, neq_f, i_lt0, i_le0, i_0le, i_0lt, i_eq0, i_lt, i_le, i_eq, nI_add, i_sub, i_cl, i_m1a, i_m1b, i_m1c, i_m1d, i_m1e, i_am1, i_ite0, m1_le, m1_m1, m1_ge0, not_true_eq_false, not_false_eq_true, or_self, or_false, false_or, or_true, true_or, and_self, and_true, true_and])) ?_)
      refine (ev_iconst (M := ML_areChunks) (v := (nI 0)) rfl dL_areChunks_193 (pc' := 194) rfl).mpr ?_
      refine eN_iadd (M := ML_areChunks) dL_areChunks_194 (pc' := 195) rfl ?_
      refine (ev_istore (M := ML_areChunks) dL_areChunks_195 (by decide) (pc' := 197) rfl).mpr ?_
      refine eN_aload_n (M := ML_areChunks) (k := 0) rfl dL_areChunks_197 (pc' := 198) rfl rfl ?_
      refine eN_iload (M := ML_areChunks) dL_areChunks_198 (pc' := 200) rfl rfl ?_
      refine (ev_cV1 (M := ML_areChunks) (kk := 8) dL_areChunks_200 c_9_35 mX6_chunkLength rfl rfl (by decide) rfl (pc' := 203) rfl).mpr ⟨(by assumption), (Nat.le_of_ble_eq_true rfl), eN_c c3 (by first | rfl | (simp (disch := omega) only [nI_add, i_sub]) | (simp only [*])) ?_⟩
      refine (ev_iconst (M := ML_areChunks) (v := (nI 1)) rfl dL_areChunks_203 (pc' := 204) rfl).mpr ?_
      refine (ev_icmp_lt (M := ML_areChunks) (t := 241) dL_areChunks_204 (by decide) (pc' := 207) rfl).mpr (ifF (by first | assumption | omega | rfl | exact fun q => q (by assumption) | exact fun q => q rfl | (simp (disch := omega) only [nle_t, nle_f, nlt_t, nlt_f, neq_t, neq_f, i_lt0, i_le0, i_0le, i_0lt, i_eq0, i_lt, i_le, i_eq, nI_add, i_sub, i_cl, i_m1a, i_m1b, i_m1c, i_m1d, i_m1e, i_am1, i_ite0, m1_le, m1_m1, m1_ge0, not_true_eq_false, not_false_eq_true, or_self, or_false, false_or, or_true, true_or, and_self, and_true, true_and])) ?_)
      refine eN_aload_n (M := ML_areChunks) (k := 0) rfl dL_areChunks_207 (pc' := 208) rfl rfl ?_
      refine eN_iload (M := ML_areChunks) dL_areChunks_208 (pc' := 210) rfl rfl ?_
      refine (ev_cV1 (M := ML_areChunks) (kk := 8) dL_areChunks_210 c_9_35 mX6_chunkLength rfl rfl (by decide) rfl (pc' := 213) rfl).mpr ⟨(by assumption), (Nat.le_of_ble_eq_true rfl), eN_c c3 (by first | rfl | (simp (disch := omega) only [nI_add, i_sub]) | (simp only [*])) ?_⟩
      refine (ev_bipush (M := ML_areChunks) (v := (nI 32)) rfl dL_areChunks_213 (pc' := 215) rfl).mpr ?_
      refine (ev_icmp_gt (M := ML_areChunks) (t := 241) dL_areChunks_215 (by decide) (pc' := 218) rfl).mpr (ifF (by first | assumption | omega | rfl | exact fun q => q (by assumption) | exact fun q => q rfl | (simp (disch := omega) only [nle_t, nle_f, nlt_t, nlt_f, neq_t, neq_f, i_lt0, i_le0, i_0le, i_0lt, i_eq0, i_lt, i_le, i_eq, nI_add, i_sub, i_cl, i_m1a, i_m1b, i_m1c, i_m1d, i_m1e, i_am1, i_ite0, m1_le, m1_m1, m1_ge0, not_true_eq_false, not_false_eq_true, or_self, or_false, false_or, or_true, true_or, and_self, and_true, true_and])) ?_)
      refine eN_iload (M := ML_areChunks) dL_areChunks_218 (pc' := 220) rfl rfl ?_
      refine (ev_iconst (M := ML_areChunks) (v := (nI 5)) rfl dL_areChunks_220 (pc' := 221) rfl).mpr ?_
      refine eN_irem (M := ML_areChunks) dL_areChunks_221 (pc' := 222) rfl (by omega) ?_
      refine (ev_if_gt (M := ML_areChunks) (t := 237) dL_areChunks_222 (by decide) (pc' := 225) rfl).mpr (ifF (by first | assumption | omega | rfl | exact fun q => q (by assumption) | exact fun q => q rfl | (simp (disch := omega) only [nle_t, nle_f, nlt_t, nlt_f, neq_t, neq_f, i_lt0, i_le0, i_0le, i_0lt, i_eq0, i_lt, i_le, i_eq, nI_add, i_sub, i_cl, i_m1a, i_m1b, i_m1c, i_m1d, i_m1e, i_am1, i_ite0, m1_le, m1_m1, m1_ge0, not_true_eq_false, not_false_eq_true, or_self, or_false, false_or, or_true, true_or, and_self, and_true, true_and])) ?_)
      refine eN_iload (M := ML_areChunks) dL_areChunks_225 (pc' := 227) rfl rfl ?_
      refine eN_aload_n (M := ML_areChunks) (k := 0) rfl dL_areChunks_227 (pc' := 228) rfl rfl ?_
      refine eN_aload_n (M := ML_areChunks) (k := 1) rfl dL_areChunks_228 (pc' := 229) rfl rfl ?_
      refine eN_iload (M := ML_areChunks) dL_areChunks_229 (pc' := 231) rfl rfl ?_
      refine (ev_cS3 (M := ML_areChunks) dL_areChunks_231 c_9_94 (by decide) mL_uses rfl rfl (pc' := 234) rfl).mpr ⟨(Nat.le_of_ble_eq_true rfl), eN_c c4 (by first | rfl | (simp (disch := omega) only [nI_add, i_sub]) | (simp only [*])) ?_⟩
      refine (ev_icmp_ne (M := ML_areChunks) (t := 241) dL_areChunks_234 (by decide) (pc' := 237) rfl).mpr (ifF (by first | assumption | omega | rfl | exact fun q => q (by assumption) | exact fun q => q rfl | (simp (disch := omega) only [nle_t, nle_f, nlt_t, nlt_f, neq_t, neq_f, i_lt0, i_le0, i_0le, i_0lt, i_eq0, i_lt, i_le, i_eq, nI_add, i_sub, i_cl, i_m1a, i_m1b, i_m1c, i_m1d, i_m1e, i_am1, i_ite0, m1_le, m1_m1, m1_ge0, not_true_eq_false, not_false_eq_true, or_self, or_false, false_or, or_true, true_or, and_self, and_true, true_and])) ?_)
      refine (ev_iconst (M := ML_areChunks) (v := (nI 1)) rfl dL_areChunks_237 (pc' := 238) rfl).mpr ?_
      refine (ev_goto (M := ML_areChunks) (pc' := 242) dL_areChunks_238 (by decide)).mpr ?_
      refine (ev_istore (M := ML_areChunks) dL_areChunks_242 (by decide) (pc' := 244) rfl).mpr ?_
      refine eN_iinc (M := ML_areChunks) (v := 1) rfl dL_areChunks_244 (by decide) (pc' := 247) rfl rfl ?_
      refine (ev_goto (M := ML_areChunks) (pc' := 141) dL_areChunks_247 (by decide)).mpr ?_
      exact ev_more (by repeat (first | exact trivial | refine ⟨rfl, ?_⟩)) (by exact rfl) (by exact rfl) hq
    · skip
      refine eN_iload (M := ML_areChunks) dL_areChunks_141 (pc' := 143) rfl rfl ?_
      refine (ev_i2l (M := ML_areChunks) dL_areChunks_143 (pc' := 144) rfl).mpr ?_
      refine eN_aload_n (M := ML_areChunks) (k := 1) rfl dL_areChunks_144 (pc' := 145) rfl rfl ?_
      refine (ev_bipush (M := ML_areChunks) (v := (nI 6)) rfl dL_areChunks_145 (pc' := 147) rfl).mpr ?_
      refine eN_laload (M := ML_areChunks) dL_areChunks_147 (pc' := 148) rfl (by assumption) (by assumption) (by omega) ?_
      refine (ev_lcmp (M := ML_areChunks) dL_areChunks_148 (pc' := 149) rfl).mpr ?_
      refine (ev_if_ge (M := ML_areChunks) (t := 250) dL_areChunks_149 (by decide) (pc' := 152) rfl).mpr (ifF (by first | assumption | omega | rfl | exact fun q => q (by assumption) | exact fun q => q rfl | (simp (disch := omega) only [nle_t, nle_f, nlt_t, nlt_f, neq_t, neq_f, i_lt0, i_le0, i_0le, i_0lt, i_eq0, i_lt, i_le, i_eq, nI_add, i_sub, i_cl, i_m1a, i_m1b, i_m1c, i_m1d, i_m1e, i_am1, i_ite0, m1_le, m1_m1, m1_ge0, not_true_eq_false, not_false_eq_true, or_self, or_false, false_or, or_true, true_or, and_self, and_true, true_and])) ?_)
      refine eN_iload (M := ML_areChunks) dL_areChunks_152 (pc' := 154) rfl rfl ?_
      refine (ev_if_eq (M := ML_areChunks) (t := 250) dL_areChunks_154 (by decide) (pc' := 157) rfl).mpr (ifF (by first | assumption | omega | rfl | exact fun q => q (by assumption) | exact fun q => q rfl | (simp (disch := omega) only [nle_t, nle_f, nlt_t, nlt_f, neq_t, neq_f, i_lt0, i_le0, i_0le, i_0lt, i_eq0, i_lt, i_le, i_eq, nI_add, i_sub, i_cl, i_m1a, i_m1b, i_m1c, i_m1d, i_m1e, i_am1, i_ite0, m1_le, m1_m1, m1_ge0, not_true_eq_false, not_false_eq_true, or_self, or_false, false_or, or_true, true_or, and_self, and_true, true_and])) ?_)
      refine eN_aload_n (M := ML_areChunks) (k := 0) rfl dL_areChunks_157 (pc' := 158) rfl rfl ?_
      refine eN_iload (M := ML_areChunks) dL_areChunks_158 (pc' := 160) rfl rfl ?_
      refine (ev_cV1 (M := ML_areChunks) (kk := 8) dL_areChunks_160 c_9_84 mX6_isStored rfl rfl (by decide) rfl (pc' := 163) rfl).mpr ⟨(by assumption), (Nat.le_of_ble_eq_true rfl), eN_c c1 (by first | rfl | (simp (disch := omega) only [nI_add, i_sub]) | (simp only [*])) ?_⟩
      refine (ev_if_eq (M := ML_areChunks) (t := 244) dL_areChunks_163 (by decide) (pc' := 166) rfl).mpr (ifF (by first | assumption | omega | rfl | exact fun q => q (by assumption) | exact fun q => q rfl | (simp (disch := omega) only [nle_t, nle_f, nlt_t, nlt_f, neq_t, neq_f, i_lt0, i_le0, i_0le, i_0lt, i_eq0, i_lt, i_le, i_eq, nI_add, i_sub, i_cl, i_m1a, i_m1b, i_m1c, i_m1d, i_m1e, i_am1, i_ite0, m1_le, m1_m1, m1_ge0, not_true_eq_false, not_false_eq_true, or_self, or_false, false_or, or_true, true_or, and_self, and_true, true_and])) ?_)
      refine eN_aload_n (M := ML_areChunks) (k := 0) rfl dL_areChunks_166 (pc' := 167) rfl rfl ?_
      refine eN_iload (M := ML_areChunks) dL_areChunks_167 (pc' := 169) rfl rfl ?_
      refine (ev_cV1 (M := ML_areChunks) (kk := 8) dL_areChunks_169 c_9_91 mX6_references rfl rfl (by decide) rfl (pc' := 172) rfl).mpr ⟨(by assumption), (Nat.le_of_ble_eq_true rfl), eN_c c2 (by first | rfl | (simp (disch := omega) only [nI_add, i_sub]) | (simp only [*])) ?_⟩
      refine (ev_istore (M := ML_areChunks) dL_areChunks_172 (by decide) (pc' := 174) rfl).mpr ?_
      refine eN_iinc (M := ML_areChunks) (v := 1) rfl dL_areChunks_174 (by decide) (pc' := 177) rfl rfl ?_
      refine eN_iload (M := ML_areChunks) dL_areChunks_177 (pc' := 179) rfl rfl ?_
      refine eN_iload (M := ML_areChunks) dL_areChunks_179 (pc' := 181) rfl rfl ?_
      refine (ev_if_ne (M := ML_areChunks) (t := 193) dL_areChunks_181 (by decide) (pc' := 184) rfl).mpr (ifT (by first | assumption | omega | rfl | exact fun q => q (by assumption) | exact fun q => q rfl | (simp (disch := omega) only [nle_t, nle_f, nlt_t, nlt_f, neq_t, neq_f, i_lt0, i_le0, i_0le, i_0lt, i_eq0, i_lt, i_le, i_eq, nI_add, i_sub, i_cl, i_m1a, i_m1b, i_m1c, i_m1d, i_m1e, i_am1, i_ite0, m1_le, m1_m1, m1_ge0, not_true_eq_false, not_false_eq_true, or_self, or_false, false_or, or_true, true_or, and_self, and_true, true_and])) ?_)
      refine (ev_iconst (M := ML_areChunks) (v := (nI 0)) rfl dL_areChunks_193 (pc' := 194) rfl).mpr ?_
      refine eN_iadd (M := ML_areChunks) dL_areChunks_194 (pc' := 195) rfl ?_
      refine (ev_istore (M := ML_areChunks) dL_areChunks_195 (by decide) (pc' := 197) rfl).mpr ?_
      refine eN_aload_n (M := ML_areChunks) (k := 0) rfl dL_areChunks_197 (pc' := 198) rfl rfl ?_
      refine eN_iload (M := ML_areChunks) dL_areChunks_198 (pc' := 200) rfl rfl ?_
      refine (ev_cV1 (M := ML_areChunks) (kk := 8) dL_areChunks_200 c_9_35 mX6_chunkLength rfl rfl (by decide) rfl (pc' := 203) rfl).mpr ⟨(by assumption), (Nat.le_of_ble_eq_true rfl), eN_c c3 (by first | rfl | (simp (disch := omega) only [nI_add, i_sub]) | (simp only [*])) ?_⟩
      refine (ev_iconst (M := ML_areChunks) (v := (nI 1)) rfl dL_areChunks_203 (pc' := 204) rfl).mpr ?_
      refine (ev_icmp_lt (M := ML_areChunks) (t := 241) dL_areChunks_204 (by decide) (pc' := 207) rfl).mpr (ifF (by first | assumption | omega | rfl | exact fun q => q (by assumption) | exact fun q => q rfl | (simp (disch := omega) only [nle_t, nle_f, nlt_t, nlt_f, neq_t, neq_f, i_lt0, i_le0, i_0le, i_0lt, i_eq0, i_lt, i_le, i_eq, nI_add, i_sub, i_cl, i_m1a, i_m1b, i_m1c, i_m1d, i_m1e, i_am1, i_ite0, m1_le, m1_m1, m1_ge0, not_true_eq_false, not_false_eq_true, or_self, or_false, false_or, or_true, true_or, and_self, and_true, true_and])) ?_)
      refine eN_aload_n (M := ML_areChunks) (k := 0) rfl dL_areChunks_207 (pc' := 208) rfl rfl ?_
      refine eN_iload (M := ML_areChunks) dL_areChunks_208 (pc' := 210) rfl rfl ?_
      refine (ev_cV1 (M := ML_areChunks) (kk := 8) dL_areChunks_210 c_9_35 mX6_chunkLength rfl rfl (by decide) rfl (pc' := 213) rfl).mpr ⟨(by assumption), (Nat.le_of_ble_eq_true rfl), eN_c c3 (by first | rfl | (simp (disch := omega) only [nI_add, i_sub]) | (simp only [*])) ?_⟩
      refine (ev_bipush (M := ML_areChunks) (v := (nI 32)) rfl dL_areChunks_213 (pc' := 215) rfl).mpr ?_
      refine (ev_icmp_gt (M := ML_areChunks) (t := 241) dL_areChunks_215 (by decide) (pc' := 218) rfl).mpr (ifF (by first | assumption | omega | rfl | exact fun q => q (by assumption) | exact fun q => q rfl | (simp (disch := omega) only [nle_t, nle_f, nlt_t, nlt_f, neq_t, neq_f, i_lt0, i_le0, i_0le, i_0lt, i_eq0, i_lt, i_le, i_eq, nI_add, i_sub, i_cl, i_m1a, i_m1b, i_m1c, i_m1d, i_m1e, i_am1, i_ite0, m1_le, m1_m1, m1_ge0, not_true_eq_false, not_false_eq_true, or_self, or_false, false_or, or_true, true_or, and_self, and_true, true_and])) ?_)
      refine eN_iload (M := ML_areChunks) dL_areChunks_218 (pc' := 220) rfl rfl ?_
      refine (ev_iconst (M := ML_areChunks) (v := (nI 5)) rfl dL_areChunks_220 (pc' := 221) rfl).mpr ?_
      refine eN_irem (M := ML_areChunks) dL_areChunks_221 (pc' := 222) rfl (by omega) ?_
      refine (ev_if_gt (M := ML_areChunks) (t := 237) dL_areChunks_222 (by decide) (pc' := 225) rfl).mpr (ifT (by first | assumption | omega | rfl | exact fun q => q (by assumption) | exact fun q => q rfl | (simp (disch := omega) only [nle_t, nle_f, nlt_t, nlt_f, neq_t, neq_f, i_lt0, i_le0, i_0le, i_0lt, i_eq0, i_lt, i_le, i_eq, nI_add, i_sub, i_cl, i_m1a, i_m1b, i_m1c, i_m1d, i_m1e, i_am1, i_ite0, m1_le, m1_m1, m1_ge0, not_true_eq_false, not_false_eq_true, or_self, or_false, false_or, or_true, true_or, and_self, and_true, true_and])) ?_)
      refine (ev_iconst (M := ML_areChunks) (v := (nI 1)) rfl dL_areChunks_237 (pc' := 238) rfl).mpr ?_
      refine (ev_goto (M := ML_areChunks) (pc' := 242) dL_areChunks_238 (by decide)).mpr ?_
      refine (ev_istore (M := ML_areChunks) dL_areChunks_242 (by decide) (pc' := 244) rfl).mpr ?_
      refine eN_iinc (M := ML_areChunks) (v := 1) rfl dL_areChunks_244 (by decide) (pc' := 247) rfl rfl ?_
      refine (ev_goto (M := ML_areChunks) (pc' := 141) dL_areChunks_247 (by decide)).mpr ?_
      exact ev_more (by repeat (first | exact trivial | refine ⟨rfl, ?_⟩)) (by exact rfl) (by exact rfl) hq
theorem Z_ch9 {A : Nat} {W : UInt64} (k8 : tK T X = 8) (g1 : tK T G = 22) (g2 : tl T G = 7) (g3 : tJ T G 6 = jN N) (hN : N < 1000000) (hc : c < 1000000) (hs : s < 1000000) (hg : g < 1000000) (hb : b < 1000000) (hA : A < 1000000) (hW : W = rtW A s) (hW2 : Op.cmpValue (FP.dcmp W W) .l = 0) (hdn : ¬ s = 0 → FP.ddiv (FP.i2d (nI A)) (FP.i2d (nI s)) &&& 0x7fffffffffffffff ≤ 0x7ff0000000000000) (c1 : Call (d + 5) 103 [.ref X] T (.inl (some (.int (nI c)))) T) (c2 : Call (d + 5) 113 [.ref X] T (.inl (some (.int (nI s)))) T) (c3 : Call (d + 5) 115 [.ref X] T (.inl (some (.int (nI g)))) T) (c4 : Call (d + 5) 108 [.ref X] T (.inl (some (.int (nI b)))) T) (c5 : Call (d + 5) 102 [.ref X, .int (nI N)] T (.inl (some (.int (nI 0)))) T) (c6 : Call (d + 5) 102 [.ref X, .int (-1)] T (.inl (some (.int (nI 0)))) T) (c7 : Call (d + 5) 116 [.ref X] T (.inl (some (.double W))) T) (c8 : Call (d + 5) 114 [.ref X] T (.inl (some (.int (nI A)))) T) (hQ : Q (.inl (some (.int (nI 1)))) T) : Ev (d + 5) ML_areChunks [] 141 [(7, .int (nI N)), (6, .int (nI 1)), (5, .int (nI b)), (4, .int (nI g)), (3, .int (nI s)), (2, .int (nI c)), (0, .ref X), (1, .ref G)] [] T Q := by
  have hgc : 0 ≤ lg_cmp (nI N).toInt64 (tJ T G 6) := by rw [g3, lj_ge (by omega) (by omega)]; omega
  have e32 : (tJ T G 6).toInt32 = nI N := by rw [g3, lj_32]
  have e33 : (jN N).toInt32 = nI N := by rw [← g3]; exact e32
  by_cases e : s = 0
  · have eW : W = FP.dconst0 := by rw [hW]; unfold rtW; rw [if_pos e]
    rw [eW] at c7 hW2
    refine eN_iload (M := ML_areChunks) dL_areChunks_141 (pc' := 143) rfl rfl ?_
    refine (ev_i2l (M := ML_areChunks) dL_areChunks_143 (pc' := 144) rfl).mpr ?_
    refine eN_aload_n (M := ML_areChunks) (k := 1) rfl dL_areChunks_144 (pc' := 145) rfl rfl ?_
    refine (ev_bipush (M := ML_areChunks) (v := (nI 6)) rfl dL_areChunks_145 (pc' := 147) rfl).mpr ?_
    refine eN_laload (M := ML_areChunks) dL_areChunks_147 (pc' := 148) rfl (by assumption) (by assumption) (by omega) ?_
    refine (ev_lcmp (M := ML_areChunks) dL_areChunks_148 (pc' := 149) rfl).mpr ?_
    refine (ev_if_ge (M := ML_areChunks) (t := 250) dL_areChunks_149 (by decide) (pc' := 152) rfl).mpr (ifT (by first | assumption | omega | rfl | exact fun q => q (by assumption) | exact fun q => q rfl | (simp (disch := omega) only [nle_t, nle_f, nlt_t, nlt_f, neq_t, neq_f, i_lt0, i_le0, i_0le, i_0lt, i_eq0, i_lt, i_le, i_eq, nI_add, i_sub, i_cl, i_m1a, i_m1b, i_m1c, i_m1d, i_m1e, i_am1, i_ite0, m1_le, m1_m1, m1_ge0, not_true_eq_false, not_false_eq_true, or_self, or_false, false_or, or_true, true_or, and_self, and_true, true_and])) ?_)
    refine eN_iload (M := ML_areChunks) dL_areChunks_250 (pc' := 252) rfl rfl ?_
    refine (ev_if_eq (M := ML_areChunks) (t := 313) dL_areChunks_252 (by decide) (pc' := 255) rfl).mpr (ifF (by first | assumption | omega | rfl | exact fun q => q (by assumption) | exact fun q => q rfl | (simp (disch := omega) only [nle_t, nle_f, nlt_t, nlt_f, neq_t, neq_f, i_lt0, i_le0, i_0le, i_0lt, i_eq0, i_lt, i_le, i_eq, nI_add, i_sub, i_cl, i_m1a, i_m1b, i_m1c, i_m1d, i_m1e, i_am1, i_ite0, m1_le, m1_m1, m1_ge0, not_true_eq_false, not_false_eq_true, or_self, or_false, false_or, or_true, true_or, and_self, and_true, true_and])) ?_)
    refine eN_aload_n (M := ML_areChunks) (k := 0) rfl dL_areChunks_255 (pc' := 256) rfl rfl ?_
    refine (ev_cV0 (M := ML_areChunks) (kk := 8) dL_areChunks_256 c_9_98 mX6_chunks rfl rfl (by decide) rfl (pc' := 259) rfl).mpr ⟨(by assumption), (Nat.le_of_ble_eq_true rfl), eN_c c1 (by first | rfl | (simp (disch := omega) only [nI_add, i_sub]) | (simp only [*])) ?_⟩
    refine eN_iload_n (M := ML_areChunks) (k := 2) rfl dL_areChunks_259 (pc' := 260) rfl rfl ?_
    refine (ev_icmp_ne (M := ML_areChunks) (t := 313) dL_areChunks_260 (by decide) (pc' := 263) rfl).mpr (ifF (by first | assumption | omega | rfl | exact fun q => q (by assumption) | exact fun q => q rfl | (simp (disch := omega) only [nle_t, nle_f, nlt_t, nlt_f, neq_t, neq_f, i_lt0, i_le0, i_0le, i_0lt, i_eq0, i_lt, i_le, i_eq, nI_add, i_sub, i_cl, i_m1a, i_m1b, i_m1c, i_m1d, i_m1e, i_am1, i_ite0, m1_le, m1_m1, m1_ge0, not_true_eq_false, not_false_eq_true, or_self, or_false, false_or, or_true, true_or, and_self, and_true, true_and])) ?_)
    refine eN_aload_n (M := ML_areChunks) (k := 0) rfl dL_areChunks_263 (pc' := 264) rfl rfl ?_
    refine (ev_cV0 (M := ML_areChunks) (kk := 8) dL_areChunks_264 c_9_101 mX6_storedBytes rfl rfl (by decide) rfl (pc' := 267) rfl).mpr ⟨(by assumption), (Nat.le_of_ble_eq_true rfl), eN_c c2 (by first | rfl | (simp (disch := omega) only [nI_add, i_sub]) | (simp only [*])) ?_⟩
    refine eN_iload_n (M := ML_areChunks) (k := 3) rfl dL_areChunks_267 (pc' := 268) rfl rfl ?_
    refine (ev_icmp_ne (M := ML_areChunks) (t := 313) dL_areChunks_268 (by decide) (pc' := 271) rfl).mpr (ifF (by first | assumption | omega | rfl | exact fun q => q (by assumption) | exact fun q => q rfl | (simp (disch := omega) only [nle_t, nle_f, nlt_t, nlt_f, neq_t, neq_f, i_lt0, i_le0, i_0le, i_0lt, i_eq0, i_lt, i_le, i_eq, nI_add, i_sub, i_cl, i_m1a, i_m1b, i_m1c, i_m1d, i_m1e, i_am1, i_ite0, m1_le, m1_m1, m1_ge0, not_true_eq_false, not_false_eq_true, or_self, or_false, false_or, or_true, true_or, and_self, and_true, true_and])) ?_)
    refine eN_aload_n (M := ML_areChunks) (k := 0) rfl dL_areChunks_271 (pc' := 272) rfl rfl ?_
    refine (ev_cV0 (M := ML_areChunks) (kk := 8) dL_areChunks_272 c_9_104 mX6_garbage rfl rfl (by decide) rfl (pc' := 275) rfl).mpr ⟨(by assumption), (Nat.le_of_ble_eq_true rfl), eN_c c3 (by first | rfl | (simp (disch := omega) only [nI_add, i_sub]) | (simp only [*])) ?_⟩
    refine eN_iload (M := ML_areChunks) dL_areChunks_275 (pc' := 277) rfl rfl ?_
    refine (ev_icmp_ne (M := ML_areChunks) (t := 313) dL_areChunks_277 (by decide) (pc' := 280) rfl).mpr (ifF (by first | assumption | omega | rfl | exact fun q => q (by assumption) | exact fun q => q rfl | (simp (disch := omega) only [nle_t, nle_f, nlt_t, nlt_f, neq_t, neq_f, i_lt0, i_le0, i_0le, i_0lt, i_eq0, i_lt, i_le, i_eq, nI_add, i_sub, i_cl, i_m1a, i_m1b, i_m1c, i_m1d, i_m1e, i_am1, i_ite0, m1_le, m1_m1, m1_ge0, not_true_eq_false, not_false_eq_true, or_self, or_false, false_or, or_true, true_or, and_self, and_true, true_and])) ?_)
    refine eN_aload_n (M := ML_areChunks) (k := 0) rfl dL_areChunks_280 (pc' := 281) rfl rfl ?_
    refine (ev_cV0 (M := ML_areChunks) (kk := 8) dL_areChunks_281 c_9_107 mX6_containers rfl rfl (by decide) rfl (pc' := 284) rfl).mpr ⟨(by assumption), (Nat.le_of_ble_eq_true rfl), eN_c c4 (by first | rfl | (simp (disch := omega) only [nI_add, i_sub]) | (simp only [*])) ?_⟩
    refine eN_iload (M := ML_areChunks) dL_areChunks_284 (pc' := 286) rfl rfl ?_
    refine (ev_icmp_ne (M := ML_areChunks) (t := 313) dL_areChunks_286 (by decide) (pc' := 289) rfl).mpr (ifF (by first | assumption | omega | rfl | exact fun q => q (by assumption) | exact fun q => q rfl | (simp (disch := omega) only [nle_t, nle_f, nlt_t, nlt_f, neq_t, neq_f, i_lt0, i_le0, i_0le, i_0lt, i_eq0, i_lt, i_le, i_eq, nI_add, i_sub, i_cl, i_m1a, i_m1b, i_m1c, i_m1d, i_m1e, i_am1, i_ite0, m1_le, m1_m1, m1_ge0, not_true_eq_false, not_false_eq_true, or_self, or_false, false_or, or_true, true_or, and_self, and_true, true_and])) ?_)
    refine eN_aload_n (M := ML_areChunks) (k := 0) rfl dL_areChunks_289 (pc' := 290) rfl rfl ?_
    refine eN_aload_n (M := ML_areChunks) (k := 1) rfl dL_areChunks_290 (pc' := 291) rfl rfl ?_
    refine (ev_bipush (M := ML_areChunks) (v := (nI 6)) rfl dL_areChunks_291 (pc' := 293) rfl).mpr ?_
    refine eN_laload (M := ML_areChunks) dL_areChunks_293 (pc' := 294) rfl (by assumption) (by assumption) (by omega) ?_
    refine (ev_l2i (M := ML_areChunks) dL_areChunks_294 (pc' := 295) rfl).mpr ?_
    refine (ev_cV1 (M := ML_areChunks) (kk := 8) dL_areChunks_295 c_9_84 mX6_isStored rfl rfl (by decide) rfl (pc' := 298) rfl).mpr ⟨(by assumption), (Nat.le_of_ble_eq_true rfl), eN_c c5 (by first | rfl | (simp (disch := omega) only [nI_add, i_sub]) | (simp only [*])) ?_⟩
    refine (ev_if_ne (M := ML_areChunks) (t := 313) dL_areChunks_298 (by decide) (pc' := 301) rfl).mpr (ifF (by first | assumption | omega | rfl | exact fun q => q (by assumption) | exact fun q => q rfl | (simp (disch := omega) only [nle_t, nle_f, nlt_t, nlt_f, neq_t, neq_f, i_lt0, i_le0, i_0le, i_0lt, i_eq0, i_lt, i_le, i_eq, nI_add, i_sub, i_cl, i_m1a, i_m1b, i_m1c, i_m1d, i_m1e, i_am1, i_ite0, m1_le, m1_m1, m1_ge0, not_true_eq_false, not_false_eq_true, or_self, or_false, false_or, or_true, true_or, and_self, and_true, true_and])) ?_)
    refine eN_aload_n (M := ML_areChunks) (k := 0) rfl dL_areChunks_301 (pc' := 302) rfl rfl ?_
    refine (ev_iconst (M := ML_areChunks) (v := (-1)) rfl dL_areChunks_302 (pc' := 303) rfl).mpr ?_
    refine (ev_cV1 (M := ML_areChunks) (kk := 8) dL_areChunks_303 c_9_84 mX6_isStored rfl rfl (by decide) rfl (pc' := 306) rfl).mpr ⟨(by assumption), (Nat.le_of_ble_eq_true rfl), eN_c c6 (by first | rfl | (simp (disch := omega) only [nI_add, i_sub]) | (simp only [*])) ?_⟩
    refine (ev_if_ne (M := ML_areChunks) (t := 313) dL_areChunks_306 (by decide) (pc' := 309) rfl).mpr (ifF (by first | assumption | omega | rfl | exact fun q => q (by assumption) | exact fun q => q rfl | (simp (disch := omega) only [nle_t, nle_f, nlt_t, nlt_f, neq_t, neq_f, i_lt0, i_le0, i_0le, i_0lt, i_eq0, i_lt, i_le, i_eq, nI_add, i_sub, i_cl, i_m1a, i_m1b, i_m1c, i_m1d, i_m1e, i_am1, i_ite0, m1_le, m1_m1, m1_ge0, not_true_eq_false, not_false_eq_true, or_self, or_false, false_or, or_true, true_or, and_self, and_true, true_and])) ?_)
    refine (ev_iconst (M := ML_areChunks) (v := (nI 1)) rfl dL_areChunks_309 (pc' := 310) rfl).mpr ?_
    refine (ev_goto (M := ML_areChunks) (pc' := 314) dL_areChunks_310 (by decide)).mpr ?_
    refine (ev_istore (M := ML_areChunks) dL_areChunks_314 (by decide) (pc' := 316) rfl).mpr ?_
    refine eN_iload (M := ML_areChunks) dL_areChunks_316 (pc' := 318) rfl rfl ?_
    refine (ev_if_eq (M := ML_areChunks) (t := 349) dL_areChunks_318 (by decide) (pc' := 321) rfl).mpr (ifF (by first | assumption | omega | rfl | exact fun q => q (by assumption) | exact fun q => q rfl | (simp (disch := omega) only [nle_t, nle_f, nlt_t, nlt_f, neq_t, neq_f, i_lt0, i_le0, i_0le, i_0lt, i_eq0, i_lt, i_le, i_eq, nI_add, i_sub, i_cl, i_m1a, i_m1b, i_m1c, i_m1d, i_m1e, i_am1, i_ite0, m1_le, m1_m1, m1_ge0, not_true_eq_false, not_false_eq_true, or_self, or_false, false_or, or_true, true_or, and_self, and_true, true_and])) ?_)
    refine eN_aload_n (M := ML_areChunks) (k := 0) rfl dL_areChunks_321 (pc' := 322) rfl rfl ?_
    refine (ev_cV0 (M := ML_areChunks) (kk := 8) dL_areChunks_322 c_9_110 mX6_ratio rfl rfl (by decide) rfl (pc' := 325) rfl).mpr ⟨(by assumption), (Nat.le_of_ble_eq_true rfl), eN_c c7 (by first | rfl | (simp (disch := omega) only [nI_add, i_sub]) | (simp only [*])) ?_⟩
    refine eN_iload_n (M := ML_areChunks) (k := 3) rfl dL_areChunks_325 (pc' := 326) rfl rfl ?_
    refine (ev_if_ne (M := ML_areChunks) (t := 333) dL_areChunks_326 (by decide) (pc' := 329) rfl).mpr (ifF (by first | assumption | omega | rfl | exact fun q => q (by assumption) | exact fun q => q rfl | (simp (disch := omega) only [nle_t, nle_f, nlt_t, nlt_f, neq_t, neq_f, i_lt0, i_le0, i_0le, i_0lt, i_eq0, i_lt, i_le, i_eq, nI_add, i_sub, i_cl, i_m1a, i_m1b, i_m1c, i_m1d, i_m1e, i_am1, i_ite0, m1_le, m1_m1, m1_ge0, not_true_eq_false, not_false_eq_true, or_self, or_false, false_or, or_true, true_or, and_self, and_true, true_and])) ?_)
    refine (ev_dconst0 (M := ML_areChunks) dL_areChunks_329 (pc' := 330) rfl).mpr ?_
    refine (ev_goto (M := ML_areChunks) (pc' := 341) dL_areChunks_330 (by decide)).mpr ?_
    refine (ev_dcmp (M := ML_areChunks) dL_areChunks_341 (pc' := 342) rfl).mpr ?_
    refine (ev_if_ne (M := ML_areChunks) (t := 349) dL_areChunks_342 (by decide) (pc' := 345) rfl).mpr (ifF (by first | assumption | omega | rfl | exact fun q => q (by assumption) | exact fun q => q rfl | (simp (disch := omega) only [nle_t, nle_f, nlt_t, nlt_f, neq_t, neq_f, i_lt0, i_le0, i_0le, i_0lt, i_eq0, i_lt, i_le, i_eq, nI_add, i_sub, i_cl, i_m1a, i_m1b, i_m1c, i_m1d, i_m1e, i_am1, i_ite0, m1_le, m1_m1, m1_ge0, not_true_eq_false, not_false_eq_true, or_self, or_false, false_or, or_true, true_or, and_self, and_true, true_and])) ?_)
    refine (ev_iconst (M := ML_areChunks) (v := (nI 1)) rfl dL_areChunks_345 (pc' := 346) rfl).mpr ?_
    refine (ev_goto (M := ML_areChunks) (pc' := 350) dL_areChunks_346 (by decide)).mpr ?_
    refine (ev_zretI (M := ML_areChunks) rfl dL_areChunks_350 (by omega)).mpr ?_
    exact hQ
  · have eW : W = FP.ddiv (FP.i2d (nI A)) (FP.i2d (nI s)) := by rw [hW]; unfold rtW; rw [if_neg e]
    have hd := hdn e
    rw [eW] at c7 hW2
    refine eN_iload (M := ML_areChunks) dL_areChunks_141 (pc' := 143) rfl rfl ?_
    refine (ev_i2l (M := ML_areChunks) dL_areChunks_143 (pc' := 144) rfl).mpr ?_
    refine eN_aload_n (M := ML_areChunks) (k := 1) rfl dL_areChunks_144 (pc' := 145) rfl rfl ?_
    refine (ev_bipush (M := ML_areChunks) (v := (nI 6)) rfl dL_areChunks_145 (pc' := 147) rfl).mpr ?_
    refine eN_laload (M := ML_areChunks) dL_areChunks_147 (pc' := 148) rfl (by assumption) (by assumption) (by omega) ?_
    refine (ev_lcmp (M := ML_areChunks) dL_areChunks_148 (pc' := 149) rfl).mpr ?_
    refine (ev_if_ge (M := ML_areChunks) (t := 250) dL_areChunks_149 (by decide) (pc' := 152) rfl).mpr (ifT (by first | assumption | omega | rfl | exact fun q => q (by assumption) | exact fun q => q rfl | (simp (disch := omega) only [nle_t, nle_f, nlt_t, nlt_f, neq_t, neq_f, i_lt0, i_le0, i_0le, i_0lt, i_eq0, i_lt, i_le, i_eq, nI_add, i_sub, i_cl, i_m1a, i_m1b, i_m1c, i_m1d, i_m1e, i_am1, i_ite0, m1_le, m1_m1, m1_ge0, not_true_eq_false, not_false_eq_true, or_self, or_false, false_or, or_true, true_or, and_self, and_true, true_and])) ?_)
    refine eN_iload (M := ML_areChunks) dL_areChunks_250 (pc' := 252) rfl rfl ?_
    refine (ev_if_eq (M := ML_areChunks) (t := 313) dL_areChunks_252 (by decide) (pc' := 255) rfl).mpr (ifF (by first | assumption | omega | rfl | exact fun q => q (by assumption) | exact fun q => q rfl | (simp (disch := omega) only [nle_t, nle_f, nlt_t, nlt_f, neq_t, neq_f, i_lt0, i_le0, i_0le, i_0lt, i_eq0, i_lt, i_le, i_eq, nI_add, i_sub, i_cl, i_m1a, i_m1b, i_m1c, i_m1d, i_m1e, i_am1, i_ite0, m1_le, m1_m1, m1_ge0, not_true_eq_false, not_false_eq_true, or_self, or_false, false_or, or_true, true_or, and_self, and_true, true_and])) ?_)
    refine eN_aload_n (M := ML_areChunks) (k := 0) rfl dL_areChunks_255 (pc' := 256) rfl rfl ?_
    refine (ev_cV0 (M := ML_areChunks) (kk := 8) dL_areChunks_256 c_9_98 mX6_chunks rfl rfl (by decide) rfl (pc' := 259) rfl).mpr ⟨(by assumption), (Nat.le_of_ble_eq_true rfl), eN_c c1 (by first | rfl | (simp (disch := omega) only [nI_add, i_sub]) | (simp only [*])) ?_⟩
    refine eN_iload_n (M := ML_areChunks) (k := 2) rfl dL_areChunks_259 (pc' := 260) rfl rfl ?_
    refine (ev_icmp_ne (M := ML_areChunks) (t := 313) dL_areChunks_260 (by decide) (pc' := 263) rfl).mpr (ifF (by first | assumption | omega | rfl | exact fun q => q (by assumption) | exact fun q => q rfl | (simp (disch := omega) only [nle_t, nle_f, nlt_t, nlt_f, neq_t, neq_f, i_lt0, i_le0, i_0le, i_0lt, i_eq0, i_lt, i_le, i_eq, nI_add, i_sub, i_cl, i_m1a, i_m1b, i_m1c, i_m1d, i_m1e, i_am1, i_ite0, m1_le, m1_m1, m1_ge0, not_true_eq_false, not_false_eq_true, or_self, or_false, false_or, or_true, true_or, and_self, and_true, true_and])) ?_)
    refine eN_aload_n (M := ML_areChunks) (k := 0) rfl dL_areChunks_263 (pc' := 264) rfl rfl ?_
    refine (ev_cV0 (M := ML_areChunks) (kk := 8) dL_areChunks_264 c_9_101 mX6_storedBytes rfl rfl (by decide) rfl (pc' := 267) rfl).mpr ⟨(by assumption), (Nat.le_of_ble_eq_true rfl), eN_c c2 (by first | rfl | (simp (disch := omega) only [nI_add, i_sub]) | (simp only [*])) ?_⟩
    refine eN_iload_n (M := ML_areChunks) (k := 3) rfl dL_areChunks_267 (pc' := 268) rfl rfl ?_
    refine (ev_icmp_ne (M := ML_areChunks) (t := 313) dL_areChunks_268 (by decide) (pc' := 271) rfl).mpr (ifF (by first | assumption | omega | rfl | exact fun q => q (by assumption) | exact fun q => q rfl | (simp (disch := omega) only [nle_t, nle_f, nlt_t, nlt_f, neq_t, neq_f, i_lt0, i_le0, i_0le, i_0lt, i_eq0, i_lt, i_le, i_eq, nI_add, i_sub, i_cl, i_m1a, i_m1b, i_m1c, i_m1d, i_m1e, i_am1, i_ite0, m1_le, m1_m1, m1_ge0, not_true_eq_false, not_false_eq_true, or_self, or_false, false_or, or_true, true_or, and_self, and_true, true_and])) ?_)
    refine eN_aload_n (M := ML_areChunks) (k := 0) rfl dL_areChunks_271 (pc' := 272) rfl rfl ?_
    refine (ev_cV0 (M := ML_areChunks) (kk := 8) dL_areChunks_272 c_9_104 mX6_garbage rfl rfl (by decide) rfl (pc' := 275) rfl).mpr ⟨(by assumption), (Nat.le_of_ble_eq_true rfl), eN_c c3 (by first | rfl | (simp (disch := omega) only [nI_add, i_sub]) | (simp only [*])) ?_⟩
    refine eN_iload (M := ML_areChunks) dL_areChunks_275 (pc' := 277) rfl rfl ?_
    refine (ev_icmp_ne (M := ML_areChunks) (t := 313) dL_areChunks_277 (by decide) (pc' := 280) rfl).mpr (ifF (by first | assumption | omega | rfl | exact fun q => q (by assumption) | exact fun q => q rfl | (simp (disch := omega) only [nle_t, nle_f, nlt_t, nlt_f, neq_t, neq_f, i_lt0, i_le0, i_0le, i_0lt, i_eq0, i_lt, i_le, i_eq, nI_add, i_sub, i_cl, i_m1a, i_m1b, i_m1c, i_m1d, i_m1e, i_am1, i_ite0, m1_le, m1_m1, m1_ge0, not_true_eq_false, not_false_eq_true, or_self, or_false, false_or, or_true, true_or, and_self, and_true, true_and])) ?_)
    refine eN_aload_n (M := ML_areChunks) (k := 0) rfl dL_areChunks_280 (pc' := 281) rfl rfl ?_
    refine (ev_cV0 (M := ML_areChunks) (kk := 8) dL_areChunks_281 c_9_107 mX6_containers rfl rfl (by decide) rfl (pc' := 284) rfl).mpr ⟨(by assumption), (Nat.le_of_ble_eq_true rfl), eN_c c4 (by first | rfl | (simp (disch := omega) only [nI_add, i_sub]) | (simp only [*])) ?_⟩
    refine eN_iload (M := ML_areChunks) dL_areChunks_284 (pc' := 286) rfl rfl ?_
    refine (ev_icmp_ne (M := ML_areChunks) (t := 313) dL_areChunks_286 (by decide) (pc' := 289) rfl).mpr (ifF (by first | assumption | omega | rfl | exact fun q => q (by assumption) | exact fun q => q rfl | (simp (disch := omega) only [nle_t, nle_f, nlt_t, nlt_f, neq_t, neq_f, i_lt0, i_le0, i_0le, i_0lt, i_eq0, i_lt, i_le, i_eq, nI_add, i_sub, i_cl, i_m1a, i_m1b, i_m1c, i_m1d, i_m1e, i_am1, i_ite0, m1_le, m1_m1, m1_ge0, not_true_eq_false, not_false_eq_true, or_self, or_false, false_or, or_true, true_or, and_self, and_true, true_and])) ?_)
    refine eN_aload_n (M := ML_areChunks) (k := 0) rfl dL_areChunks_289 (pc' := 290) rfl rfl ?_
    refine eN_aload_n (M := ML_areChunks) (k := 1) rfl dL_areChunks_290 (pc' := 291) rfl rfl ?_
    refine (ev_bipush (M := ML_areChunks) (v := (nI 6)) rfl dL_areChunks_291 (pc' := 293) rfl).mpr ?_
    refine eN_laload (M := ML_areChunks) dL_areChunks_293 (pc' := 294) rfl (by assumption) (by assumption) (by omega) ?_
    refine (ev_l2i (M := ML_areChunks) dL_areChunks_294 (pc' := 295) rfl).mpr ?_
    refine (ev_cV1 (M := ML_areChunks) (kk := 8) dL_areChunks_295 c_9_84 mX6_isStored rfl rfl (by decide) rfl (pc' := 298) rfl).mpr ⟨(by assumption), (Nat.le_of_ble_eq_true rfl), eN_c c5 (by first | rfl | (simp (disch := omega) only [nI_add, i_sub]) | (simp only [*])) ?_⟩
    refine (ev_if_ne (M := ML_areChunks) (t := 313) dL_areChunks_298 (by decide) (pc' := 301) rfl).mpr (ifF (by first | assumption | omega | rfl | exact fun q => q (by assumption) | exact fun q => q rfl | (simp (disch := omega) only [nle_t, nle_f, nlt_t, nlt_f, neq_t, neq_f, i_lt0, i_le0, i_0le, i_0lt, i_eq0, i_lt, i_le, i_eq, nI_add, i_sub, i_cl, i_m1a, i_m1b, i_m1c, i_m1d, i_m1e, i_am1, i_ite0, m1_le, m1_m1, m1_ge0, not_true_eq_false, not_false_eq_true, or_self, or_false, false_or, or_true, true_or, and_self, and_true, true_and])) ?_)
    refine eN_aload_n (M := ML_areChunks) (k := 0) rfl dL_areChunks_301 (pc' := 302) rfl rfl ?_
    refine (ev_iconst (M := ML_areChunks) (v := (-1)) rfl dL_areChunks_302 (pc' := 303) rfl).mpr ?_
    refine (ev_cV1 (M := ML_areChunks) (kk := 8) dL_areChunks_303 c_9_84 mX6_isStored rfl rfl (by decide) rfl (pc' := 306) rfl).mpr ⟨(by assumption), (Nat.le_of_ble_eq_true rfl), eN_c c6 (by first | rfl | (simp (disch := omega) only [nI_add, i_sub]) | (simp only [*])) ?_⟩
    refine (ev_if_ne (M := ML_areChunks) (t := 313) dL_areChunks_306 (by decide) (pc' := 309) rfl).mpr (ifF (by first | assumption | omega | rfl | exact fun q => q (by assumption) | exact fun q => q rfl | (simp (disch := omega) only [nle_t, nle_f, nlt_t, nlt_f, neq_t, neq_f, i_lt0, i_le0, i_0le, i_0lt, i_eq0, i_lt, i_le, i_eq, nI_add, i_sub, i_cl, i_m1a, i_m1b, i_m1c, i_m1d, i_m1e, i_am1, i_ite0, m1_le, m1_m1, m1_ge0, not_true_eq_false, not_false_eq_true, or_self, or_false, false_or, or_true, true_or, and_self, and_true, true_and])) ?_)
    refine (ev_iconst (M := ML_areChunks) (v := (nI 1)) rfl dL_areChunks_309 (pc' := 310) rfl).mpr ?_
    refine (ev_goto (M := ML_areChunks) (pc' := 314) dL_areChunks_310 (by decide)).mpr ?_
    refine (ev_istore (M := ML_areChunks) dL_areChunks_314 (by decide) (pc' := 316) rfl).mpr ?_
    refine eN_iload (M := ML_areChunks) dL_areChunks_316 (pc' := 318) rfl rfl ?_
    refine (ev_if_eq (M := ML_areChunks) (t := 349) dL_areChunks_318 (by decide) (pc' := 321) rfl).mpr (ifF (by first | assumption | omega | rfl | exact fun q => q (by assumption) | exact fun q => q rfl | (simp (disch := omega) only [nle_t, nle_f, nlt_t, nlt_f, neq_t, neq_f, i_lt0, i_le0, i_0le, i_0lt, i_eq0, i_lt, i_le, i_eq, nI_add, i_sub, i_cl, i_m1a, i_m1b, i_m1c, i_m1d, i_m1e, i_am1, i_ite0, m1_le, m1_m1, m1_ge0, not_true_eq_false, not_false_eq_true, or_self, or_false, false_or, or_true, true_or, and_self, and_true, true_and])) ?_)
    refine eN_aload_n (M := ML_areChunks) (k := 0) rfl dL_areChunks_321 (pc' := 322) rfl rfl ?_
    refine (ev_cV0 (M := ML_areChunks) (kk := 8) dL_areChunks_322 c_9_110 mX6_ratio rfl rfl (by decide) rfl (pc' := 325) rfl).mpr ⟨(by assumption), (Nat.le_of_ble_eq_true rfl), eN_c c7 (by first | rfl | (simp (disch := omega) only [nI_add, i_sub]) | (simp only [*])) ?_⟩
    refine eN_iload_n (M := ML_areChunks) (k := 3) rfl dL_areChunks_325 (pc' := 326) rfl rfl ?_
    refine (ev_if_ne (M := ML_areChunks) (t := 333) dL_areChunks_326 (by decide) (pc' := 329) rfl).mpr (ifT (by first | assumption | omega | rfl | exact fun q => q (by assumption) | exact fun q => q rfl | (simp (disch := omega) only [nle_t, nle_f, nlt_t, nlt_f, neq_t, neq_f, i_lt0, i_le0, i_0le, i_0lt, i_eq0, i_lt, i_le, i_eq, nI_add, i_sub, i_cl, i_m1a, i_m1b, i_m1c, i_m1d, i_m1e, i_am1, i_ite0, m1_le, m1_m1, m1_ge0, not_true_eq_false, not_false_eq_true, or_self, or_false, false_or, or_true, true_or, and_self, and_true, true_and])) ?_)
    refine eN_aload_n (M := ML_areChunks) (k := 0) rfl dL_areChunks_333 (pc' := 334) rfl rfl ?_
    refine (ev_cV0 (M := ML_areChunks) (kk := 8) dL_areChunks_334 c_9_70 mX6_savedBytes rfl rfl (by decide) rfl (pc' := 337) rfl).mpr ⟨(by assumption), (Nat.le_of_ble_eq_true rfl), eN_c c8 (by first | rfl | (simp (disch := omega) only [nI_add, i_sub]) | (simp only [*])) ?_⟩
    refine (ev_i2d (M := ML_areChunks) dL_areChunks_337 (pc' := 338) rfl).mpr ?_
    refine eN_iload_n (M := ML_areChunks) (k := 3) rfl dL_areChunks_338 (pc' := 339) rfl rfl ?_
    refine (ev_i2d (M := ML_areChunks) dL_areChunks_339 (pc' := 340) rfl).mpr ?_
    refine (ev_ddiv (M := ML_areChunks) dL_areChunks_340 (pc' := 341) rfl).mpr ⟨(by assumption), ?_⟩
    refine (ev_dcmp (M := ML_areChunks) dL_areChunks_341 (pc' := 342) rfl).mpr ?_
    refine (ev_if_ne (M := ML_areChunks) (t := 349) dL_areChunks_342 (by decide) (pc' := 345) rfl).mpr (ifF (by first | assumption | omega | rfl | exact fun q => q (by assumption) | exact fun q => q rfl | (simp (disch := omega) only [nle_t, nle_f, nlt_t, nlt_f, neq_t, neq_f, i_lt0, i_le0, i_0le, i_0lt, i_eq0, i_lt, i_le, i_eq, nI_add, i_sub, i_cl, i_m1a, i_m1b, i_m1c, i_m1d, i_m1e, i_am1, i_ite0, m1_le, m1_m1, m1_ge0, not_true_eq_false, not_false_eq_true, or_self, or_false, false_or, or_true, true_or, and_self, and_true, true_and])) ?_)
    refine (ev_iconst (M := ML_areChunks) (v := (nI 1)) rfl dL_areChunks_345 (pc' := 346) rfl).mpr ?_
    refine (ev_goto (M := ML_areChunks) (pc' := 350) dL_areChunks_346 (by decide)).mpr ?_
    refine (ev_zretI (M := ML_areChunks) rfl dL_areChunks_350 (by omega)).mpr ?_
    exact hQ
end Z
theorem C_areChunks (hD : DNN) (hE : DCQ) (hE0 : Op.cmpValue (FP.dcmp FP.dconst0 FP.dconst0) .l = 0) (h : LV T X va ba ca dr kl vf vn vb ve vp nx sv cb us bl co op cs hi re st rw bx ud) (hg : gR T G kl vf vn st) : Call (d + 6) 138 [.ref X, .ref G] T (.inl (some (.int (nI 1)))) T := by
  have k8 := h.k8
  obtain ⟨g1, g2, g3, -⟩ := id hg
  obtain ⟨hst, hrl⟩ := h.rwl
  obtain ⟨hop, hbl, hby, hrwl⟩ := h.bst
  have hS := h.2.2.1
  have co := Call_up (d' := d + 5) (R_openContainer (d := d) h.1) (by omega)
  have hbx : ∀ n ∈ rw, bx n ≤ op := fun n hn => hS.1.2.2 n hn
  have h32 : ∀ n ∈ rw, 1 ≤ (cb n).length ∧ (cb n).length ≤ 32 := fun n hn => ⟨(hS.2.2.1 n hn).2.1, (hS.2.2.1 n hn).2.2.1⟩
  have no : ∀ n, n < 1000000 → n ∉ rw → ¬ ∃ m ∈ rw, nI m = nI n := fun n hn h1 ⟨m, hm, e⟩ => by
    have := hrl m hm
    rw [i_eq (by omega) (by omega)] at e
    exact h1 (e ▸ hm)
  refine Call_of ?_
  rw [uL_areChunks]
  refine (ev_iconst (M := ML_areChunks) (v := (nI 0)) rfl dL_areChunks_0 (pc' := 1) rfl).mpr ?_
  refine (ev_istore_n (M := ML_areChunks) (k := 2) rfl dL_areChunks_1 (by decide) (pc' := 2) rfl).mpr ?_
  refine (ev_iconst (M := ML_areChunks) (v := (nI 0)) rfl dL_areChunks_2 (pc' := 3) rfl).mpr ?_
  refine (ev_istore_n (M := ML_areChunks) (k := 3) rfl dL_areChunks_3 (by decide) (pc' := 4) rfl).mpr ?_
  refine (ev_iconst (M := ML_areChunks) (v := (nI 0)) rfl dL_areChunks_4 (pc' := 5) rfl).mpr ?_
  refine (ev_istore (M := ML_areChunks) dL_areChunks_5 (by decide) (pc' := 7) rfl).mpr ?_
  refine (ev_iconst (M := ML_areChunks) (v := (nI 0)) rfl dL_areChunks_7 (pc' := 8) rfl).mpr ?_
  refine (ev_istore (M := ML_areChunks) dL_areChunks_8 (by decide) (pc' := 10) rfl).mpr ?_
  refine (ev_iconst (M := ML_areChunks) (v := (nI 1)) rfl dL_areChunks_10 (pc' := 11) rfl).mpr ?_
  refine (ev_istore (M := ML_areChunks) dL_areChunks_11 (by decide) (pc' := 13) rfl).mpr ?_
  refine (ev_iconst (M := ML_areChunks) (v := (nI 0)) rfl dL_areChunks_13 (pc' := 14) rfl).mpr ?_
  refine (ev_istore (M := ML_areChunks) dL_areChunks_14 (by decide) (pc' := 16) rfl).mpr ?_
  have second : Ev (d + 5) ML_areChunks [] 141 [(7, .int (nI 0)), (6, .int (nI 1)), (5, .int (nI bl.length)), (4, .int (nI 0)), (3, .int (nI (byS cb rw))), (2, .int (nI 0)), (0, .ref X), (1, .ref G)] [] T (fun r T' => r = .inl (some (.int (nI 1))) ∧ T' = T) := by
    refine lpX (fun n => [(7, .int (nI n)), (6, .int (nI 1)), (5, .int (nI bl.length)), (4, .int (nI (sm (fun n => if n ∈ rw then (fun n => if uO kl ve n = 0 then (cb n).length else 0) n else 0) n))), (3, .int (nI (byS cb rw))), (2, .int (nI (sm (fun n => if n ∈ rw then (fun _ => 1) n else 0) n))), (0, .ref X), (1, .ref G)]) (fun _ => T) st rfl rfl ?_ ?_
    · intro n hn hq
      have e1 : sm (fun n => if n ∈ rw then (fun n => if uO kl ve n = 0 then (cb n).length else 0) n else 0) (n + 1) = sm (fun n => if n ∈ rw then (fun n => if uO kl ve n = 0 then (cb n).length else 0) n else 0) n + (if n ∈ rw then (if uO kl ve n = 0 then (cb n).length else 0) else 0) := rfl
      have e2 : sm (fun n => if n ∈ rw then (fun _ => 1) n else 0) (n + 1) = sm (fun n => if n ∈ rw then (fun _ => 1) n else 0) n + (if n ∈ rw then 1 else 0) := rfl
      rw [e1, e2] at hq
      have b1 := sm_mono (f := fun n => if n ∈ rw then (fun n => if uO kl ve n = 0 then (cb n).length else 0) n else 0) (k := n) (n := st) (by omega)
      have b2 := smb_le (f := fun n => if n ∈ rw then (fun _ => 1) n else 0) (b := 1) n (fun k _ => by show (if _ then 1 else 0) ≤ 1; split <;> omega)
      have b3 := smb_le (f := fun n => if n ∈ rw then (fun n => if uO kl ve n = 0 then (cb n).length else 0) n else 0) (b := 32) n (fun k _ => by
        show (if k ∈ rw then (if uO kl ve k = 0 then (cb k).length else 0) else 0) ≤ 32
        by_cases q : k ∈ rw
        · rw [if_pos q]
          have := (h32 k q).2
          split <;> omega
        · rw [if_neg q]
          exact Nat.zero_le _)
      rw [chu_in h] at b1
      have b4 := gb_le (fun n => uO kl ve n = 0) cb rw
      generalize sm (fun n => if n ∈ rw then (fun n => if uO kl ve n = 0 then (cb n).length else 0) n else 0) n = g at *
      generalize sm (fun n => if n ∈ rw then (fun _ => 1) n else 0) n = c at *
      by_cases e : n ∈ rw
      · rw [if_pos e, if_pos e] at hq
        obtain ⟨l1, l2⟩ := h32 n e
        have hu := uO_le (ve := ve) (n := n) h.2.1.1 h.2.1.2.1 (fun k hk => (h.lens hk).2)
        exact Z_ch8 k8 g1 g2 g3 hst hn (by omega) (by omega) l1 l2 (by omega) rfl (h.isStored (d := d) e) (h.references (d := d) e) (h.chunkLength (d := d) e) (C_uses (d := d) h hg (by omega)) hq
      · rw [if_neg e, if_neg e] at hq
        exact Z_ch7 k8 g1 g2 g3 hst hn (h.notStored (d := d) (no n (by omega) e)) hq
    · rw [chu_in h (fun n => if uO kl ve n = 0 then (cb n).length else 0), chu_in h (fun _ => 1), sum_len]
      have c1 := Call_up (d' := d + 5) (h.chunks (d := d)) (by omega)
      have c2 := Call_up (d' := d + 5) (h.storedBytes (d := d)) (by omega)
      have c3 := Call_up (d' := d + 5) (h.garbage (d := d)) (by omega)
      have c4 := Call_up (d' := d + 5) (R_containers (d := d) h.1) (by omega)
      have c5 := h.notStored (d := d) (no st hst (fun q => by have := hrl st q; omega))
      have c6 := h.notStored (d := d) (w := -1) (fun ⟨m, hm, e⟩ => by
        have := hrl m hm
        have e9 := i_m1a (a := m) (by omega)
        rw [e9] at e
        exact e)
      have c8 := Call_up (d' := d + 5) (R_savedBytes (d := d) h.1) (by omega)
      have eb := hS.1.bytes cb
      dsimp only at eb
      have c7 := R_ratio (d := d) hD h.1 (by rw [eb]; omega)
      rw [eb] at c7
      have c7 := Call_up (d' := d + 5) c7 (by omega)
      have hsv : (kl.map (fun k => (vb k).length)).sum < 1000000 := by
        have h20 : kl.length ≤ 20 := h.1.2.2.2.1.2
        have := sumb kl (fun k => (vb k).length) 240 (fun k hk => (h.lens hk).1)
        have := Nat.mul_le_mul_left 240 h20
        omega
      have hga := gb_le (fun n => uO kl ve n = 0) cb rw
      refine Z_ch9 k8 g1 g2 g3 hst (by omega) (by omega) (by omega) (by omega) hsv rfl ?_ (fun h0 => dnn_n hD (by omega) h0) c1 c2 c3 c4 c5 c6 c7 c8 ⟨rfl, rfl⟩
      unfold rtW
      by_cases e0 : byS cb rw = 0
      · rw [if_pos e0]; exact hE0
      · rw [if_neg e0]; exact hE _ (dnn_n hD (by omega) e0)
  have first : Ev (d + 5) ML_areChunks [] 16 [(7, .int (nI 0)), (6, .int (nI 1)), (5, .int (nI 0)), (4, .int (nI 0)), (3, .int (nI 0)), (2, .int (nI 0)), (0, .ref X), (1, .ref G)] [] T (fun r T' => r = .inl (some (.int (nI 1))) ∧ T' = T) := by
    refine lpX (fun k => [(7, .int (nI k)), (6, .int (nI 1)), (5, .int (nI (sm (fun k => if 0 < bIn rw bx cb k ∨ k = op then 1 else 0) k))), (4, .int (nI 0)), (3, .int (nI (sm (fun k => bIn rw bx cb k) k))), (2, .int (nI 0)), (0, .ref X), (1, .ref G)]) (fun _ => T) (op + 1) rfl rfl ?_ ?_
    · intro k hk hq
      have e1 : sm (fun k => bIn rw bx cb k) (k + 1) = sm (fun k => bIn rw bx cb k) k + bIn rw bx cb k := rfl
      have e2 : sm (fun k => if 0 < bIn rw bx cb k ∨ k = op then 1 else 0) (k + 1) = sm (fun k => if 0 < bIn rw bx cb k ∨ k = op then 1 else 0) k + (if 0 < bIn rw bx cb k ∨ k = op then 1 else 0) := rfl
      rw [e1, e2] at hq
      have b1 := sm_mono (f := fun k => bIn rw bx cb k) (k := k) (n := op + 1) (by omega)
      rw [box_sum h] at b1
      have b2 := smb_le (f := fun k => if 0 < bIn rw bx cb k ∨ k = op then 1 else 0) (b := 1) k (fun k _ => by show (if _ then 1 else 0) ≤ 1; split <;> omega)
      have b3 := hS.2.2.2.2.2.1 k
      generalize sm (fun k => if 0 < bIn rw bx cb k ∨ k = op then 1 else 0) k = b at *
      generalize sm (fun k => bIn rw bx cb k) k = s at *
      refine Z_ch4 k8 (by omega) (by omega) co ?_
      have eI : bIn rw bx cb k = sm (fun n => if n ∈ rw then (fun n => if bx n = k then (cb n).length else 0) n else 0) st := (chu_in h (fun n => if bx n = k then (cb n).length else 0)).symm
      refine lpX (fun n => [(9, .int (nI n)), (8, .int (nI (sm (fun n => if n ∈ rw then (fun n => if bx n = k then (cb n).length else 0) n else 0) n))), (7, .int (nI k)), (6, .int (nI 1)), (5, .int (nI b)), (4, .int (nI 0)), (3, .int (nI s)), (2, .int (nI 0)), (0, .ref X), (1, .ref G)]) (fun _ => T) st rfl rfl ?_ ?_
      · intro n hn hq2
        have e3 : sm (fun n => if n ∈ rw then (fun n => if bx n = k then (cb n).length else 0) n else 0) (n + 1) = sm (fun n => if n ∈ rw then (fun n => if bx n = k then (cb n).length else 0) n else 0) n + (if n ∈ rw then (if bx n = k then (cb n).length else 0) else 0) := rfl
        rw [e3] at hq2
        have b4 := sm_mono (f := fun n => if n ∈ rw then (fun n => if bx n = k then (cb n).length else 0) n else 0) (k := n) (n := st) (by omega)
        rw [← eI] at b4
        generalize sm (fun n => if n ∈ rw then (fun n => if bx n = k then (cb n).length else 0) n else 0) n = y at *
        by_cases e : n ∈ rw
        · have hb9 := hbx n e
          rw [if_pos e] at hq2
          by_cases e4 : bx n = k
          · rw [if_pos e4] at hq2
            have cc := h.containerOf (d := d) e
            rw [e4] at cc
            exact Z_ch3 k8 g1 g2 g3 hst hn (by omega) (by omega) (h32 n e).2 (h.isStored (d := d) e) cc (h.chunkLength (d := d) e) hq2
          · rw [if_neg e4] at hq2
            exact Z_ch2 k8 g1 g2 g3 hst hn (by omega) (by omega) (by omega) e4 (h.isStored (d := d) e) (h.containerOf (d := d) e) hq2
        · rw [if_neg e] at hq2
          exact Z_ch1 k8 g1 g2 g3 hst hn (by omega) (h.notStored (d := d) (no n (by omega) e)) hq2
      · rw [← eI]
        exact Z_ch5 k8 g1 g2 g3 hst (by omega) (by omega) b3 (by omega) (by omega) rfl co hq
    · rw [box_sum h, box_cnt h]
      exact Z_ch6 k8 (by omega) (by omega) co second
  exact ev_more (by repeat (first | exact trivial | refine ⟨rfl, ?_⟩)) (by exact rfl) (by exact rfl) first
/-! isCache -/
theorem C_isCache (h : LV T X va ba ca dr kl vf vn vb ve vp nx sv cb us bl co op cs hi re st rw bx ud) : Call (d + 5) 139 [.ref X] T (.inl (some (.int (nI 1)))) T := by
  have k8 := h.k8
  have c0 := R_cached (d := d) (nI 0) h.1
  have c1 := R_cached (d := d) (nI 1) h.1
  have c2 := R_cached (d := d) (nI 2) h.1
  rw [inR_at (by decide) (by decide), Option.map_some] at c0 c1 c2
  have co := R_openContainer (d := d) h.1
  have hop := h.bst.1
  have hcs : ∀ k ∈ cs, k ≤ op := fun k hk => h.2.2.1.1.le (h.2.2.1.2.2.2.2.2.2 k hk)
  have hnd := h.2.2.2.1.2.2.2.1
  have h3 : cs.length ≤ 3 := h.1.2.2.2.2.1.2.2.2.2.2.2.1
  refine Call_of ?_
  match cs, h3, hcs, hnd, c0, c1, c2 with
  | [], _, _, _, c0, c1, c2 =>
    have c0 : Call (d + 4) 110 [.ref X, .int (nI 0)] T (.inl (some (.int (-1)))) T := c0
    have c1 : Call (d + 4) 110 [.ref X, .int (nI 1)] T (.inl (some (.int (-1)))) T := c1
    have c2 : Call (d + 4) 110 [.ref X, .int (nI 2)] T (.inl (some (.int (-1)))) T := c2
    rw [uL_isCache]
    refine eN_aload_n (M := ML_isCache) (k := 0) rfl dL_isCache_0 (pc' := 1) rfl rfl ?_
    refine (ev_iconst (M := ML_isCache) (v := (nI 0)) rfl dL_isCache_1 (pc' := 2) rfl).mpr ?_
    refine (ev_cV1 (M := ML_isCache) (kk := 8) dL_isCache_2 c_9_114 mX6_cached rfl rfl (by decide) rfl (pc' := 5) rfl).mpr ⟨(by assumption), (Nat.le_of_ble_eq_true rfl), eN_c c0 (by first | rfl | (simp (disch := omega) only [nI_add, i_sub]) | (simp only [*])) ?_⟩
    refine (ev_istore_n (M := ML_isCache) (k := 1) rfl dL_isCache_5 (by decide) (pc' := 6) rfl).mpr ?_
    refine eN_aload_n (M := ML_isCache) (k := 0) rfl dL_isCache_6 (pc' := 7) rfl rfl ?_
    refine (ev_iconst (M := ML_isCache) (v := (nI 1)) rfl dL_isCache_7 (pc' := 8) rfl).mpr ?_
    refine (ev_cV1 (M := ML_isCache) (kk := 8) dL_isCache_8 c_9_114 mX6_cached rfl rfl (by decide) rfl (pc' := 11) rfl).mpr ⟨(by assumption), (Nat.le_of_ble_eq_true rfl), eN_c c1 (by first | rfl | (simp (disch := omega) only [nI_add, i_sub]) | (simp only [*])) ?_⟩
    refine (ev_istore_n (M := ML_isCache) (k := 2) rfl dL_isCache_11 (by decide) (pc' := 12) rfl).mpr ?_
    refine eN_aload_n (M := ML_isCache) (k := 0) rfl dL_isCache_12 (pc' := 13) rfl rfl ?_
    refine (ev_iconst (M := ML_isCache) (v := (nI 2)) rfl dL_isCache_13 (pc' := 14) rfl).mpr ?_
    refine (ev_cV1 (M := ML_isCache) (kk := 8) dL_isCache_14 c_9_114 mX6_cached rfl rfl (by decide) rfl (pc' := 17) rfl).mpr ⟨(by assumption), (Nat.le_of_ble_eq_true rfl), eN_c c2 (by first | rfl | (simp (disch := omega) only [nI_add, i_sub]) | (simp only [*])) ?_⟩
    refine (ev_istore_n (M := ML_isCache) (k := 3) rfl dL_isCache_17 (by decide) (pc' := 18) rfl).mpr ?_
    refine eN_iload_n (M := ML_isCache) (k := 1) rfl dL_isCache_18 (pc' := 19) rfl rfl ?_
    refine (ev_iconst (M := ML_isCache) (v := (-1)) rfl dL_isCache_19 (pc' := 20) rfl).mpr ?_
    refine (ev_icmp_ne (M := ML_isCache) (t := 41) dL_isCache_20 (by decide) (pc' := 23) rfl).mpr (ifF (by first | assumption | omega | rfl | exact fun q => q (by assumption) | exact fun q => q rfl | (simp (disch := omega) only [nle_t, nle_f, nlt_t, nlt_f, neq_t, neq_f, i_lt0, i_le0, i_0le, i_0lt, i_eq0, i_lt, i_le, i_eq, nI_add, i_sub, i_cl, i_m1a, i_m1b, i_m1c, i_m1d, i_m1e, i_am1, i_ite0, m1_le, m1_m1, m1_ge0, not_true_eq_false, not_false_eq_true, or_self, or_false, false_or, or_true, true_or, and_self, and_true, true_and])) ?_)
    refine eN_iload_n (M := ML_isCache) (k := 2) rfl dL_isCache_23 (pc' := 24) rfl rfl ?_
    refine (ev_iconst (M := ML_isCache) (v := (-1)) rfl dL_isCache_24 (pc' := 25) rfl).mpr ?_
    refine (ev_icmp_ne (M := ML_isCache) (t := 37) dL_isCache_25 (by decide) (pc' := 28) rfl).mpr (ifF (by first | assumption | omega | rfl | exact fun q => q (by assumption) | exact fun q => q rfl | (simp (disch := omega) only [nle_t, nle_f, nlt_t, nlt_f, neq_t, neq_f, i_lt0, i_le0, i_0le, i_0lt, i_eq0, i_lt, i_le, i_eq, nI_add, i_sub, i_cl, i_m1a, i_m1b, i_m1c, i_m1d, i_m1e, i_am1, i_ite0, m1_le, m1_m1, m1_ge0, not_true_eq_false, not_false_eq_true, or_self, or_false, false_or, or_true, true_or, and_self, and_true, true_and])) ?_)
    refine eN_iload_n (M := ML_isCache) (k := 3) rfl dL_isCache_28 (pc' := 29) rfl rfl ?_
    refine (ev_iconst (M := ML_isCache) (v := (-1)) rfl dL_isCache_29 (pc' := 30) rfl).mpr ?_
    refine (ev_icmp_ne (M := ML_isCache) (t := 37) dL_isCache_30 (by decide) (pc' := 33) rfl).mpr (ifF (by first | assumption | omega | rfl | exact fun q => q (by assumption) | exact fun q => q rfl | (simp (disch := omega) only [nle_t, nle_f, nlt_t, nlt_f, neq_t, neq_f, i_lt0, i_le0, i_0le, i_0lt, i_eq0, i_lt, i_le, i_eq, nI_add, i_sub, i_cl, i_m1a, i_m1b, i_m1c, i_m1d, i_m1e, i_am1, i_ite0, m1_le, m1_m1, m1_ge0, not_true_eq_false, not_false_eq_true, or_self, or_false, false_or, or_true, true_or, and_self, and_true, true_and])) ?_)
    refine (ev_iconst (M := ML_isCache) (v := (nI 1)) rfl dL_isCache_33 (pc' := 34) rfl).mpr ?_
    refine (ev_goto (M := ML_isCache) (pc' := 74) dL_isCache_34 (by decide)).mpr ?_
    refine (ev_istore (M := ML_isCache) dL_isCache_74 (by decide) (pc' := 76) rfl).mpr ?_
    refine eN_iload (M := ML_isCache) dL_isCache_76 (pc' := 78) rfl rfl ?_
    refine (ev_if_eq (M := ML_isCache) (t := 114) dL_isCache_78 (by decide) (pc' := 81) rfl).mpr (ifF (by first | assumption | omega | rfl | exact fun q => q (by assumption) | exact fun q => q rfl | (simp (disch := omega) only [nle_t, nle_f, nlt_t, nlt_f, neq_t, neq_f, i_lt0, i_le0, i_0le, i_0lt, i_eq0, i_lt, i_le, i_eq, nI_add, i_sub, i_cl, i_m1a, i_m1b, i_m1c, i_m1d, i_m1e, i_am1, i_ite0, m1_le, m1_m1, m1_ge0, not_true_eq_false, not_false_eq_true, or_self, or_false, false_or, or_true, true_or, and_self, and_true, true_and])) ?_)
    refine eN_iload_n (M := ML_isCache) (k := 1) rfl dL_isCache_81 (pc' := 82) rfl rfl ?_
    refine (ev_iconst (M := ML_isCache) (v := (-1)) rfl dL_isCache_82 (pc' := 83) rfl).mpr ?_
    refine (ev_icmp_lt (M := ML_isCache) (t := 114) dL_isCache_83 (by decide) (pc' := 86) rfl).mpr (ifF (by first | assumption | omega | rfl | exact fun q => q (by assumption) | exact fun q => q rfl | (simp (disch := omega) only [nle_t, nle_f, nlt_t, nlt_f, neq_t, neq_f, i_lt0, i_le0, i_0le, i_0lt, i_eq0, i_lt, i_le, i_eq, nI_add, i_sub, i_cl, i_m1a, i_m1b, i_m1c, i_m1d, i_m1e, i_am1, i_ite0, m1_le, m1_m1, m1_ge0, not_true_eq_false, not_false_eq_true, or_self, or_false, false_or, or_true, true_or, and_self, and_true, true_and])) ?_)
    refine eN_iload_n (M := ML_isCache) (k := 1) rfl dL_isCache_86 (pc' := 87) rfl rfl ?_
    refine eN_aload_n (M := ML_isCache) (k := 0) rfl dL_isCache_87 (pc' := 88) rfl rfl ?_
    refine (ev_cV0 (M := ML_isCache) (kk := 8) dL_isCache_88 c_9_81 mX6_openContainer rfl rfl (by decide) rfl (pc' := 91) rfl).mpr ⟨(by assumption), (Nat.le_of_ble_eq_true rfl), eN_c co (by first | rfl | (simp (disch := omega) only [nI_add, i_sub]) | (simp only [*])) ?_⟩
    refine (ev_icmp_gt (M := ML_isCache) (t := 114) dL_isCache_91 (by decide) (pc' := 94) rfl).mpr (ifF (by first | assumption | omega | rfl | exact fun q => q (by assumption) | exact fun q => q rfl | (simp (disch := omega) only [nle_t, nle_f, nlt_t, nlt_f, neq_t, neq_f, i_lt0, i_le0, i_0le, i_0lt, i_eq0, i_lt, i_le, i_eq, nI_add, i_sub, i_cl, i_m1a, i_m1b, i_m1c, i_m1d, i_m1e, i_am1, i_ite0, m1_le, m1_m1, m1_ge0, not_true_eq_false, not_false_eq_true, or_self, or_false, false_or, or_true, true_or, and_self, and_true, true_and])) ?_)
    refine eN_iload_n (M := ML_isCache) (k := 2) rfl dL_isCache_94 (pc' := 95) rfl rfl ?_
    refine eN_aload_n (M := ML_isCache) (k := 0) rfl dL_isCache_95 (pc' := 96) rfl rfl ?_
    refine (ev_cV0 (M := ML_isCache) (kk := 8) dL_isCache_96 c_9_81 mX6_openContainer rfl rfl (by decide) rfl (pc' := 99) rfl).mpr ⟨(by assumption), (Nat.le_of_ble_eq_true rfl), eN_c co (by first | rfl | (simp (disch := omega) only [nI_add, i_sub]) | (simp only [*])) ?_⟩
    refine (ev_icmp_gt (M := ML_isCache) (t := 114) dL_isCache_99 (by decide) (pc' := 102) rfl).mpr (ifF (by first | assumption | omega | rfl | exact fun q => q (by assumption) | exact fun q => q rfl | (simp (disch := omega) only [nle_t, nle_f, nlt_t, nlt_f, neq_t, neq_f, i_lt0, i_le0, i_0le, i_0lt, i_eq0, i_lt, i_le, i_eq, nI_add, i_sub, i_cl, i_m1a, i_m1b, i_m1c, i_m1d, i_m1e, i_am1, i_ite0, m1_le, m1_m1, m1_ge0, not_true_eq_false, not_false_eq_true, or_self, or_false, false_or, or_true, true_or, and_self, and_true, true_and])) ?_)
    refine eN_iload_n (M := ML_isCache) (k := 3) rfl dL_isCache_102 (pc' := 103) rfl rfl ?_
    refine eN_aload_n (M := ML_isCache) (k := 0) rfl dL_isCache_103 (pc' := 104) rfl rfl ?_
    refine (ev_cV0 (M := ML_isCache) (kk := 8) dL_isCache_104 c_9_81 mX6_openContainer rfl rfl (by decide) rfl (pc' := 107) rfl).mpr ⟨(by assumption), (Nat.le_of_ble_eq_true rfl), eN_c co (by first | rfl | (simp (disch := omega) only [nI_add, i_sub]) | (simp only [*])) ?_⟩
    refine (ev_icmp_gt (M := ML_isCache) (t := 114) dL_isCache_107 (by decide) (pc' := 110) rfl).mpr (ifF (by first | assumption | omega | rfl | exact fun q => q (by assumption) | exact fun q => q rfl | (simp (disch := omega) only [nle_t, nle_f, nlt_t, nlt_f, neq_t, neq_f, i_lt0, i_le0, i_0le, i_0lt, i_eq0, i_lt, i_le, i_eq, nI_add, i_sub, i_cl, i_m1a, i_m1b, i_m1c, i_m1d, i_m1e, i_am1, i_ite0, m1_le, m1_m1, m1_ge0, not_true_eq_false, not_false_eq_true, or_self, or_false, false_or, or_true, true_or, and_self, and_true, true_and])) ?_)
    refine (ev_iconst (M := ML_isCache) (v := (nI 1)) rfl dL_isCache_110 (pc' := 111) rfl).mpr ?_
    refine (ev_goto (M := ML_isCache) (pc' := 115) dL_isCache_111 (by decide)).mpr ?_
    refine (ev_zretI (M := ML_isCache) rfl dL_isCache_115 (by omega)).mpr ?_
    exact ⟨rfl, rfl⟩
  | [a], _, hcs, _, c0, c1, c2 =>
    have c0 : Call (d + 4) 110 [.ref X, .int (nI 0)] T (.inl (some (.int (nI a)))) T := c0
    have c1 : Call (d + 4) 110 [.ref X, .int (nI 1)] T (.inl (some (.int (-1)))) T := c1
    have c2 : Call (d + 4) 110 [.ref X, .int (nI 2)] T (.inl (some (.int (-1)))) T := c2
    have ha := hcs a (by simp)
    rw [uL_isCache]
    refine eN_aload_n (M := ML_isCache) (k := 0) rfl dL_isCache_0 (pc' := 1) rfl rfl ?_
    refine (ev_iconst (M := ML_isCache) (v := (nI 0)) rfl dL_isCache_1 (pc' := 2) rfl).mpr ?_
    refine (ev_cV1 (M := ML_isCache) (kk := 8) dL_isCache_2 c_9_114 mX6_cached rfl rfl (by decide) rfl (pc' := 5) rfl).mpr ⟨(by assumption), (Nat.le_of_ble_eq_true rfl), eN_c c0 (by first | rfl | (simp (disch := omega) only [nI_add, i_sub]) | (simp only [*])) ?_⟩
    refine (ev_istore_n (M := ML_isCache) (k := 1) rfl dL_isCache_5 (by decide) (pc' := 6) rfl).mpr ?_
    refine eN_aload_n (M := ML_isCache) (k := 0) rfl dL_isCache_6 (pc' := 7) rfl rfl ?_
    refine (ev_iconst (M := ML_isCache) (v := (nI 1)) rfl dL_isCache_7 (pc' := 8) rfl).mpr ?_
    refine (ev_cV1 (M := ML_isCache) (kk := 8) dL_isCache_8 c_9_114 mX6_cached rfl rfl (by decide) rfl (pc' := 11) rfl).mpr ⟨(by assumption), (Nat.le_of_ble_eq_true rfl), eN_c c1 (by first | rfl | (simp (disch := omega) only [nI_add, i_sub]) | (simp only [*])) ?_⟩
    refine (ev_istore_n (M := ML_isCache) (k := 2) rfl dL_isCache_11 (by decide) (pc' := 12) rfl).mpr ?_
    refine eN_aload_n (M := ML_isCache) (k := 0) rfl dL_isCache_12 (pc' := 13) rfl rfl ?_
    refine (ev_iconst (M := ML_isCache) (v := (nI 2)) rfl dL_isCache_13 (pc' := 14) rfl).mpr ?_
    refine (ev_cV1 (M := ML_isCache) (kk := 8) dL_isCache_14 c_9_114 mX6_cached rfl rfl (by decide) rfl (pc' := 17) rfl).mpr ⟨(by assumption), (Nat.le_of_ble_eq_true rfl), eN_c c2 (by first | rfl | (simp (disch := omega) only [nI_add, i_sub]) | (simp only [*])) ?_⟩
    refine (ev_istore_n (M := ML_isCache) (k := 3) rfl dL_isCache_17 (by decide) (pc' := 18) rfl).mpr ?_
    refine eN_iload_n (M := ML_isCache) (k := 1) rfl dL_isCache_18 (pc' := 19) rfl rfl ?_
    refine (ev_iconst (M := ML_isCache) (v := (-1)) rfl dL_isCache_19 (pc' := 20) rfl).mpr ?_
    refine (ev_icmp_ne (M := ML_isCache) (t := 41) dL_isCache_20 (by decide) (pc' := 23) rfl).mpr (ifT (by first | assumption | omega | rfl | exact fun q => q (by assumption) | exact fun q => q rfl | (simp (disch := omega) only [nle_t, nle_f, nlt_t, nlt_f, neq_t, neq_f, i_lt0, i_le0, i_0le, i_0lt, i_eq0, i_lt, i_le, i_eq, nI_add, i_sub, i_cl, i_m1a, i_m1b, i_m1c, i_m1d, i_m1e, i_am1, i_ite0, m1_le, m1_m1, m1_ge0, not_true_eq_false, not_false_eq_true, or_self, or_false, false_or, or_true, true_or, and_self, and_true, true_and])) ?_)
    refine eN_iload_n (M := ML_isCache) (k := 1) rfl dL_isCache_41 (pc' := 42) rfl rfl ?_
    refine eN_iload_n (M := ML_isCache) (k := 2) rfl dL_isCache_42 (pc' := 43) rfl rfl ?_
    refine (ev_icmp_eq (M := ML_isCache) (t := 73) dL_isCache_43 (by decide) (pc' := 46) rfl).mpr (ifF (by first | assumption | omega | rfl | exact fun q => q (by assumption) | exact fun q => q rfl | (simp (disch := omega) only [nle_t, nle_f, nlt_t, nlt_f, neq_t, neq_f, i_lt0, i_le0, i_0le, i_0lt, i_eq0, i_lt, i_le, i_eq, nI_add, i_sub, i_cl, i_m1a, i_m1b, i_m1c, i_m1d, i_m1e, i_am1, i_ite0, m1_le, m1_m1, m1_ge0, not_true_eq_false, not_false_eq_true, or_self, or_false, false_or, or_true, true_or, and_self, and_true, true_and])) ?_)
    refine eN_iload_n (M := ML_isCache) (k := 2) rfl dL_isCache_46 (pc' := 47) rfl rfl ?_
    refine (ev_iconst (M := ML_isCache) (v := (-1)) rfl dL_isCache_47 (pc' := 48) rfl).mpr ?_
    refine (ev_icmp_ne (M := ML_isCache) (t := 59) dL_isCache_48 (by decide) (pc' := 51) rfl).mpr (ifF (by first | assumption | omega | rfl | exact fun q => q (by assumption) | exact fun q => q rfl | (simp (disch := omega) only [nle_t, nle_f, nlt_t, nlt_f, neq_t, neq_f, i_lt0, i_le0, i_0le, i_0lt, i_eq0, i_lt, i_le, i_eq, nI_add, i_sub, i_cl, i_m1a, i_m1b, i_m1c, i_m1d, i_m1e, i_am1, i_ite0, m1_le, m1_m1, m1_ge0, not_true_eq_false, not_false_eq_true, or_self, or_false, false_or, or_true, true_or, and_self, and_true, true_and])) ?_)
    refine eN_iload_n (M := ML_isCache) (k := 3) rfl dL_isCache_51 (pc' := 52) rfl rfl ?_
    refine (ev_iconst (M := ML_isCache) (v := (-1)) rfl dL_isCache_52 (pc' := 53) rfl).mpr ?_
    refine (ev_icmp_ne (M := ML_isCache) (t := 73) dL_isCache_53 (by decide) (pc' := 56) rfl).mpr (ifF (by first | assumption | omega | rfl | exact fun q => q (by assumption) | exact fun q => q rfl | (simp (disch := omega) only [nle_t, nle_f, nlt_t, nlt_f, neq_t, neq_f, i_lt0, i_le0, i_0le, i_0lt, i_eq0, i_lt, i_le, i_eq, nI_add, i_sub, i_cl, i_m1a, i_m1b, i_m1c, i_m1d, i_m1e, i_am1, i_ite0, m1_le, m1_m1, m1_ge0, not_true_eq_false, not_false_eq_true, or_self, or_false, false_or, or_true, true_or, and_self, and_true, true_and])) ?_)
    refine (ev_goto (M := ML_isCache) (pc' := 69) dL_isCache_56 (by decide)).mpr ?_
    refine (ev_iconst (M := ML_isCache) (v := (nI 1)) rfl dL_isCache_69 (pc' := 70) rfl).mpr ?_
    refine (ev_goto (M := ML_isCache) (pc' := 74) dL_isCache_70 (by decide)).mpr ?_
    refine (ev_istore (M := ML_isCache) dL_isCache_74 (by decide) (pc' := 76) rfl).mpr ?_
    refine eN_iload (M := ML_isCache) dL_isCache_76 (pc' := 78) rfl rfl ?_
    refine (ev_if_eq (M := ML_isCache) (t := 114) dL_isCache_78 (by decide) (pc' := 81) rfl).mpr (ifF (by first | assumption | omega | rfl | exact fun q => q (by assumption) | exact fun q => q rfl | (simp (disch := omega) only [nle_t, nle_f, nlt_t, nlt_f, neq_t, neq_f, i_lt0, i_le0, i_0le, i_0lt, i_eq0, i_lt, i_le, i_eq, nI_add, i_sub, i_cl, i_m1a, i_m1b, i_m1c, i_m1d, i_m1e, i_am1, i_ite0, m1_le, m1_m1, m1_ge0, not_true_eq_false, not_false_eq_true, or_self, or_false, false_or, or_true, true_or, and_self, and_true, true_and])) ?_)
    refine eN_iload_n (M := ML_isCache) (k := 1) rfl dL_isCache_81 (pc' := 82) rfl rfl ?_
    refine (ev_iconst (M := ML_isCache) (v := (-1)) rfl dL_isCache_82 (pc' := 83) rfl).mpr ?_
    refine (ev_icmp_lt (M := ML_isCache) (t := 114) dL_isCache_83 (by decide) (pc' := 86) rfl).mpr (ifF (by first | assumption | omega | rfl | exact fun q => q (by assumption) | exact fun q => q rfl | (simp (disch := omega) only [nle_t, nle_f, nlt_t, nlt_f, neq_t, neq_f, i_lt0, i_le0, i_0le, i_0lt, i_eq0, i_lt, i_le, i_eq, nI_add, i_sub, i_cl, i_m1a, i_m1b, i_m1c, i_m1d, i_m1e, i_am1, i_ite0, m1_le, m1_m1, m1_ge0, not_true_eq_false, not_false_eq_true, or_self, or_false, false_or, or_true, true_or, and_self, and_true, true_and])) ?_)
    refine eN_iload_n (M := ML_isCache) (k := 1) rfl dL_isCache_86 (pc' := 87) rfl rfl ?_
    refine eN_aload_n (M := ML_isCache) (k := 0) rfl dL_isCache_87 (pc' := 88) rfl rfl ?_
    refine (ev_cV0 (M := ML_isCache) (kk := 8) dL_isCache_88 c_9_81 mX6_openContainer rfl rfl (by decide) rfl (pc' := 91) rfl).mpr ⟨(by assumption), (Nat.le_of_ble_eq_true rfl), eN_c co (by first | rfl | (simp (disch := omega) only [nI_add, i_sub]) | (simp only [*])) ?_⟩
    refine (ev_icmp_gt (M := ML_isCache) (t := 114) dL_isCache_91 (by decide) (pc' := 94) rfl).mpr (ifF (by first | assumption | omega | rfl | exact fun q => q (by assumption) | exact fun q => q rfl | (simp (disch := omega) only [nle_t, nle_f, nlt_t, nlt_f, neq_t, neq_f, i_lt0, i_le0, i_0le, i_0lt, i_eq0, i_lt, i_le, i_eq, nI_add, i_sub, i_cl, i_m1a, i_m1b, i_m1c, i_m1d, i_m1e, i_am1, i_ite0, m1_le, m1_m1, m1_ge0, not_true_eq_false, not_false_eq_true, or_self, or_false, false_or, or_true, true_or, and_self, and_true, true_and])) ?_)
    refine eN_iload_n (M := ML_isCache) (k := 2) rfl dL_isCache_94 (pc' := 95) rfl rfl ?_
    refine eN_aload_n (M := ML_isCache) (k := 0) rfl dL_isCache_95 (pc' := 96) rfl rfl ?_
    refine (ev_cV0 (M := ML_isCache) (kk := 8) dL_isCache_96 c_9_81 mX6_openContainer rfl rfl (by decide) rfl (pc' := 99) rfl).mpr ⟨(by assumption), (Nat.le_of_ble_eq_true rfl), eN_c co (by first | rfl | (simp (disch := omega) only [nI_add, i_sub]) | (simp only [*])) ?_⟩
    refine (ev_icmp_gt (M := ML_isCache) (t := 114) dL_isCache_99 (by decide) (pc' := 102) rfl).mpr (ifF (by first | assumption | omega | rfl | exact fun q => q (by assumption) | exact fun q => q rfl | (simp (disch := omega) only [nle_t, nle_f, nlt_t, nlt_f, neq_t, neq_f, i_lt0, i_le0, i_0le, i_0lt, i_eq0, i_lt, i_le, i_eq, nI_add, i_sub, i_cl, i_m1a, i_m1b, i_m1c, i_m1d, i_m1e, i_am1, i_ite0, m1_le, m1_m1, m1_ge0, not_true_eq_false, not_false_eq_true, or_self, or_false, false_or, or_true, true_or, and_self, and_true, true_and])) ?_)
    refine eN_iload_n (M := ML_isCache) (k := 3) rfl dL_isCache_102 (pc' := 103) rfl rfl ?_
    refine eN_aload_n (M := ML_isCache) (k := 0) rfl dL_isCache_103 (pc' := 104) rfl rfl ?_
    refine (ev_cV0 (M := ML_isCache) (kk := 8) dL_isCache_104 c_9_81 mX6_openContainer rfl rfl (by decide) rfl (pc' := 107) rfl).mpr ⟨(by assumption), (Nat.le_of_ble_eq_true rfl), eN_c co (by first | rfl | (simp (disch := omega) only [nI_add, i_sub]) | (simp only [*])) ?_⟩
    refine (ev_icmp_gt (M := ML_isCache) (t := 114) dL_isCache_107 (by decide) (pc' := 110) rfl).mpr (ifF (by first | assumption | omega | rfl | exact fun q => q (by assumption) | exact fun q => q rfl | (simp (disch := omega) only [nle_t, nle_f, nlt_t, nlt_f, neq_t, neq_f, i_lt0, i_le0, i_0le, i_0lt, i_eq0, i_lt, i_le, i_eq, nI_add, i_sub, i_cl, i_m1a, i_m1b, i_m1c, i_m1d, i_m1e, i_am1, i_ite0, m1_le, m1_m1, m1_ge0, not_true_eq_false, not_false_eq_true, or_self, or_false, false_or, or_true, true_or, and_self, and_true, true_and])) ?_)
    refine (ev_iconst (M := ML_isCache) (v := (nI 1)) rfl dL_isCache_110 (pc' := 111) rfl).mpr ?_
    refine (ev_goto (M := ML_isCache) (pc' := 115) dL_isCache_111 (by decide)).mpr ?_
    refine (ev_zretI (M := ML_isCache) rfl dL_isCache_115 (by omega)).mpr ?_
    exact ⟨rfl, rfl⟩
  | [a, b], _, hcs, hnd, c0, c1, c2 =>
    have c0 : Call (d + 4) 110 [.ref X, .int (nI 0)] T (.inl (some (.int (nI a)))) T := c0
    have c1 : Call (d + 4) 110 [.ref X, .int (nI 1)] T (.inl (some (.int (nI b)))) T := c1
    have c2 : Call (d + 4) 110 [.ref X, .int (nI 2)] T (.inl (some (.int (-1)))) T := c2
    have ha := hcs a (by simp)
    have hb := hcs b (by simp)
    have e1 : ¬ a = b := by simpa using hnd
    rw [uL_isCache]
    refine eN_aload_n (M := ML_isCache) (k := 0) rfl dL_isCache_0 (pc' := 1) rfl rfl ?_
    refine (ev_iconst (M := ML_isCache) (v := (nI 0)) rfl dL_isCache_1 (pc' := 2) rfl).mpr ?_
    refine (ev_cV1 (M := ML_isCache) (kk := 8) dL_isCache_2 c_9_114 mX6_cached rfl rfl (by decide) rfl (pc' := 5) rfl).mpr ⟨(by assumption), (Nat.le_of_ble_eq_true rfl), eN_c c0 (by first | rfl | (simp (disch := omega) only [nI_add, i_sub]) | (simp only [*])) ?_⟩
    refine (ev_istore_n (M := ML_isCache) (k := 1) rfl dL_isCache_5 (by decide) (pc' := 6) rfl).mpr ?_
    refine eN_aload_n (M := ML_isCache) (k := 0) rfl dL_isCache_6 (pc' := 7) rfl rfl ?_
    refine (ev_iconst (M := ML_isCache) (v := (nI 1)) rfl dL_isCache_7 (pc' := 8) rfl).mpr ?_
    refine (ev_cV1 (M := ML_isCache) (kk := 8) dL_isCache_8 c_9_114 mX6_cached rfl rfl (by decide) rfl (pc' := 11) rfl).mpr ⟨(by assumption), (Nat.le_of_ble_eq_true rfl), eN_c c1 (by first | rfl | (simp (disch := omega) only [nI_add, i_sub]) | (simp only [*])) ?_⟩
    refine (ev_istore_n (M := ML_isCache) (k := 2) rfl dL_isCache_11 (by decide) (pc' := 12) rfl).mpr ?_
    refine eN_aload_n (M := ML_isCache) (k := 0) rfl dL_isCache_12 (pc' := 13) rfl rfl ?_
    refine (ev_iconst (M := ML_isCache) (v := (nI 2)) rfl dL_isCache_13 (pc' := 14) rfl).mpr ?_
    refine (ev_cV1 (M := ML_isCache) (kk := 8) dL_isCache_14 c_9_114 mX6_cached rfl rfl (by decide) rfl (pc' := 17) rfl).mpr ⟨(by assumption), (Nat.le_of_ble_eq_true rfl), eN_c c2 (by first | rfl | (simp (disch := omega) only [nI_add, i_sub]) | (simp only [*])) ?_⟩
    refine (ev_istore_n (M := ML_isCache) (k := 3) rfl dL_isCache_17 (by decide) (pc' := 18) rfl).mpr ?_
    refine eN_iload_n (M := ML_isCache) (k := 1) rfl dL_isCache_18 (pc' := 19) rfl rfl ?_
    refine (ev_iconst (M := ML_isCache) (v := (-1)) rfl dL_isCache_19 (pc' := 20) rfl).mpr ?_
    refine (ev_icmp_ne (M := ML_isCache) (t := 41) dL_isCache_20 (by decide) (pc' := 23) rfl).mpr (ifT (by first | assumption | omega | rfl | exact fun q => q (by assumption) | exact fun q => q rfl | (simp (disch := omega) only [nle_t, nle_f, nlt_t, nlt_f, neq_t, neq_f, i_lt0, i_le0, i_0le, i_0lt, i_eq0, i_lt, i_le, i_eq, nI_add, i_sub, i_cl, i_m1a, i_m1b, i_m1c, i_m1d, i_m1e, i_am1, i_ite0, m1_le, m1_m1, m1_ge0, not_true_eq_false, not_false_eq_true, or_self, or_false, false_or, or_true, true_or, and_self, and_true, true_and])) ?_)
    refine eN_iload_n (M := ML_isCache) (k := 1) rfl dL_isCache_41 (pc' := 42) rfl rfl ?_
    refine eN_iload_n (M := ML_isCache) (k := 2) rfl dL_isCache_42 (pc' := 43) rfl rfl ?_
    refine (ev_icmp_eq (M := ML_isCache) (t := 73) dL_isCache_43 (by decide) (pc' := 46) rfl).mpr (ifF (by first | assumption | omega | rfl | exact fun q => q (by assumption) | exact fun q => q rfl | (simp (disch := omega) only [nle_t, nle_f, nlt_t, nlt_f, neq_t, neq_f, i_lt0, i_le0, i_0le, i_0lt, i_eq0, i_lt, i_le, i_eq, nI_add, i_sub, i_cl, i_m1a, i_m1b, i_m1c, i_m1d, i_m1e, i_am1, i_ite0, m1_le, m1_m1, m1_ge0, not_true_eq_false, not_false_eq_true, or_self, or_false, false_or, or_true, true_or, and_self, and_true, true_and])) ?_)
    refine eN_iload_n (M := ML_isCache) (k := 2) rfl dL_isCache_46 (pc' := 47) rfl rfl ?_
    refine (ev_iconst (M := ML_isCache) (v := (-1)) rfl dL_isCache_47 (pc' := 48) rfl).mpr ?_
    refine (ev_icmp_ne (M := ML_isCache) (t := 59) dL_isCache_48 (by decide) (pc' := 51) rfl).mpr (ifT (by first | assumption | omega | rfl | exact fun q => q (by assumption) | exact fun q => q rfl | (simp (disch := omega) only [nle_t, nle_f, nlt_t, nlt_f, neq_t, neq_f, i_lt0, i_le0, i_0le, i_0lt, i_eq0, i_lt, i_le, i_eq, nI_add, i_sub, i_cl, i_m1a, i_m1b, i_m1c, i_m1d, i_m1e, i_am1, i_ite0, m1_le, m1_m1, m1_ge0, not_true_eq_false, not_false_eq_true, or_self, or_false, false_or, or_true, true_or, and_self, and_true, true_and])) ?_)
    refine eN_iload_n (M := ML_isCache) (k := 1) rfl dL_isCache_59 (pc' := 60) rfl rfl ?_
    refine eN_iload_n (M := ML_isCache) (k := 3) rfl dL_isCache_60 (pc' := 61) rfl rfl ?_
    refine (ev_icmp_eq (M := ML_isCache) (t := 73) dL_isCache_61 (by decide) (pc' := 64) rfl).mpr (ifF (by first | assumption | omega | rfl | exact fun q => q (by assumption) | exact fun q => q rfl | (simp (disch := omega) only [nle_t, nle_f, nlt_t, nlt_f, neq_t, neq_f, i_lt0, i_le0, i_0le, i_0lt, i_eq0, i_lt, i_le, i_eq, nI_add, i_sub, i_cl, i_m1a, i_m1b, i_m1c, i_m1d, i_m1e, i_am1, i_ite0, m1_le, m1_m1, m1_ge0, not_true_eq_false, not_false_eq_true, or_self, or_false, false_or, or_true, true_or, and_self, and_true, true_and])) ?_)
    refine eN_iload_n (M := ML_isCache) (k := 2) rfl dL_isCache_64 (pc' := 65) rfl rfl ?_
    refine eN_iload_n (M := ML_isCache) (k := 3) rfl dL_isCache_65 (pc' := 66) rfl rfl ?_
    refine (ev_icmp_eq (M := ML_isCache) (t := 73) dL_isCache_66 (by decide) (pc' := 69) rfl).mpr (ifF (by first | assumption | omega | rfl | exact fun q => q (by assumption) | exact fun q => q rfl | (simp (disch := omega) only [nle_t, nle_f, nlt_t, nlt_f, neq_t, neq_f, i_lt0, i_le0, i_0le, i_0lt, i_eq0, i_lt, i_le, i_eq, nI_add, i_sub, i_cl, i_m1a, i_m1b, i_m1c, i_m1d, i_m1e, i_am1, i_ite0, m1_le, m1_m1, m1_ge0, not_true_eq_false, not_false_eq_true, or_self, or_false, false_or, or_true, true_or, and_self, and_true, true_and])) ?_)
    refine (ev_iconst (M := ML_isCache) (v := (nI 1)) rfl dL_isCache_69 (pc' := 70) rfl).mpr ?_
    refine (ev_goto (M := ML_isCache) (pc' := 74) dL_isCache_70 (by decide)).mpr ?_
    refine (ev_istore (M := ML_isCache) dL_isCache_74 (by decide) (pc' := 76) rfl).mpr ?_
    refine eN_iload (M := ML_isCache) dL_isCache_76 (pc' := 78) rfl rfl ?_
    refine (ev_if_eq (M := ML_isCache) (t := 114) dL_isCache_78 (by decide) (pc' := 81) rfl).mpr (ifF (by first | assumption | omega | rfl | exact fun q => q (by assumption) | exact fun q => q rfl | (simp (disch := omega) only [nle_t, nle_f, nlt_t, nlt_f, neq_t, neq_f, i_lt0, i_le0, i_0le, i_0lt, i_eq0, i_lt, i_le, i_eq, nI_add, i_sub, i_cl, i_m1a, i_m1b, i_m1c, i_m1d, i_m1e, i_am1, i_ite0, m1_le, m1_m1, m1_ge0, not_true_eq_false, not_false_eq_true, or_self, or_false, false_or, or_true, true_or, and_self, and_true, true_and])) ?_)
    refine eN_iload_n (M := ML_isCache) (k := 1) rfl dL_isCache_81 (pc' := 82) rfl rfl ?_
    refine (ev_iconst (M := ML_isCache) (v := (-1)) rfl dL_isCache_82 (pc' := 83) rfl).mpr ?_
    refine (ev_icmp_lt (M := ML_isCache) (t := 114) dL_isCache_83 (by decide) (pc' := 86) rfl).mpr (ifF (by first | assumption | omega | rfl | exact fun q => q (by assumption) | exact fun q => q rfl | (simp (disch := omega) only [nle_t, nle_f, nlt_t, nlt_f, neq_t, neq_f, i_lt0, i_le0, i_0le, i_0lt, i_eq0, i_lt, i_le, i_eq, nI_add, i_sub, i_cl, i_m1a, i_m1b, i_m1c, i_m1d, i_m1e, i_am1, i_ite0, m1_le, m1_m1, m1_ge0, not_true_eq_false, not_false_eq_true, or_self, or_false, false_or, or_true, true_or, and_self, and_true, true_and])) ?_)
    refine eN_iload_n (M := ML_isCache) (k := 1) rfl dL_isCache_86 (pc' := 87) rfl rfl ?_
    refine eN_aload_n (M := ML_isCache) (k := 0) rfl dL_isCache_87 (pc' := 88) rfl rfl ?_
    refine (ev_cV0 (M := ML_isCache) (kk := 8) dL_isCache_88 c_9_81 mX6_openContainer rfl rfl (by decide) rfl (pc' := 91) rfl).mpr ⟨(by assumption), (Nat.le_of_ble_eq_true rfl), eN_c co (by first | rfl | (simp (disch := omega) only [nI_add, i_sub]) | (simp only [*])) ?_⟩
    refine (ev_icmp_gt (M := ML_isCache) (t := 114) dL_isCache_91 (by decide) (pc' := 94) rfl).mpr (ifF (by first | assumption | omega | rfl | exact fun q => q (by assumption) | exact fun q => q rfl | (simp (disch := omega) only [nle_t, nle_f, nlt_t, nlt_f, neq_t, neq_f, i_lt0, i_le0, i_0le, i_0lt, i_eq0, i_lt, i_le, i_eq, nI_add, i_sub, i_cl, i_m1a, i_m1b, i_m1c, i_m1d, i_m1e, i_am1, i_ite0, m1_le, m1_m1, m1_ge0, not_true_eq_false, not_false_eq_true, or_self, or_false, false_or, or_true, true_or, and_self, and_true, true_and])) ?_)
    refine eN_iload_n (M := ML_isCache) (k := 2) rfl dL_isCache_94 (pc' := 95) rfl rfl ?_
    refine eN_aload_n (M := ML_isCache) (k := 0) rfl dL_isCache_95 (pc' := 96) rfl rfl ?_
    refine (ev_cV0 (M := ML_isCache) (kk := 8) dL_isCache_96 c_9_81 mX6_openContainer rfl rfl (by decide) rfl (pc' := 99) rfl).mpr ⟨(by assumption), (Nat.le_of_ble_eq_true rfl), eN_c co (by first | rfl | (simp (disch := omega) only [nI_add, i_sub]) | (simp only [*])) ?_⟩
    refine (ev_icmp_gt (M := ML_isCache) (t := 114) dL_isCache_99 (by decide) (pc' := 102) rfl).mpr (ifF (by first | assumption | omega | rfl | exact fun q => q (by assumption) | exact fun q => q rfl | (simp (disch := omega) only [nle_t, nle_f, nlt_t, nlt_f, neq_t, neq_f, i_lt0, i_le0, i_0le, i_0lt, i_eq0, i_lt, i_le, i_eq, nI_add, i_sub, i_cl, i_m1a, i_m1b, i_m1c, i_m1d, i_m1e, i_am1, i_ite0, m1_le, m1_m1, m1_ge0, not_true_eq_false, not_false_eq_true, or_self, or_false, false_or, or_true, true_or, and_self, and_true, true_and])) ?_)
    refine eN_iload_n (M := ML_isCache) (k := 3) rfl dL_isCache_102 (pc' := 103) rfl rfl ?_
    refine eN_aload_n (M := ML_isCache) (k := 0) rfl dL_isCache_103 (pc' := 104) rfl rfl ?_
    refine (ev_cV0 (M := ML_isCache) (kk := 8) dL_isCache_104 c_9_81 mX6_openContainer rfl rfl (by decide) rfl (pc' := 107) rfl).mpr ⟨(by assumption), (Nat.le_of_ble_eq_true rfl), eN_c co (by first | rfl | (simp (disch := omega) only [nI_add, i_sub]) | (simp only [*])) ?_⟩
    refine (ev_icmp_gt (M := ML_isCache) (t := 114) dL_isCache_107 (by decide) (pc' := 110) rfl).mpr (ifF (by first | assumption | omega | rfl | exact fun q => q (by assumption) | exact fun q => q rfl | (simp (disch := omega) only [nle_t, nle_f, nlt_t, nlt_f, neq_t, neq_f, i_lt0, i_le0, i_0le, i_0lt, i_eq0, i_lt, i_le, i_eq, nI_add, i_sub, i_cl, i_m1a, i_m1b, i_m1c, i_m1d, i_m1e, i_am1, i_ite0, m1_le, m1_m1, m1_ge0, not_true_eq_false, not_false_eq_true, or_self, or_false, false_or, or_true, true_or, and_self, and_true, true_and])) ?_)
    refine (ev_iconst (M := ML_isCache) (v := (nI 1)) rfl dL_isCache_110 (pc' := 111) rfl).mpr ?_
    refine (ev_goto (M := ML_isCache) (pc' := 115) dL_isCache_111 (by decide)).mpr ?_
    refine (ev_zretI (M := ML_isCache) rfl dL_isCache_115 (by omega)).mpr ?_
    exact ⟨rfl, rfl⟩
  | [a, b, c], _, hcs, hnd, c0, c1, c2 =>
    have c0 : Call (d + 4) 110 [.ref X, .int (nI 0)] T (.inl (some (.int (nI a)))) T := c0
    have c1 : Call (d + 4) 110 [.ref X, .int (nI 1)] T (.inl (some (.int (nI b)))) T := c1
    have c2 : Call (d + 4) 110 [.ref X, .int (nI 2)] T (.inl (some (.int (nI c)))) T := c2
    have ha := hcs a (by simp)
    have hb := hcs b (by simp)
    have hc := hcs c (by simp)
    have hn : (¬ a = b ∧ ¬ a = c) ∧ ¬ b = c := by simpa using hnd
    obtain ⟨⟨e1, e2⟩, e3⟩ := hn
    rw [uL_isCache]
    refine eN_aload_n (M := ML_isCache) (k := 0) rfl dL_isCache_0 (pc' := 1) rfl rfl ?_
    refine (ev_iconst (M := ML_isCache) (v := (nI 0)) rfl dL_isCache_1 (pc' := 2) rfl).mpr ?_
    refine (ev_cV1 (M := ML_isCache) (kk := 8) dL_isCache_2 c_9_114 mX6_cached rfl rfl (by decide) rfl (pc' := 5) rfl).mpr ⟨(by assumption), (Nat.le_of_ble_eq_true rfl), eN_c c0 (by first | rfl | (simp (disch := omega) only [nI_add, i_sub]) | (simp only [*])) ?_⟩
    refine (ev_istore_n (M := ML_isCache) (k := 1) rfl dL_isCache_5 (by decide) (pc' := 6) rfl).mpr ?_
    refine eN_aload_n (M := ML_isCache) (k := 0) rfl dL_isCache_6 (pc' := 7) rfl rfl ?_
    refine (ev_iconst (M := ML_isCache) (v := (nI 1)) rfl dL_isCache_7 (pc' := 8) rfl).mpr ?_
    refine (ev_cV1 (M := ML_isCache) (kk := 8) dL_isCache_8 c_9_114 mX6_cached rfl rfl (by decide) rfl (pc' := 11) rfl).mpr ⟨(by assumption), (Nat.le_of_ble_eq_true rfl), eN_c c1 (by first | rfl | (simp (disch := omega) only [nI_add, i_sub]) | (simp only [*])) ?_⟩
    refine (ev_istore_n (M := ML_isCache) (k := 2) rfl dL_isCache_11 (by decide) (pc' := 12) rfl).mpr ?_
    refine eN_aload_n (M := ML_isCache) (k := 0) rfl dL_isCache_12 (pc' := 13) rfl rfl ?_
    refine (ev_iconst (M := ML_isCache) (v := (nI 2)) rfl dL_isCache_13 (pc' := 14) rfl).mpr ?_
    refine (ev_cV1 (M := ML_isCache) (kk := 8) dL_isCache_14 c_9_114 mX6_cached rfl rfl (by decide) rfl (pc' := 17) rfl).mpr ⟨(by assumption), (Nat.le_of_ble_eq_true rfl), eN_c c2 (by first | rfl | (simp (disch := omega) only [nI_add, i_sub]) | (simp only [*])) ?_⟩
    refine (ev_istore_n (M := ML_isCache) (k := 3) rfl dL_isCache_17 (by decide) (pc' := 18) rfl).mpr ?_
    refine eN_iload_n (M := ML_isCache) (k := 1) rfl dL_isCache_18 (pc' := 19) rfl rfl ?_
    refine (ev_iconst (M := ML_isCache) (v := (-1)) rfl dL_isCache_19 (pc' := 20) rfl).mpr ?_
    refine (ev_icmp_ne (M := ML_isCache) (t := 41) dL_isCache_20 (by decide) (pc' := 23) rfl).mpr (ifT (by first | assumption | omega | rfl | exact fun q => q (by assumption) | exact fun q => q rfl | (simp (disch := omega) only [nle_t, nle_f, nlt_t, nlt_f, neq_t, neq_f, i_lt0, i_le0, i_0le, i_0lt, i_eq0, i_lt, i_le, i_eq, nI_add, i_sub, i_cl, i_m1a, i_m1b, i_m1c, i_m1d, i_m1e, i_am1, i_ite0, m1_le, m1_m1, m1_ge0, not_true_eq_false, not_false_eq_true, or_self, or_false, false_or, or_true, true_or, and_self, and_true, true_and])) ?_)
    refine eN_iload_n (M := ML_isCache) (k := 1) rfl dL_isCache_41 (pc' := 42) rfl rfl ?_
    refine eN_iload_n (M := ML_isCache) (k := 2) rfl dL_isCache_42 (pc' := 43) rfl rfl ?_
    refine (ev_icmp_eq (M := ML_isCache) (t := 73) dL_isCache_43 (by decide) (pc' := 46) rfl).mpr (ifF (by first | assumption | omega | rfl | exact fun q => q (by assumption) | exact fun q => q rfl | (simp (disch := omega) only [nle_t, nle_f, nlt_t, nlt_f, neq_t, neq_f, i_lt0, i_le0, i_0le, i_0lt, i_eq0, i_lt, i_le, i_eq, nI_add, i_sub, i_cl, i_m1a, i_m1b, i_m1c, i_m1d, i_m1e, i_am1, i_ite0, m1_le, m1_m1, m1_ge0, not_true_eq_false, not_false_eq_true, or_self, or_false, false_or, or_true, true_or, and_self, and_true, true_and])) ?_)
    refine eN_iload_n (M := ML_isCache) (k := 2) rfl dL_isCache_46 (pc' := 47) rfl rfl ?_
    refine (ev_iconst (M := ML_isCache) (v := (-1)) rfl dL_isCache_47 (pc' := 48) rfl).mpr ?_
    refine (ev_icmp_ne (M := ML_isCache) (t := 59) dL_isCache_48 (by decide) (pc' := 51) rfl).mpr (ifT (by first | assumption | omega | rfl | exact fun q => q (by assumption) | exact fun q => q rfl | (simp (disch := omega) only [nle_t, nle_f, nlt_t, nlt_f, neq_t, neq_f, i_lt0, i_le0, i_0le, i_0lt, i_eq0, i_lt, i_le, i_eq, nI_add, i_sub, i_cl, i_m1a, i_m1b, i_m1c, i_m1d, i_m1e, i_am1, i_ite0, m1_le, m1_m1, m1_ge0, not_true_eq_false, not_false_eq_true, or_self, or_false, false_or, or_true, true_or, and_self, and_true, true_and])) ?_)
    refine eN_iload_n (M := ML_isCache) (k := 1) rfl dL_isCache_59 (pc' := 60) rfl rfl ?_
    refine eN_iload_n (M := ML_isCache) (k := 3) rfl dL_isCache_60 (pc' := 61) rfl rfl ?_
    refine (ev_icmp_eq (M := ML_isCache) (t := 73) dL_isCache_61 (by decide) (pc' := 64) rfl).mpr (ifF (by first | assumption | omega | rfl | exact fun q => q (by assumption) | exact fun q => q rfl | (simp (disch := omega) only [nle_t, nle_f, nlt_t, nlt_f, neq_t, neq_f, i_lt0, i_le0, i_0le, i_0lt, i_eq0, i_lt, i_le, i_eq, nI_add, i_sub, i_cl, i_m1a, i_m1b, i_m1c, i_m1d, i_m1e, i_am1, i_ite0, m1_le, m1_m1, m1_ge0, not_true_eq_false, not_false_eq_true, or_self, or_false, false_or, or_true, true_or, and_self, and_true, true_and])) ?_)
    refine eN_iload_n (M := ML_isCache) (k := 2) rfl dL_isCache_64 (pc' := 65) rfl rfl ?_
    refine eN_iload_n (M := ML_isCache) (k := 3) rfl dL_isCache_65 (pc' := 66) rfl rfl ?_
    refine (ev_icmp_eq (M := ML_isCache) (t := 73) dL_isCache_66 (by decide) (pc' := 69) rfl).mpr (ifF (by first | assumption | omega | rfl | exact fun q => q (by assumption) | exact fun q => q rfl | (simp (disch := omega) only [nle_t, nle_f, nlt_t, nlt_f, neq_t, neq_f, i_lt0, i_le0, i_0le, i_0lt, i_eq0, i_lt, i_le, i_eq, nI_add, i_sub, i_cl, i_m1a, i_m1b, i_m1c, i_m1d, i_m1e, i_am1, i_ite0, m1_le, m1_m1, m1_ge0, not_true_eq_false, not_false_eq_true, or_self, or_false, false_or, or_true, true_or, and_self, and_true, true_and])) ?_)
    refine (ev_iconst (M := ML_isCache) (v := (nI 1)) rfl dL_isCache_69 (pc' := 70) rfl).mpr ?_
    refine (ev_goto (M := ML_isCache) (pc' := 74) dL_isCache_70 (by decide)).mpr ?_
    refine (ev_istore (M := ML_isCache) dL_isCache_74 (by decide) (pc' := 76) rfl).mpr ?_
    refine eN_iload (M := ML_isCache) dL_isCache_76 (pc' := 78) rfl rfl ?_
    refine (ev_if_eq (M := ML_isCache) (t := 114) dL_isCache_78 (by decide) (pc' := 81) rfl).mpr (ifF (by first | assumption | omega | rfl | exact fun q => q (by assumption) | exact fun q => q rfl | (simp (disch := omega) only [nle_t, nle_f, nlt_t, nlt_f, neq_t, neq_f, i_lt0, i_le0, i_0le, i_0lt, i_eq0, i_lt, i_le, i_eq, nI_add, i_sub, i_cl, i_m1a, i_m1b, i_m1c, i_m1d, i_m1e, i_am1, i_ite0, m1_le, m1_m1, m1_ge0, not_true_eq_false, not_false_eq_true, or_self, or_false, false_or, or_true, true_or, and_self, and_true, true_and])) ?_)
    refine eN_iload_n (M := ML_isCache) (k := 1) rfl dL_isCache_81 (pc' := 82) rfl rfl ?_
    refine (ev_iconst (M := ML_isCache) (v := (-1)) rfl dL_isCache_82 (pc' := 83) rfl).mpr ?_
    refine (ev_icmp_lt (M := ML_isCache) (t := 114) dL_isCache_83 (by decide) (pc' := 86) rfl).mpr (ifF (by first | assumption | omega | rfl | exact fun q => q (by assumption) | exact fun q => q rfl | (simp (disch := omega) only [nle_t, nle_f, nlt_t, nlt_f, neq_t, neq_f, i_lt0, i_le0, i_0le, i_0lt, i_eq0, i_lt, i_le, i_eq, nI_add, i_sub, i_cl, i_m1a, i_m1b, i_m1c, i_m1d, i_m1e, i_am1, i_ite0, m1_le, m1_m1, m1_ge0, not_true_eq_false, not_false_eq_true, or_self, or_false, false_or, or_true, true_or, and_self, and_true, true_and])) ?_)
    refine eN_iload_n (M := ML_isCache) (k := 1) rfl dL_isCache_86 (pc' := 87) rfl rfl ?_
    refine eN_aload_n (M := ML_isCache) (k := 0) rfl dL_isCache_87 (pc' := 88) rfl rfl ?_
    refine (ev_cV0 (M := ML_isCache) (kk := 8) dL_isCache_88 c_9_81 mX6_openContainer rfl rfl (by decide) rfl (pc' := 91) rfl).mpr ⟨(by assumption), (Nat.le_of_ble_eq_true rfl), eN_c co (by first | rfl | (simp (disch := omega) only [nI_add, i_sub]) | (simp only [*])) ?_⟩
    refine (ev_icmp_gt (M := ML_isCache) (t := 114) dL_isCache_91 (by decide) (pc' := 94) rfl).mpr (ifF (by first | assumption | omega | rfl | exact fun q => q (by assumption) | exact fun q => q rfl | (simp (disch := omega) only [nle_t, nle_f, nlt_t, nlt_f, neq_t, neq_f, i_lt0, i_le0, i_0le, i_0lt, i_eq0, i_lt, i_le, i_eq, nI_add, i_sub, i_cl, i_m1a, i_m1b, i_m1c, i_m1d, i_m1e, i_am1, i_ite0, m1_le, m1_m1, m1_ge0, not_true_eq_false, not_false_eq_true, or_self, or_false, false_or, or_true, true_or, and_self, and_true, true_and])) ?_)
    refine eN_iload_n (M := ML_isCache) (k := 2) rfl dL_isCache_94 (pc' := 95) rfl rfl ?_
    refine eN_aload_n (M := ML_isCache) (k := 0) rfl dL_isCache_95 (pc' := 96) rfl rfl ?_
    refine (ev_cV0 (M := ML_isCache) (kk := 8) dL_isCache_96 c_9_81 mX6_openContainer rfl rfl (by decide) rfl (pc' := 99) rfl).mpr ⟨(by assumption), (Nat.le_of_ble_eq_true rfl), eN_c co (by first | rfl | (simp (disch := omega) only [nI_add, i_sub]) | (simp only [*])) ?_⟩
    refine (ev_icmp_gt (M := ML_isCache) (t := 114) dL_isCache_99 (by decide) (pc' := 102) rfl).mpr (ifF (by first | assumption | omega | rfl | exact fun q => q (by assumption) | exact fun q => q rfl | (simp (disch := omega) only [nle_t, nle_f, nlt_t, nlt_f, neq_t, neq_f, i_lt0, i_le0, i_0le, i_0lt, i_eq0, i_lt, i_le, i_eq, nI_add, i_sub, i_cl, i_m1a, i_m1b, i_m1c, i_m1d, i_m1e, i_am1, i_ite0, m1_le, m1_m1, m1_ge0, not_true_eq_false, not_false_eq_true, or_self, or_false, false_or, or_true, true_or, and_self, and_true, true_and])) ?_)
    refine eN_iload_n (M := ML_isCache) (k := 3) rfl dL_isCache_102 (pc' := 103) rfl rfl ?_
    refine eN_aload_n (M := ML_isCache) (k := 0) rfl dL_isCache_103 (pc' := 104) rfl rfl ?_
    refine (ev_cV0 (M := ML_isCache) (kk := 8) dL_isCache_104 c_9_81 mX6_openContainer rfl rfl (by decide) rfl (pc' := 107) rfl).mpr ⟨(by assumption), (Nat.le_of_ble_eq_true rfl), eN_c co (by first | rfl | (simp (disch := omega) only [nI_add, i_sub]) | (simp only [*])) ?_⟩
    refine (ev_icmp_gt (M := ML_isCache) (t := 114) dL_isCache_107 (by decide) (pc' := 110) rfl).mpr (ifF (by first | assumption | omega | rfl | exact fun q => q (by assumption) | exact fun q => q rfl | (simp (disch := omega) only [nle_t, nle_f, nlt_t, nlt_f, neq_t, neq_f, i_lt0, i_le0, i_0le, i_0lt, i_eq0, i_lt, i_le, i_eq, nI_add, i_sub, i_cl, i_m1a, i_m1b, i_m1c, i_m1d, i_m1e, i_am1, i_ite0, m1_le, m1_m1, m1_ge0, not_true_eq_false, not_false_eq_true, or_self, or_false, false_or, or_true, true_or, and_self, and_true, true_and])) ?_)
    refine (ev_iconst (M := ML_isCache) (v := (nI 1)) rfl dL_isCache_110 (pc' := 111) rfl).mpr ?_
    refine (ev_goto (M := ML_isCache) (pc' := 115) dL_isCache_111 (by decide)).mpr ?_
    refine (ev_zretI (M := ML_isCache) rfl dL_isCache_115 (by omega)).mpr ?_
    exact ⟨rfl, rfl⟩
  | a :: b :: c :: e :: l, h3, _, _, _, _, _ =>
    simp at h3
end ACH
