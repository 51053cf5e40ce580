/-! DedupVault$Version: entries added and released, base chosen and lost, cost -/
section VE3
variable {d v w : Nat} {T : TS}
theorem C_cost {f n : Nat} {ca : Nat → Nat} {bs es : List Nat} {b : Option Nat} (h : verR T v ca f n bs es b) (he : entO T ca es) (hb : ∀ w, b = some w → ∃ f' n' bs' es' b', verR T w ca f' n' bs' es' b' ∧ entO T ca es') : ∃ r, Call (d + 5) 74 [.ref v] T (.inl (some (.int (nI r)))) T ∧ (b = none → r = es.length) ∧ ∀ w, b = some w → ∀ f' n' bs' es' b', verR T w ca f' n' bs' es' b' → entO T ca es' → r = dif es es' := by
  cases b with
  | none =>
    obtain ⟨h1, h2, h3, h4, h5, h6, h7, h8, h9⟩ := h
    have hK := h7.1
    refine ⟨es.length, Call_of ?_, fun _ => rfl, fun w e => by cases e⟩
    simp (disch := omega) only [ev_aload_n (M := MX5_cost) (k := 0) rfl dX5_cost_0 (pc' := 1) rfl, ev_getR (M := MX5_cost) (f := 196) (kk := 7) f_6_42 rfl rfl rfl dX5_cost_1 (pc' := 4) rfl, ev_ifnonnull (M := MX5_cost) (pc' := 17) dX5_cost_4 (by decide), ev_ifnonnullN (M := MX5_cost) dX5_cost_4 (pc' := 7) rfl, ev_aload_n (M := MX5_cost) (k := 0) rfl dX5_cost_7 (pc' := 8) rfl, ev_getR (M := MX5_cost) (f := 195) (kk := 7) f_6_38 rfl rfl rfl dX5_cost_8 (pc' := 11) rfl, ev_cL0 (M := MX5_cost) dX5_cost_11 c_6_46 mJx4a65c_size_8abf5 rfl rfl rfl (pc' := 14) rfl, ev_goto (M := MX5_cost) (pc' := 25) dX5_cost_14 (by decide), ev_aload_n (M := MX5_cost) (k := 0) rfl dX5_cost_17 (pc' := 18) rfl, ev_aload_n (M := MX5_cost) (k := 0) rfl dX5_cost_18 (pc' := 19) rfl, ev_getR (M := MX5_cost) (f := 196) (kk := 7) f_6_42 rfl rfl rfl dX5_cost_19 (pc' := 22) rfl, ev_cV1 (M := MX5_cost) (kk := 7) dX5_cost_22 c_6_76 mX5_differenceTo rfl rfl (by decide) rfl (pc' := 25) rfl, ev_iret (M := MX5_cost) rfl dX5_cost_25, uX5_cost, lI_some, lJ_some, lR_ref, lR_null, lD_some, lget_cons, ldel_cons, ldel_nil, evR_v, evR_0, evR_x, vrf_s, vrf_n, Value.category, Nat.reduceEqDiff, Nat.reduceAdd, Nat.reduceSub, Nat.reduceMul, Nat.reduceLeDiff, reduceIte, if_true, if_false, or_self, or_false, false_or, or_true, true_or, and_self, and_true, true_and, and_false, false_and, not_true_eq_false, not_false_eq_true, List.length_cons, List.length_nil, Nat.zero_le, Nat.add_eq_zero_iff, Nat.succ_ne_zero, Nat.zero_add, Nat.add_zero, nle_t, nle_f, nlt_t, nlt_f, neq_t, neq_f, i_lt0, i_le0, i_0le, i_0lt, i_eq0, i_lt, i_le, i_eq, nI_add, i_sub, i_cl, i_m1a, i_m1b, i_m1c, i_m1d, i_m1e, i_am1, i_ite0, h1, h6, h8, hK, c_lsizem h7.is]
  | some w =>
    obtain ⟨f', n', bs', es', b', g, ge⟩ := hb w rfl
    have c := C_differenceTo (d := d) h g he ge
    have g1 := g.1
    have h0 := h
    obtain ⟨h1, h2, h3, h4, h5, h6, h7, h8, h9⟩ := h
    refine ⟨dif es es', Call_of ?_, (fun e => by cases e), fun w2 e f2 n2 bs2 es2 b2 g2 ge2 => ?_⟩
    · simp (disch := omega) only [ev_aload_n (M := MX5_cost) (k := 0) rfl dX5_cost_0 (pc' := 1) rfl, ev_getR (M := MX5_cost) (f := 196) (kk := 7) f_6_42 rfl rfl rfl dX5_cost_1 (pc' := 4) rfl, ev_ifnonnull (M := MX5_cost) (pc' := 17) dX5_cost_4 (by decide), ev_ifnonnullN (M := MX5_cost) dX5_cost_4 (pc' := 7) rfl, ev_aload_n (M := MX5_cost) (k := 0) rfl dX5_cost_7 (pc' := 8) rfl, ev_getR (M := MX5_cost) (f := 195) (kk := 7) f_6_38 rfl rfl rfl dX5_cost_8 (pc' := 11) rfl, ev_cL0 (M := MX5_cost) dX5_cost_11 c_6_46 mJx4a65c_size_8abf5 rfl rfl rfl (pc' := 14) rfl, ev_goto (M := MX5_cost) (pc' := 25) dX5_cost_14 (by decide), ev_aload_n (M := MX5_cost) (k := 0) rfl dX5_cost_17 (pc' := 18) rfl, ev_aload_n (M := MX5_cost) (k := 0) rfl dX5_cost_18 (pc' := 19) rfl, ev_getR (M := MX5_cost) (f := 196) (kk := 7) f_6_42 rfl rfl rfl dX5_cost_19 (pc' := 22) rfl, ev_cV1 (M := MX5_cost) (kk := 7) dX5_cost_22 c_6_76 mX5_differenceTo rfl rfl (by decide) rfl (pc' := 25) rfl, ev_iret (M := MX5_cost) rfl dX5_cost_25, uX5_cost, lI_some, lJ_some, lR_ref, lR_null, lD_some, lget_cons, ldel_cons, ldel_nil, evR_v, evR_0, evR_x, vrf_s, vrf_n, Value.category, Nat.reduceEqDiff, Nat.reduceAdd, Nat.reduceSub, Nat.reduceMul, Nat.reduceLeDiff, reduceIte, if_true, if_false, or_self, or_false, false_or, or_true, true_or, and_self, and_true, true_and, and_false, false_and, not_true_eq_false, not_false_eq_true, List.length_cons, List.length_nil, Nat.zero_le, Nat.add_eq_zero_iff, Nat.succ_ne_zero, Nat.zero_add, Nat.add_zero, nle_t, nle_f, nlt_t, nlt_f, neq_t, neq_f, i_lt0, i_le0, i_0le, i_0lt, i_eq0, i_lt, i_le, i_eq, nI_add, i_sub, i_cl, i_m1a, i_m1b, i_m1c, i_m1d, i_m1e, i_am1, i_ite0, h1, h8, cq c]
    · cases e
      have e7 := g.2.2.2.2.2.2.1.2.1
      have e7' := g2.2.2.2.2.2.2.1.2.1
      rw [e7] at e7'
      have hlen : es'.length = es2.length := by
        have := congrArg List.length e7'
        rw [List.length_map, List.length_map] at this
        exact this
      have : es' = es2 := by
        refine List.ext_getElem hlen (fun i a1 a2 => ?_)
        have x1 := congrArg (fun l => l[i]?) e7'
        simp only [List.getElem?_map, List.getElem?_eq_getElem a1, List.getElem?_eq_getElem a2, Option.map_some, Option.some.injEq] at x1
        have y1 := (ge _ (List.getElem_mem a1))
        have y2 := (ge2 _ (List.getElem_mem a2))
        have z1 := y1.2.1
        rw [x1, y2.2.1] at z1
        exact ((nI_eq (by have := y2.2.2; omega) (by have := y1.2.2; omega)).mp z1).symm
      rw [this]
theorem C_loseBase {b : Option Nat} (h1 : tK T v = 7) (h2 : tR T 196 v = b) : Call (d + 1) 76 [.ref v, .ref w] T (.inl none) (if b = some w then sR 196 v none T else T) := by
  refine Call_of ?_
  cases b with
  | none =>
    rw [if_neg (by intro e; cases e)]
    simp (disch := omega) only [ev_aload_n (M := MX5_loseBase) (k := 0) rfl dX5_loseBase_0 (pc' := 1) rfl, ev_getR (M := MX5_loseBase) (f := 196) (kk := 7) f_6_42 rfl rfl rfl dX5_loseBase_1 (pc' := 4) rfl, ev_aload_n (M := MX5_loseBase) (k := 1) rfl dX5_loseBase_4 (pc' := 5) rfl, ev_acmp_ne (M := MX5_loseBase) (t := 13) dX5_loseBase_5 (by decide) (pc' := 8) rfl, ev_acmp_neN (M := MX5_loseBase) (t := 13) dX5_loseBase_5 (by decide), ev_aload_n (M := MX5_loseBase) (k := 0) rfl dX5_loseBase_8 (pc' := 9) rfl, ev_null (M := MX5_loseBase) dX5_loseBase_9 (pc' := 10) rfl, ev_putR (M := MX5_loseBase) (f := 196) (kk := 7) f_6_42 rfl rfl rfl rfl dX5_loseBase_10 (pc' := 13) rfl, ev_putN (M := MX5_loseBase) (f := 196) (kk := 7) f_6_42 rfl rfl rfl rfl dX5_loseBase_10 (pc' := 13) rfl, ev_vret (M := MX5_loseBase) rfl dX5_loseBase_13, uX5_loseBase, lI_some, lJ_some, lR_ref, lR_null, lD_some, lget_cons, ldel_cons, ldel_nil, evR_v, evR_0, evR_x, vrf_s, vrf_n, Value.category, Nat.reduceEqDiff, Nat.reduceAdd, Nat.reduceSub, Nat.reduceMul, Nat.reduceLeDiff, reduceIte, if_true, if_false, or_self, or_false, false_or, or_true, true_or, and_self, and_true, true_and, and_false, false_and, not_true_eq_false, not_false_eq_true, List.length_cons, List.length_nil, Nat.zero_le, Nat.add_eq_zero_iff, Nat.succ_ne_zero, Nat.zero_add, Nat.add_zero, nle_t, nle_f, nlt_t, nlt_f, neq_t, neq_f, i_lt0, i_le0, i_0le, i_0lt, i_eq0, i_lt, i_le, i_eq, nI_add, i_sub, i_cl, i_m1a, i_m1b, i_m1c, i_m1d, i_m1e, i_am1, i_ite0, h1, h2]
  | some x =>
    by_cases e : x = w
    · subst e
      rw [if_pos rfl]
      simp (disch := omega) only [ev_aload_n (M := MX5_loseBase) (k := 0) rfl dX5_loseBase_0 (pc' := 1) rfl, ev_getR (M := MX5_loseBase) (f := 196) (kk := 7) f_6_42 rfl rfl rfl dX5_loseBase_1 (pc' := 4) rfl, ev_aload_n (M := MX5_loseBase) (k := 1) rfl dX5_loseBase_4 (pc' := 5) rfl, ev_acmp_ne (M := MX5_loseBase) (t := 13) dX5_loseBase_5 (by decide) (pc' := 8) rfl, ev_acmp_neN (M := MX5_loseBase) (t := 13) dX5_loseBase_5 (by decide), ev_aload_n (M := MX5_loseBase) (k := 0) rfl dX5_loseBase_8 (pc' := 9) rfl, ev_null (M := MX5_loseBase) dX5_loseBase_9 (pc' := 10) rfl, ev_putR (M := MX5_loseBase) (f := 196) (kk := 7) f_6_42 rfl rfl rfl rfl dX5_loseBase_10 (pc' := 13) rfl, ev_putN (M := MX5_loseBase) (f := 196) (kk := 7) f_6_42 rfl rfl rfl rfl dX5_loseBase_10 (pc' := 13) rfl, ev_vret (M := MX5_loseBase) rfl dX5_loseBase_13, uX5_loseBase, lI_some, lJ_some, lR_ref, lR_null, lD_some, lget_cons, ldel_cons, ldel_nil, evR_v, evR_0, evR_x, vrf_s, vrf_n, Value.category, Nat.reduceEqDiff, Nat.reduceAdd, Nat.reduceSub, Nat.reduceMul, Nat.reduceLeDiff, reduceIte, if_true, if_false, or_self, or_false, false_or, or_true, true_or, and_self, and_true, true_and, and_false, false_and, not_true_eq_false, not_false_eq_true, List.length_cons, List.length_nil, Nat.zero_le, Nat.add_eq_zero_iff, Nat.succ_ne_zero, Nat.zero_add, Nat.add_zero, nle_t, nle_f, nlt_t, nlt_f, neq_t, neq_f, i_lt0, i_le0, i_0le, i_0lt, i_eq0, i_lt, i_le, i_eq, nI_add, i_sub, i_cl, i_m1a, i_m1b, i_m1c, i_m1d, i_m1e, i_am1, i_ite0, h1, h2]
    · rw [if_neg (fun q => e (Option.some.inj q))]
      simp (disch := omega) only [ev_aload_n (M := MX5_loseBase) (k := 0) rfl dX5_loseBase_0 (pc' := 1) rfl, ev_getR (M := MX5_loseBase) (f := 196) (kk := 7) f_6_42 rfl rfl rfl dX5_loseBase_1 (pc' := 4) rfl, ev_aload_n (M := MX5_loseBase) (k := 1) rfl dX5_loseBase_4 (pc' := 5) rfl, ev_acmp_ne (M := MX5_loseBase) (t := 13) dX5_loseBase_5 (by decide) (pc' := 8) rfl, ev_acmp_neN (M := MX5_loseBase) (t := 13) dX5_loseBase_5 (by decide), ev_aload_n (M := MX5_loseBase) (k := 0) rfl dX5_loseBase_8 (pc' := 9) rfl, ev_null (M := MX5_loseBase) dX5_loseBase_9 (pc' := 10) rfl, ev_putR (M := MX5_loseBase) (f := 196) (kk := 7) f_6_42 rfl rfl rfl rfl dX5_loseBase_10 (pc' := 13) rfl, ev_putN (M := MX5_loseBase) (f := 196) (kk := 7) f_6_42 rfl rfl rfl rfl dX5_loseBase_10 (pc' := 13) rfl, ev_vret (M := MX5_loseBase) rfl dX5_loseBase_13, uX5_loseBase, lI_some, lJ_some, lR_ref, lR_null, lD_some, lget_cons, ldel_cons, ldel_nil, evR_v, evR_0, evR_x, vrf_s, vrf_n, Value.category, Nat.reduceEqDiff, Nat.reduceAdd, Nat.reduceSub, Nat.reduceMul, Nat.reduceLeDiff, reduceIte, if_true, if_false, or_self, or_false, false_or, or_true, true_or, and_self, and_true, true_and, and_false, false_and, not_true_eq_false, not_false_eq_true, List.length_cons, List.length_nil, Nat.zero_le, Nat.add_eq_zero_iff, Nat.succ_ne_zero, Nat.zero_add, Nat.add_zero, nle_t, nle_f, nlt_t, nlt_f, neq_t, neq_f, i_lt0, i_le0, i_0le, i_0lt, i_eq0, i_lt, i_le, i_eq, nI_add, i_sub, i_cl, i_m1a, i_m1b, i_m1c, i_m1d, i_m1e, i_am1, i_ite0, h1, h2]
theorem C_chooseNone : Call (d + 1) 75 [.ref v, .null] T (.inl none) T := by
  refine Call_of ?_
  rw [nX5_chooseBase]
  simp (disch := omega) only [ev_aload_n (M := MX5_chooseBase) (k := 1) rfl dX5_chooseBase_0 (pc' := 1) rfl, ev_ifnull (M := MX5_chooseBase) dX5_chooseBase_1 (pc' := 4) rfl, ev_ifnullN (M := MX5_chooseBase) (pc' := 12) dX5_chooseBase_1 (by decide), ev_aload_n (M := MX5_chooseBase) (k := 1) rfl dX5_chooseBase_4 (pc' := 5) rfl, ev_cV0 (M := MX5_chooseBase) (kk := 7) dX5_chooseBase_5 c_6_80 mX5_chain rfl rfl (by decide) rfl (pc' := 8) rfl, ev_iconst (M := MX5_chooseBase) (v := (nI 3)) rfl dX5_chooseBase_8 (pc' := 9) rfl, ev_icmp_lt (M := MX5_chooseBase) (t := 13) dX5_chooseBase_9 (by decide) (pc' := 12) rfl, ev_vret (M := MX5_chooseBase) rfl dX5_chooseBase_12, ev_aload_n (M := MX5_chooseBase) (k := 0) rfl dX5_chooseBase_13 (pc' := 14) rfl, ev_aload_n (M := MX5_chooseBase) (k := 1) rfl dX5_chooseBase_14 (pc' := 15) rfl, ev_cV1 (M := MX5_chooseBase) (kk := 7) dX5_chooseBase_15 c_6_76 mX5_differenceTo rfl rfl (by decide) rfl (pc' := 18) rfl, ev_aload_n (M := MX5_chooseBase) (k := 0) rfl dX5_chooseBase_18 (pc' := 19) rfl, ev_getR (M := MX5_chooseBase) (f := 195) (kk := 7) f_6_38 rfl rfl rfl dX5_chooseBase_19 (pc' := 22) rfl, ev_cL0 (M := MX5_chooseBase) dX5_chooseBase_22 c_6_46 mJx4a65c_size_8abf5 rfl rfl rfl (pc' := 25) rfl, ev_icmp_ge (M := MX5_chooseBase) (t := 33) dX5_chooseBase_25 (by decide) (pc' := 28) rfl, ev_aload_n (M := MX5_chooseBase) (k := 0) rfl dX5_chooseBase_28 (pc' := 29) rfl, ev_aload_n (M := MX5_chooseBase) (k := 1) rfl dX5_chooseBase_29 (pc' := 30) rfl, ev_putR (M := MX5_chooseBase) (f := 196) (kk := 7) f_6_42 rfl rfl rfl rfl dX5_chooseBase_30 (pc' := 33) rfl, ev_putN (M := MX5_chooseBase) (f := 196) (kk := 7) f_6_42 rfl rfl rfl rfl dX5_chooseBase_30 (pc' := 33) rfl, ev_vret (M := MX5_chooseBase) rfl dX5_chooseBase_33, lI_some, lJ_some, lR_ref, lR_null, lD_some, lget_cons, ldel_cons, ldel_nil, evR_v, evR_0, evR_x, vrf_s, vrf_n, Value.category, Nat.reduceEqDiff, Nat.reduceAdd, Nat.reduceSub, Nat.reduceMul, Nat.reduceLeDiff, reduceIte, if_true, if_false, or_self, or_false, false_or, or_true, true_or, and_self, and_true, true_and, and_false, false_and, not_true_eq_false, not_false_eq_true, List.length_cons, List.length_nil, Nat.zero_le, Nat.add_eq_zero_iff, Nat.succ_ne_zero, Nat.zero_add, Nat.add_zero, nle_t, nle_f, nlt_t, nlt_f, neq_t, neq_f, i_lt0, i_le0, i_0le, i_0lt, i_eq0, i_lt, i_le, i_eq, nI_add, i_sub, i_cl, i_m1a, i_m1b, i_m1c, i_m1d, i_m1e, i_am1, i_ite0]
theorem C_chooseBase {va ca : Nat → Nat} {vb : Nat → Option Nat} {kl : List Nat} {k f n f' n' : Nat} {bs es bs' es' : List Nat} {b b' : Option Nat} (hb : ∀ k ∈ kl, tK T (va k) = 7 ∧ tR T 196 (va k) = (vb k).map va ∧ ∀ j, vb k = some j → j ∈ kl) (hk : k ∈ kl) (h : verR T v ca f n bs es b) (g : verR T (va k) ca f' n' bs' es' b') (he : entO T ca es) (ge : entO T ca es') : Call (d + 5) 75 [.ref v, .ref (va k)] T (.inl none) (if chO vb 3 (vb k) < 3 ∧ dif es es' < es.length then sR 196 v (some (va k)) T else T) := by
  have c1 := C_chain (d := d + 3) hb hk
  have c2 := C_differenceTo (d := d) h g he ge
  have g1 := g.1
  obtain ⟨h1, h2, h3, h4, h5, h6, h7, h8, h9⟩ := h
  have hK := h7.1
  have hl := h7.is.2.2.2
  have hl2 := h7.is.2.2.1
  rw [List.length_map] at hl
  have hcl : chO vb 3 (vb k) ≤ 3 := by
    have key : ∀ f o, chO vb f o ≤ f := by
      intro f
      induction f with
      | zero => intro o; exact Nat.le_refl _
      | succ f ih =>
        intro o
        cases o with
        | none => exact Nat.zero_le _
        | some k => have := ih (vb k); show 1 + _ ≤ _; omega
    exact key 3 _
  have hdl : dif es es' ≤ es.length + 2 := by unfold dif; omega
  refine Call_of ?_
  by_cases e1 : chO vb 3 (vb k) < 3
  · by_cases e2 : dif es es' < es.length
    · rw [if_pos ⟨e1, e2⟩]
      simp (disch := omega) only [ev_aload_n (M := MX5_chooseBase) (k := 1) rfl dX5_chooseBase_0 (pc' := 1) rfl, ev_ifnull (M := MX5_chooseBase) dX5_chooseBase_1 (pc' := 4) rfl, ev_ifnullN (M := MX5_chooseBase) (pc' := 12) dX5_chooseBase_1 (by decide), ev_aload_n (M := MX5_chooseBase) (k := 1) rfl dX5_chooseBase_4 (pc' := 5) rfl, ev_cV0 (M := MX5_chooseBase) (kk := 7) dX5_chooseBase_5 c_6_80 mX5_chain rfl rfl (by decide) rfl (pc' := 8) rfl, ev_iconst (M := MX5_chooseBase) (v := (nI 3)) rfl dX5_chooseBase_8 (pc' := 9) rfl, ev_icmp_lt (M := MX5_chooseBase) (t := 13) dX5_chooseBase_9 (by decide) (pc' := 12) rfl, ev_vret (M := MX5_chooseBase) rfl dX5_chooseBase_12, ev_aload_n (M := MX5_chooseBase) (k := 0) rfl dX5_chooseBase_13 (pc' := 14) rfl, ev_aload_n (M := MX5_chooseBase) (k := 1) rfl dX5_chooseBase_14 (pc' := 15) rfl, ev_cV1 (M := MX5_chooseBase) (kk := 7) dX5_chooseBase_15 c_6_76 mX5_differenceTo rfl rfl (by decide) rfl (pc' := 18) rfl, ev_aload_n (M := MX5_chooseBase) (k := 0) rfl dX5_chooseBase_18 (pc' := 19) rfl, ev_getR (M := MX5_chooseBase) (f := 195) (kk := 7) f_6_38 rfl rfl rfl dX5_chooseBase_19 (pc' := 22) rfl, ev_cL0 (M := MX5_chooseBase) dX5_chooseBase_22 c_6_46 mJx4a65c_size_8abf5 rfl rfl rfl (pc' := 25) rfl, ev_icmp_ge (M := MX5_chooseBase) (t := 33) dX5_chooseBase_25 (by decide) (pc' := 28) rfl, ev_aload_n (M := MX5_chooseBase) (k := 0) rfl dX5_chooseBase_28 (pc' := 29) rfl, ev_aload_n (M := MX5_chooseBase) (k := 1) rfl dX5_chooseBase_29 (pc' := 30) rfl, ev_putR (M := MX5_chooseBase) (f := 196) (kk := 7) f_6_42 rfl rfl rfl rfl dX5_chooseBase_30 (pc' := 33) rfl, ev_putN (M := MX5_chooseBase) (f := 196) (kk := 7) f_6_42 rfl rfl rfl rfl dX5_chooseBase_30 (pc' := 33) rfl, ev_vret (M := MX5_chooseBase) rfl dX5_chooseBase_33, uX5_chooseBase, lI_some, lJ_some, lR_ref, lR_null, lD_some, lget_cons, ldel_cons, ldel_nil, evR_v, evR_0, evR_x, vrf_s, vrf_n, Value.category, Nat.reduceEqDiff, Nat.reduceAdd, Nat.reduceSub, Nat.reduceMul, Nat.reduceLeDiff, reduceIte, if_true, if_false, or_self, or_false, false_or, or_true, true_or, and_self, and_true, true_and, and_false, false_and, not_true_eq_false, not_false_eq_true, List.length_cons, List.length_nil, Nat.zero_le, Nat.add_eq_zero_iff, Nat.succ_ne_zero, Nat.zero_add, Nat.add_zero, nle_t, nle_f, nlt_t, nlt_f, neq_t, neq_f, i_lt0, i_le0, i_0le, i_0lt, i_eq0, i_lt, i_le, i_eq, nI_add, i_sub, i_cl, i_m1a, i_m1b, i_m1c, i_m1d, i_m1e, i_am1, i_ite0, h1, h6, hK, g1, cq c1, cq c2, c_lsizem h7.is]
    · rw [if_neg (fun q => e2 q.2)]
      simp (disch := omega) only [ev_aload_n (M := MX5_chooseBase) (k := 1) rfl dX5_chooseBase_0 (pc' := 1) rfl, ev_ifnull (M := MX5_chooseBase) dX5_chooseBase_1 (pc' := 4) rfl, ev_ifnullN (M := MX5_chooseBase) (pc' := 12) dX5_chooseBase_1 (by decide), ev_aload_n (M := MX5_chooseBase) (k := 1) rfl dX5_chooseBase_4 (pc' := 5) rfl, ev_cV0 (M := MX5_chooseBase) (kk := 7) dX5_chooseBase_5 c_6_80 mX5_chain rfl rfl (by decide) rfl (pc' := 8) rfl, ev_iconst (M := MX5_chooseBase) (v := (nI 3)) rfl dX5_chooseBase_8 (pc' := 9) rfl, ev_icmp_lt (M := MX5_chooseBase) (t := 13) dX5_chooseBase_9 (by decide) (pc' := 12) rfl, ev_vret (M := MX5_chooseBase) rfl dX5_chooseBase_12, ev_aload_n (M := MX5_chooseBase) (k := 0) rfl dX5_chooseBase_13 (pc' := 14) rfl, ev_aload_n (M := MX5_chooseBase) (k := 1) rfl dX5_chooseBase_14 (pc' := 15) rfl, ev_cV1 (M := MX5_chooseBase) (kk := 7) dX5_chooseBase_15 c_6_76 mX5_differenceTo rfl rfl (by decide) rfl (pc' := 18) rfl, ev_aload_n (M := MX5_chooseBase) (k := 0) rfl dX5_chooseBase_18 (pc' := 19) rfl, ev_getR (M := MX5_chooseBase) (f := 195) (kk := 7) f_6_38 rfl rfl rfl dX5_chooseBase_19 (pc' := 22) rfl, ev_cL0 (M := MX5_chooseBase) dX5_chooseBase_22 c_6_46 mJx4a65c_size_8abf5 rfl rfl rfl (pc' := 25) rfl, ev_icmp_ge (M := MX5_chooseBase) (t := 33) dX5_chooseBase_25 (by decide) (pc' := 28) rfl, ev_aload_n (M := MX5_chooseBase) (k := 0) rfl dX5_chooseBase_28 (pc' := 29) rfl, ev_aload_n (M := MX5_chooseBase) (k := 1) rfl dX5_chooseBase_29 (pc' := 30) rfl, ev_putR (M := MX5_chooseBase) (f := 196) (kk := 7) f_6_42 rfl rfl rfl rfl dX5_chooseBase_30 (pc' := 33) rfl, ev_putN (M := MX5_chooseBase) (f := 196) (kk := 7) f_6_42 rfl rfl rfl rfl dX5_chooseBase_30 (pc' := 33) rfl, ev_vret (M := MX5_chooseBase) rfl dX5_chooseBase_33, uX5_chooseBase, lI_some, lJ_some, lR_ref, lR_null, lD_some, lget_cons, ldel_cons, ldel_nil, evR_v, evR_0, evR_x, vrf_s, vrf_n, Value.category, Nat.reduceEqDiff, Nat.reduceAdd, Nat.reduceSub, Nat.reduceMul, Nat.reduceLeDiff, reduceIte, if_true, if_false, or_self, or_false, false_or, or_true, true_or, and_self, and_true, true_and, and_false, false_and, not_true_eq_false, not_false_eq_true, List.length_cons, List.length_nil, Nat.zero_le, Nat.add_eq_zero_iff, Nat.succ_ne_zero, Nat.zero_add, Nat.add_zero, nle_t, nle_f, nlt_t, nlt_f, neq_t, neq_f, i_lt0, i_le0, i_0le, i_0lt, i_eq0, i_lt, i_le, i_eq, nI_add, i_sub, i_cl, i_m1a, i_m1b, i_m1c, i_m1d, i_m1e, i_am1, i_ite0, h1, h6, hK, g1, cq c1, cq c2, c_lsizem h7.is]
  · rw [if_neg (fun q => e1 q.1)]
    simp (disch := omega) only [ev_aload_n (M := MX5_chooseBase) (k := 1) rfl dX5_chooseBase_0 (pc' := 1) rfl, ev_ifnull (M := MX5_chooseBase) dX5_chooseBase_1 (pc' := 4) rfl, ev_ifnullN (M := MX5_chooseBase) (pc' := 12) dX5_chooseBase_1 (by decide), ev_aload_n (M := MX5_chooseBase) (k := 1) rfl dX5_chooseBase_4 (pc' := 5) rfl, ev_cV0 (M := MX5_chooseBase) (kk := 7) dX5_chooseBase_5 c_6_80 mX5_chain rfl rfl (by decide) rfl (pc' := 8) rfl, ev_iconst (M := MX5_chooseBase) (v := (nI 3)) rfl dX5_chooseBase_8 (pc' := 9) rfl, ev_icmp_lt (M := MX5_chooseBase) (t := 13) dX5_chooseBase_9 (by decide) (pc' := 12) rfl, ev_vret (M := MX5_chooseBase) rfl dX5_chooseBase_12, ev_aload_n (M := MX5_chooseBase) (k := 0) rfl dX5_chooseBase_13 (pc' := 14) rfl, ev_aload_n (M := MX5_chooseBase) (k := 1) rfl dX5_chooseBase_14 (pc' := 15) rfl, ev_cV1 (M := MX5_chooseBase) (kk := 7) dX5_chooseBase_15 c_6_76 mX5_differenceTo rfl rfl (by decide) rfl (pc' := 18) rfl, ev_aload_n (M := MX5_chooseBase) (k := 0) rfl dX5_chooseBase_18 (pc' := 19) rfl, ev_getR (M := MX5_chooseBase) (f := 195) (kk := 7) f_6_38 rfl rfl rfl dX5_chooseBase_19 (pc' := 22) rfl, ev_cL0 (M := MX5_chooseBase) dX5_chooseBase_22 c_6_46 mJx4a65c_size_8abf5 rfl rfl rfl (pc' := 25) rfl, ev_icmp_ge (M := MX5_chooseBase) (t := 33) dX5_chooseBase_25 (by decide) (pc' := 28) rfl, ev_aload_n (M := MX5_chooseBase) (k := 0) rfl dX5_chooseBase_28 (pc' := 29) rfl, ev_aload_n (M := MX5_chooseBase) (k := 1) rfl dX5_chooseBase_29 (pc' := 30) rfl, ev_putR (M := MX5_chooseBase) (f := 196) (kk := 7) f_6_42 rfl rfl rfl rfl dX5_chooseBase_30 (pc' := 33) rfl, ev_putN (M := MX5_chooseBase) (f := 196) (kk := 7) f_6_42 rfl rfl rfl rfl dX5_chooseBase_30 (pc' := 33) rfl, ev_vret (M := MX5_chooseBase) rfl dX5_chooseBase_33, uX5_chooseBase, lI_some, lJ_some, lR_ref, lR_null, lD_some, lget_cons, ldel_cons, ldel_nil, evR_v, evR_0, evR_x, vrf_s, vrf_n, Value.category, Nat.reduceEqDiff, Nat.reduceAdd, Nat.reduceSub, Nat.reduceMul, Nat.reduceLeDiff, reduceIte, if_true, if_false, or_self, or_false, false_or, or_true, true_or, and_self, and_true, true_and, and_false, false_and, not_true_eq_false, not_false_eq_true, List.length_cons, List.length_nil, Nat.zero_le, Nat.add_eq_zero_iff, Nat.succ_ne_zero, Nat.zero_add, Nat.add_zero, nle_t, nle_f, nlt_t, nlt_f, neq_t, neq_f, i_lt0, i_le0, i_0le, i_0lt, i_eq0, i_lt, i_le, i_eq, nI_add, i_sub, i_cl, i_m1a, i_m1b, i_m1c, i_m1d, i_m1e, i_am1, i_ite0, h1, h6, hK, g1, cq c1, cq c2, c_lsizem h7.is]
variable {s : Nat} {ba ca us : Nat → Nat} {cb : Nat → List Nat} {bl cs : List Nat} {co : Nat → List Nat} {op hi re st : Nat}
/-- a chunk's uses change -/
theorem SH_use {k n u : Nat} (h : SH T s ba ca cb us bl co op cs hi re st) (hk : k ∈ bl) (hn : n ∈ co k) (hu : u < 1000000) : SH (sI 35 (ca n) (nI u) T) s ba ca cb (up1 us n u) bl co op cs hi re st := by
  have hh := h
  obtain ⟨⟨h1, h2, h3, h4, h5, h6, h7⟩, ⟨l1, l2⟩, hbx, ho, hcc, z⟩ := h
  obtain ⟨n1, -, -, -, n2, n3, -⟩ := hh.kn hk hn
  obtain ⟨s1, s2, s3⟩ := hh.ks
  have he : ∀ a, a ≠ ca n → cell (sI 35 (ca n) (nI u) T) a = cell T a := fun a ha => ce_sI ha
  have e0 := he s (neK s1 n1 (by decide))
  refine ⟨⟨by rw [ce_K e0]; exact h1, by rw [ce_R e0]; exact h2, by rw [ce_R e0]; exact h3, by rw [ce_R e0]; exact h4, by rw [ce_I e0]; exact h5, by rw [ce_I e0]; exact h6, by rw [ce_I e0]; exact h7⟩, ⟨l1.of (he _ (neK s2 n1 (by decide))), l2.of (he _ (neK s3 n1 (by decide)))⟩, fun k' hk' => ⟨?_, (hbx k' hk').2⟩, ho, fun k' hk' => ?_, z⟩
  · obtain ⟨a1, a2, -⟩ := hh.kb hk'
    have c0 := he (ba k') (neK a1 n1 (by decide))
    have c1 := he (ba k' + 1) (neK a2 n1 (by decide))
    obtain ⟨⟨q1, q2, q3⟩, q4, q5, q6, q7, q8, q9⟩ := (hbx k' hk').1
    refine ⟨⟨by rw [ce_K c0]; exact q1, by rw [ce_R c0]; exact q2, q3.of c1⟩, by rw [ce_I c0]; exact q4, by rw [ce_I c0]; exact q5, q6, q7, q8, fun n' hn' => ?_⟩
    obtain ⟨d1, d2, d3, d4⟩ := (q9 n' hn').1.ks
    by_cases e : n' = n
    · subst e
      obtain ⟨w1, w2, w3, w4, w5, w6, w7⟩ := (q9 n' hn').1
      refine ⟨⟨w1, by rw [tI_sI, up2_e, if_neg (by omega)]; exact w2, w3, by rw [tI_sI, up2_e, if_pos ⟨rfl, rfl⟩, up1_e, if_pos rfl], w5.of (he _ (by omega)) (he _ (by omega)) (he _ (by omega)), w6, by rw [up1_e, if_pos rfl]; exact hu⟩, (q9 n' hn').2⟩
    · have ne : ca n' ≠ ca n := fun e2 => e (hh.ni hk' hn' hk hn e2).1
      rw [up1_nea e]
      refine ⟨(q9 n' hn').1.of (he _ ne) (he _ (neK d2 n1 (by decide))) (he _ (neK d3 n1 (by decide))) (he _ (neK d4 n1 (by decide))), by rw [ce_R (he _ ne)]; exact (q9 n' hn').2⟩
  · obtain ⟨a1, a2, a3⟩ := hcc k' hk'
    have c0 := he (ba k') (neK a1 n1 (by decide))
    rw [ce_K c0, ce_I c0]
    exact ⟨a1, a2, a3⟩
theorem C_addEntry {f n k m : Nat} {bs es : List Nat} {b : Option Nat} (hw : wf T) (h : verR T v ca f n bs es b) (hS : SH T s ba ca cb us bl co op cs hi re st) (hv : v + 3 ≠ s + 1 ∧ v + 3 ≠ s + 2 ∧ ∀ k ∈ bl, v + 3 ≠ ba k + 1) (hk : k ∈ bl) (hm : m ∈ co k) (hu : us m + 1 < 1000000) (hl : es.length < 128) : CallQ (d + 2) 70 [.ref v, .ref (ca m)] T (fun q T' => q = .inl none ∧ verR T' v ca f n bs (es ++ [m]) b ∧ SH T' s ba ca cb (up1 us m (us m + 1)) bl co op cs hi re st ∧ gcl (tc T (v + 3)) ≤ gcl (tc T' (v + 3)) ∧ gsl (tc T (v + 3)) ≤ gsl (tc T' (v + 3)) ∧ fr (fun a => a = v + 3 ∨ a = ca m) (gcl (tc T' (v + 3)) - gcl (tc T (v + 3))) (gsl (tc T' (v + 3)) - gsl (tc T (v + 3))) T T') := by
  have h0 := h
  obtain ⟨h1, h2, h3, h4, h5, h6, h7, h8, h9⟩ := h
  obtain ⟨m1, m2, m3, m4⟩ := lok_ch (ys := es.map ca ++ [ca m]) hw h7 (by rw [List.length_map]; exact hl) (by rw [List.length_append]; rfl)
  obtain ⟨n1, -, -, -, n2, n3, -⟩ := hS.kn hk hm
  obtain ⟨v1, v2, v3, v4⟩ := h0.ks
  have hS1 : SH (sL (v + 3) (es.map ca ++ [ca m]) (fit (v + 3) T)) s ba ca cb us bl co op cs hi re st := by
    refine hS.nw m4 (fun a e q => ?_)
    subst e
    have hcK : ∀ k ∈ cs, tK T (ba k) = 3 := fun k hk => (hS.2.2.2.2.1 k hk).1
    rcases q with q | q | q | ⟨k, hk, q⟩ | ⟨k, hk, q | q | ⟨n, hn, q⟩⟩
    · exact neK v4 hS.ks.1 (by decide) q
    · exact hv.1 q
    · exact hv.2.1 q
    · exact neK v4 (hcK k hk) (by decide) q
    · exact neK v4 (hS.kb hk).1 (by decide) q
    · exact hv.2.2 k hk q
    · obtain ⟨d1, d2, d3, d4, -⟩ := hS.kn hk hn
      rcases q with q | q | q | q
      · exact neK v4 d1 (by decide) q
      · exact neK v4 d2 (by decide) q
      · exact neK v4 d3 (by decide) q
      · exact neK v4 d4 (by decide) q
  have hS2 := SH_use (u := us m + 1) hS1 hk hm hu
  obtain ⟨T1, hT1⟩ : ∃ T1, T1 = sL (v + 3) (es.map ca ++ [ca m]) (fit (v + 3) T) := ⟨_, rfl⟩
  rw [← hT1] at m1 m2 m3 m4 hS1 hS2
  have mu : tI T1 35 (ca m) = nI (us m) := by
    obtain ⟨-, -, -, -, -, -, q⟩ := (hS1.2.2.1 k hk).1
    exact (q m hm).1.2.2.2.1
  have mK : tK T1 (ca m) = 2 := (hS1.kn hk hm).1
  have key : ∀ Q : Post, Q (.inl none) (sI 35 (ca m) (nI (us m + 1)) T1) → CallQ (d + 2) 70 [.ref v, .ref (ca m)] T Q := by
    intro Q hQ
    have hK := h7.1
    have e1 := hT1.symm
    clear hS hS1 hS2 m1 m2 m3 m4 h0
    simp (disch := omega) only [ev_aload_n (M := MX5_addEntry) (k := 0) rfl dX5_addEntry_0 (pc' := 1) rfl, ev_getR (M := MX5_addEntry) (f := 195) (kk := 7) f_6_38 rfl rfl rfl dX5_addEntry_1 (pc' := 4) rfl, ev_aload_n (M := MX5_addEntry) (k := 1) rfl dX5_addEntry_4 (pc' := 5) rfl, ev_cL1 (M := MX5_addEntry) dX5_addEntry_5 c_6_59 mJx4a65c_add_9ea2d rfl rfl rfl (pc' := 8) rfl, ev_popI (M := MX5_addEntry) dX5_addEntry_8 (pc' := 9) rfl, ev_popR (M := MX5_addEntry) dX5_addEntry_8 (pc' := 9) rfl, ev_aload_n (M := MX5_addEntry) (k := 1) rfl dX5_addEntry_9 (pc' := 10) rfl, ev_iconst (M := MX5_addEntry) (v := (nI 1)) rfl dX5_addEntry_10 (pc' := 11) rfl, ev_cV1 (M := MX5_addEntry) (kk := 2) dX5_addEntry_11 c_6_63 mX0_addUses rfl rfl (by decide) rfl (pc' := 14) rfl, ev_vret (M := MX5_addEntry) rfl dX5_addEntry_14, uX5_addEntry, ev_aload_n (M := MX0_addUses) (k := 0) rfl dX0_addUses_0 (pc' := 1) rfl, ev_dupI (M := MX0_addUses) dX0_addUses_1 (pc' := 2) rfl, ev_dupR (M := MX0_addUses) dX0_addUses_1 (pc' := 2) rfl, ev_getI (M := MX0_addUses) (f := 35) (kk := 2) f_1_21 rfl rfl rfl dX0_addUses_2 (pc' := 5) rfl, ev_iload_n (M := MX0_addUses) (k := 1) rfl dX0_addUses_5 (pc' := 6) rfl, ev_iadd (M := MX0_addUses) dX0_addUses_6 (pc' := 7) rfl, ev_putI (M := MX0_addUses) (f := 35) (kk := 2) f_1_21 rfl rfl rfl rfl dX0_addUses_7 (pc' := 10) rfl, ev_vret (M := MX0_addUses) rfl dX0_addUses_10, uX0_addUses, lI_some, lJ_some, lR_ref, lR_null, lD_some, lget_cons, ldel_cons, ldel_nil, evR_v, evR_0, evR_x, vrf_s, vrf_n, Value.category, Nat.reduceEqDiff, Nat.reduceAdd, Nat.reduceSub, Nat.reduceMul, Nat.reduceLeDiff, reduceIte, if_true, if_false, or_self, or_false, false_or, or_true, true_or, and_self, and_true, true_and, and_false, false_and, not_true_eq_false, not_false_eq_true, List.length_cons, List.length_nil, Nat.zero_le, Nat.add_eq_zero_iff, Nat.succ_ne_zero, Nat.zero_add, Nat.add_zero, nle_t, nle_f, nlt_t, nlt_f, neq_t, neq_f, i_lt0, i_le0, i_0le, i_0lt, i_eq0, i_lt, i_le, i_eq, nI_add, i_sub, i_cl, i_m1a, i_m1b, i_m1c, i_m1d, i_m1e, i_am1, i_ite0, h1, h6, hK, c_ladd h7.is, n1, e1, mK, mu]
    exact hQ
  have c1 : cell (sI 35 (ca m) (nI (us m + 1)) T1) (v + 3) = cell T1 (v + 3) := ce_sI (neK v4 n1 (by decide))
  have cc : ∀ a, a ≠ v + 3 → a ≠ ca m → tK T a ≠ 0 → cell (sI 35 (ca m) (nI (us m + 1)) T1) a = cell T a := fun a a1 a2 a3 => (ce_sI a2).trans (m4.2.2.2.2.2 a a3 a1)
  refine key _ ⟨rfl, ?_, hS2, by rw [ce_c c1]; exact m2, by rw [ce_c c1]; exact m3, ?_⟩
  · have e0 := cc v (by omega) (neK v1 n1 (by decide)) (by rw [v1]; decide)
    refine ⟨by rw [ce_K e0]; exact h1, by rw [ce_I e0]; exact h2, by rw [ce_I e0]; exact h3, by rw [ce_R e0]; exact h4, h5.of (cc _ (by omega) (neK v2 n1 (by decide)) (by rw [v2]; decide)) (cc _ (by omega) (neK v3 n1 (by decide)) (by rw [v3]; decide)), by rw [ce_R e0]; exact h6, ?_, by rw [ce_R e0]; exact h8, h9⟩
    rw [List.map_append]
    exact m1.of c1
  · rw [ce_c c1]
    exact ((m4.wd (W' := fun a => a = v + 3 ∨ a = ca m) (Nat.le_refl _) (Nat.le_refl _) (fun a _ e => Or.inl e)).th (fr_sI (W := fun a => a = v + 3 ∨ a = ca m) m4.ok (Or.inr rfl))).by (Nat.le_refl _) (Nat.le_refl _)
/-- a version's uses are given back -/
def dec1 (us : Nat → Nat) (es : List Nat) : Nat → Nat := fun n => us n - es.count n
theorem C_release {f n : Nat} {bs es : List Nat} {b : Option Nat} (hw : wf T) (h : verR T v ca f n bs es b) (hS : SH T s ba ca cb us bl co op cs hi re st) (hin : ∀ n ∈ es, ∃ k ∈ bl, n ∈ co k) (hu : ∀ n ∈ es, es.count n ≤ us n) : CallQ (d + 2) 71 [.ref v] T (fun q T' => q = .inl none ∧ SH T' s ba ca cb (dec1 us es) bl co op cs hi re st ∧ fr (fun a => ∃ k ∈ bl, ∃ n ∈ co k, a = ca n) 0 0 T T') := by
  obtain ⟨v1, v2, v3, v4⟩ := h.ks
  obtain ⟨h1, h2, h3, h4, h5, h6, h7, h8, h9⟩ := h
  have hl := h7.is.2.2.2
  have hl2 := h7.is.2.2.1
  rw [List.length_map] at hl
  have ed0 : dec1 us (es.take 0) = us := by
    funext n
    unfold dec1
    rw [List.take_zero, List.count_nil]
    rfl
  simp (disch := omega) only [ev_iconst (M := MX5_releaseEntries) (v := (nI 0)) rfl dX5_releaseEntries_0 (pc' := 1) rfl, ev_istore_n (M := MX5_releaseEntries) (k := 1) rfl dX5_releaseEntries_1 (by decide) (pc' := 2) rfl, ev_aload_n (M := MX5_releaseEntries) (k := 0) rfl dX5_releaseEntries_3 (pc' := 4) rfl, ev_getR (M := MX5_releaseEntries) (f := 195) (kk := 7) f_6_38 rfl rfl rfl dX5_releaseEntries_4 (pc' := 7) rfl, ev_cL0 (M := MX5_releaseEntries) dX5_releaseEntries_7 c_6_46 mJx4a65c_size_8abf5 rfl rfl rfl (pc' := 10) rfl, ev_icmp_ge (M := MX5_releaseEntries) (t := 34) dX5_releaseEntries_10 (by decide) (pc' := 13) rfl, ev_aload_n (M := MX5_releaseEntries) (k := 0) rfl dX5_releaseEntries_13 (pc' := 14) rfl, ev_getR (M := MX5_releaseEntries) (f := 195) (kk := 7) f_6_38 rfl rfl rfl dX5_releaseEntries_14 (pc' := 17) rfl, ev_iload_n (M := MX5_releaseEntries) (k := 1) rfl dX5_releaseEntries_17 (pc' := 18) rfl, ev_cL1 (M := MX5_releaseEntries) dX5_releaseEntries_18 c_6_51 mJx4a65c_get_915e3 rfl rfl rfl (pc' := 21) rfl, ev_cast (M := MX5_releaseEntries) (c := 1) (kk := 2) k_6_55 (by decide) (by decide) rfl dX5_releaseEntries_21 (pc' := 24) rfl, ev_iconst (M := MX5_releaseEntries) (v := (-1)) rfl dX5_releaseEntries_24 (pc' := 25) rfl, ev_cV1 (M := MX5_releaseEntries) (kk := 2) dX5_releaseEntries_25 c_6_63 mX0_addUses rfl rfl (by decide) rfl (pc' := 28) rfl, ev_iinc (M := MX5_releaseEntries) (v := (nI 1)) rfl dX5_releaseEntries_28 (by decide) (pc' := 31) rfl, ev_goto (M := MX5_releaseEntries) (pc' := 2) dX5_releaseEntries_31 (by decide), ev_vret (M := MX5_releaseEntries) rfl dX5_releaseEntries_34, uX5_releaseEntries, lI_some, lJ_some, lR_ref, lR_null, lD_some, lget_cons, ldel_cons, ldel_nil, evR_v, evR_0, evR_x, vrf_s, vrf_n, Value.category, Nat.reduceEqDiff, Nat.reduceAdd, Nat.reduceSub, Nat.reduceMul, Nat.reduceLeDiff, reduceIte, if_true, if_false, or_self, or_false, false_or, or_true, true_or, and_self, and_true, true_and, and_false, false_and, not_true_eq_false, not_false_eq_true, List.length_cons, List.length_nil, Nat.zero_le, Nat.add_eq_zero_iff, Nat.succ_ne_zero, Nat.zero_add, Nat.add_zero, nle_t, nle_f, nlt_t, nlt_f, neq_t, neq_f, i_lt0, i_le0, i_0le, i_0lt, i_eq0, i_lt, i_le, i_eq, nI_add, i_sub, i_cl, i_m1a, i_m1b, i_m1c, i_m1d, i_m1e, i_am1, i_ite0]
  refine lpS (fun m => [(1, .int (nI m)), (0, .ref v)]) (fun m T' => SH T' s ba ca cb (dec1 us (es.take m)) bl co op cs hi re st ∧ fr (fun a => ∃ k ∈ bl, ∃ n ∈ co k, a = ca n) 0 0 T T') es.length ?_ ?_ T ⟨by rw [ed0]; exact hS, fr.rf hw⟩
  · rintro m T1 hm ⟨i1, i2⟩
    have hmm := gD_mem hm
    obtain ⟨k, hk, hn⟩ := hin _ hmm
    obtain ⟨n1, -, -, -, n2, n3, -⟩ := i1.kn hk hn
    have hch : tI T1 35 (ca (es.getD m 0)) = nI (dec1 us (es.take m) (es.getD m 0)) := by
      obtain ⟨-, -, -, -, -, -, q⟩ := (i1.2.2.1 k hk).1
      exact (q _ hn).1.2.2.2.1
    have hlu : us (es.getD m 0) < 1000000 := by
      obtain ⟨-, -, -, -, -, -, q⟩ := (hS.2.2.1 k hk).1
      exact (q _ hn).1.2.2.2.2.2.2
    have hcnt : (es.take m).count (es.getD m 0) + 1 ≤ us (es.getD m 0) := by
      have a1 := hu _ hmm
      have a2 : es.count (es.getD m 0) = (es.take (m + 1)).count (es.getD m 0) + (es.drop (m + 1)).count (es.getD m 0) := by
        rw [← List.count_append, List.take_append_drop]
      rw [take_s hm, List.count_append, List.count_singleton_self] at a2
      omega
    have edm : up1 (dec1 us (es.take m)) (es.getD m 0) (dec1 us (es.take m) (es.getD m 0) - 1) = dec1 us (es.take (m + 1)) := by
      funext n'
      rw [up1_e]
      unfold dec1
      rw [take_s hm, List.count_append]
      by_cases e : n' = es.getD m 0
      · rw [if_pos e, e, List.count_singleton_self]
        omega
      · rw [if_neg e, List.count_singleton, if_neg (by simpa using fun h => e h.symm)]
        rfl
    have i3 := SH_use (u := dec1 us (es.take m) (es.getD m 0) - 1) i1 hk hn (by unfold dec1; omega)
    rw [edm] at i3
    have nv : ¬ ∃ k ∈ bl, ∃ n ∈ co k, v = ca n := by
      rintro ⟨k, hk, n, hn, e⟩
      exact neK v1 (hS.kn hk hn).1 (by decide) e
    have nv3 : ¬ ∃ k ∈ bl, ∃ n ∈ co k, v + 3 = ca n := by
      rintro ⟨k, hk, n, hn, e⟩
      exact neK v4 (hS.kn hk hn).1 (by decide) e
    have e0 := i2.ce h1 nv
    have g1 : tK T1 v = 7 := by rw [ce_K e0]; exact h1
    have g6 : tR T1 195 v = some (v + 3) := by rw [ce_R e0]; exact h6
    have g7 := h7.of (i2.ce v4 nv3)
    have gK := g7.1
    have hd1 : 1 ≤ dec1 us (es.take m) (es.getD m 0) := by unfold dec1; omega
    refine ⟨_, ⟨i3, i2.th (fr_sI i2.ok ⟨k, hk, _, hn, rfl⟩)⟩, fun hq => ?_⟩
    rw [ev_iload_n (M := MX5_releaseEntries) (k := 1) rfl dX5_releaseEntries_2 (pc' := 3) rfl]
    generalize dec1 us (es.take m) (es.getD m 0) = u at *
    simp (disch := omega) only [ev_iconst (M := MX5_releaseEntries) (v := (nI 0)) rfl dX5_releaseEntries_0 (pc' := 1) rfl, ev_istore_n (M := MX5_releaseEntries) (k := 1) rfl dX5_releaseEntries_1 (by decide) (pc' := 2) rfl, ev_aload_n (M := MX5_releaseEntries) (k := 0) rfl dX5_releaseEntries_3 (pc' := 4) rfl, ev_getR (M := MX5_releaseEntries) (f := 195) (kk := 7) f_6_38 rfl rfl rfl dX5_releaseEntries_4 (pc' := 7) rfl, ev_cL0 (M := MX5_releaseEntries) dX5_releaseEntries_7 c_6_46 mJx4a65c_size_8abf5 rfl rfl rfl (pc' := 10) rfl, ev_icmp_ge (M := MX5_releaseEntries) (t := 34) dX5_releaseEntries_10 (by decide) (pc' := 13) rfl, ev_aload_n (M := MX5_releaseEntries) (k := 0) rfl dX5_releaseEntries_13 (pc' := 14) rfl, ev_getR (M := MX5_releaseEntries) (f := 195) (kk := 7) f_6_38 rfl rfl rfl dX5_releaseEntries_14 (pc' := 17) rfl, ev_iload_n (M := MX5_releaseEntries) (k := 1) rfl dX5_releaseEntries_17 (pc' := 18) rfl, ev_cL1 (M := MX5_releaseEntries) dX5_releaseEntries_18 c_6_51 mJx4a65c_get_915e3 rfl rfl rfl (pc' := 21) rfl, ev_cast (M := MX5_releaseEntries) (c := 1) (kk := 2) k_6_55 (by decide) (by decide) rfl dX5_releaseEntries_21 (pc' := 24) rfl, ev_iconst (M := MX5_releaseEntries) (v := (-1)) rfl dX5_releaseEntries_24 (pc' := 25) rfl, ev_cV1 (M := MX5_releaseEntries) (kk := 2) dX5_releaseEntries_25 c_6_63 mX0_addUses rfl rfl (by decide) rfl (pc' := 28) rfl, ev_iinc (M := MX5_releaseEntries) (v := (nI 1)) rfl dX5_releaseEntries_28 (by decide) (pc' := 31) rfl, ev_goto (M := MX5_releaseEntries) (pc' := 2) dX5_releaseEntries_31 (by decide), ev_vret (M := MX5_releaseEntries) rfl dX5_releaseEntries_34, ev_aload_n (M := MX0_addUses) (k := 0) rfl dX0_addUses_0 (pc' := 1) rfl, ev_dupI (M := MX0_addUses) dX0_addUses_1 (pc' := 2) rfl, ev_dupR (M := MX0_addUses) dX0_addUses_1 (pc' := 2) rfl, ev_getI (M := MX0_addUses) (f := 35) (kk := 2) f_1_21 rfl rfl rfl dX0_addUses_2 (pc' := 5) rfl, ev_iload_n (M := MX0_addUses) (k := 1) rfl dX0_addUses_5 (pc' := 6) rfl, ev_iadd (M := MX0_addUses) dX0_addUses_6 (pc' := 7) rfl, ev_putI (M := MX0_addUses) (f := 35) (kk := 2) f_1_21 rfl rfl rfl rfl dX0_addUses_7 (pc' := 10) rfl, ev_vret (M := MX0_addUses) rfl dX0_addUses_10, uX0_addUses, lI_some, lJ_some, lR_ref, lR_null, lD_some, lget_cons, ldel_cons, ldel_nil, evR_v, evR_0, evR_x, vrf_s, vrf_n, Value.category, Nat.reduceEqDiff, Nat.reduceAdd, Nat.reduceSub, Nat.reduceMul, Nat.reduceLeDiff, reduceIte, if_true, if_false, or_self, or_false, false_or, or_true, true_or, and_self, and_true, true_and, and_false, false_and, not_true_eq_false, not_false_eq_true, List.length_cons, List.length_nil, Nat.zero_le, Nat.add_eq_zero_iff, Nat.succ_ne_zero, Nat.zero_add, Nat.add_zero, nle_t, nle_f, nlt_t, nlt_f, neq_t, neq_f, i_lt0, i_le0, i_0le, i_0lt, i_eq0, i_lt, i_le, i_eq, nI_add, i_sub, i_cl, i_m1a, i_m1b, i_m1c, i_m1d, i_m1e, i_am1, i_ite0, g1, g6, gK, c_lsizem g7.is, c_lgetm g7.is, n1, hch]
    exact hq
  · rintro T1 ⟨i1, i2⟩
    rw [List.take_length] at i1
    have nv : ¬ ∃ k ∈ bl, ∃ n ∈ co k, v = ca n := by
      rintro ⟨k, hk, n, hn, e⟩
      exact neK v1 (hS.kn hk hn).1 (by decide) e
    have nv3 : ¬ ∃ k ∈ bl, ∃ n ∈ co k, v + 3 = ca n := by
      rintro ⟨k, hk, n, hn, e⟩
      exact neK v4 (hS.kn hk hn).1 (by decide) e
    have e0 := i2.ce h1 nv
    have g1 : tK T1 v = 7 := by rw [ce_K e0]; exact h1
    have g6 : tR T1 195 v = some (v + 3) := by rw [ce_R e0]; exact h6
    have g7 := h7.of (i2.ce v4 nv3)
    have gK := g7.1
    rw [ev_iload_n (M := MX5_releaseEntries) (k := 1) rfl dX5_releaseEntries_2 (pc' := 3) rfl]
    simp (disch := omega) only [ev_iconst (M := MX5_releaseEntries) (v := (nI 0)) rfl dX5_releaseEntries_0 (pc' := 1) rfl, ev_istore_n (M := MX5_releaseEntries) (k := 1) rfl dX5_releaseEntries_1 (by decide) (pc' := 2) rfl, ev_aload_n (M := MX5_releaseEntries) (k := 0) rfl dX5_releaseEntries_3 (pc' := 4) rfl, ev_getR (M := MX5_releaseEntries) (f := 195) (kk := 7) f_6_38 rfl rfl rfl dX5_releaseEntries_4 (pc' := 7) rfl, ev_cL0 (M := MX5_releaseEntries) dX5_releaseEntries_7 c_6_46 mJx4a65c_size_8abf5 rfl rfl rfl (pc' := 10) rfl, ev_icmp_ge (M := MX5_releaseEntries) (t := 34) dX5_releaseEntries_10 (by decide) (pc' := 13) rfl, ev_aload_n (M := MX5_releaseEntries) (k := 0) rfl dX5_releaseEntries_13 (pc' := 14) rfl, ev_getR (M := MX5_releaseEntries) (f := 195) (kk := 7) f_6_38 rfl rfl rfl dX5_releaseEntries_14 (pc' := 17) rfl, ev_iload_n (M := MX5_releaseEntries) (k := 1) rfl dX5_releaseEntries_17 (pc' := 18) rfl, ev_cL1 (M := MX5_releaseEntries) dX5_releaseEntries_18 c_6_51 mJx4a65c_get_915e3 rfl rfl rfl (pc' := 21) rfl, ev_cast (M := MX5_releaseEntries) (c := 1) (kk := 2) k_6_55 (by decide) (by decide) rfl dX5_releaseEntries_21 (pc' := 24) rfl, ev_iconst (M := MX5_releaseEntries) (v := (-1)) rfl dX5_releaseEntries_24 (pc' := 25) rfl, ev_cV1 (M := MX5_releaseEntries) (kk := 2) dX5_releaseEntries_25 c_6_63 mX0_addUses rfl rfl (by decide) rfl (pc' := 28) rfl, ev_iinc (M := MX5_releaseEntries) (v := (nI 1)) rfl dX5_releaseEntries_28 (by decide) (pc' := 31) rfl, ev_goto (M := MX5_releaseEntries) (pc' := 2) dX5_releaseEntries_31 (by decide), ev_vret (M := MX5_releaseEntries) rfl dX5_releaseEntries_34, lI_some, lJ_some, lR_ref, lR_null, lD_some, lget_cons, ldel_cons, ldel_nil, evR_v, evR_0, evR_x, vrf_s, vrf_n, Value.category, Nat.reduceEqDiff, Nat.reduceAdd, Nat.reduceSub, Nat.reduceMul, Nat.reduceLeDiff, reduceIte, if_true, if_false, or_self, or_false, false_or, or_true, true_or, and_self, and_true, true_and, and_false, false_and, not_true_eq_false, not_false_eq_true, List.length_cons, List.length_nil, Nat.zero_le, Nat.add_eq_zero_iff, Nat.succ_ne_zero, Nat.zero_add, Nat.add_zero, nle_t, nle_f, nlt_t, nlt_f, neq_t, neq_f, i_lt0, i_le0, i_0le, i_0lt, i_eq0, i_lt, i_le, i_eq, nI_add, i_sub, i_cl, i_m1a, i_m1b, i_m1c, i_m1d, i_m1e, i_am1, i_ite0, g1, g6, gK, c_lsizem g7.is]
    exact ⟨i1, i2⟩
end VE3
