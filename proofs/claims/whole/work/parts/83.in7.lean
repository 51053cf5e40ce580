/-! the reference, made -/
section IN7
variable {d : Nat} {T : TS}
/-- a new row, held in a field -/
def mkF (X : Nat) (T : TS) (q : Nat × Nat × Nat) : TS := sR q.1 X (some (tn T)) (nA q.2.1 q.2.2 T)
theorem mkF_t (X : Nat) (T : TS) (q : Nat × Nat × Nat) : tn (mkF X T q) = tn T + 1 := rfl
theorem mkF_k {X : Nat} {T : TS} {q : Nat × Nat × Nat} {a : Nat} (h : a < tn T) : tK (mkF X T q) a = tK T a := by
  show up1 (tK T) (tn T) _ a = _
  rw [up1_nea (by omega)]
def mkR (X : Nat) (T : TS) (l : List (Nat × Nat × Nat)) : TS := l.foldl (mkF X) T
theorem mkR_is {X : Nat} : ∀ (l : List (Nat × Nat × Nat)) (T : TS), X < tn T → wf T → (l.map (fun q => q.1)).Nodup → tn (mkR X T l) = tn T + l.length ∧ tu (mkR X T l) = tu T + (l.map (fun q => q.2.2)).sum ∧ wf (mkR X T l) ∧ (∀ a, a < tn T → tK (mkR X T l) a = tK T a ∧ (a ≠ X → cell (mkR X T l) a = cell T a)) ∧ tI (mkR X T l) = tI T ∧ (∀ f, f ∉ l.map (fun q => q.1) → tR (mkR X T l) f X = tR T f X) ∧ ∀ i (h : i < l.length), tK (mkR X T l) (tn T + i) = (l[i]).2.1 ∧ tl (mkR X T l) (tn T + i) = (l[i]).2.2 ∧ (∀ j, tA (mkR X T l) (tn T + i) j = 0) ∧ tR (mkR X T l) (l[i]).1 X = some (tn T + i) := by
  intro l
  induction l with
  | nil => intro T hX hw _; exact ⟨rfl, rfl, hw, fun a _ => ⟨rfl, fun _ => rfl⟩, rfl, fun f _ => rfl, fun i h => absurd h (Nat.not_lt_zero i)⟩
  | cons q l ih =>
    intro T hX hw hnd
    rw [List.map_cons] at hnd
    obtain ⟨n1, n2⟩ := List.nodup_cons.mp hnd
    have hw1 : wf (mkF X T q) := fun a ha => by
      have ha' : tn T + 1 ≤ a := ha
      show up1 (tK T) (tn T) _ a = 0
      rw [up1_nea (by omega)]
      exact hw a (by omega)
    obtain ⟨i1, i2, i3, i4, i5, i6, i7⟩ := ih (mkF X T q) (by rw [mkF_t]; omega) hw1 n2
    rw [mkF_t] at i1 i4 i7
    have hce : ∀ a, a < tn T → a ≠ X → cell (mkF X T q) a = cell T a := fun a h1 h2 => by
      unfold mkF
      rw [ce_sR h2, ce_nA (by omega)]
    have hm : mkR X T (q :: l) = mkR X (mkF X T q) l := rfl
    rw [hm]
    refine ⟨by rw [i1, List.length_cons]; omega, ?_, i3, fun a ha => ⟨by rw [(i4 a (by omega)).1, mkF_k ha], fun h2 => by rw [(i4 a (by omega)).2 h2, hce a ha h2]⟩, i5, fun f hf => ?_, fun i hi => ?_⟩
    · rw [i2, List.map_cons, List.sum_cons]
      show tu T + q.2.2 + _ = _
      omega
    · rw [List.map_cons] at hf
      rw [i6 f (fun z => hf (List.mem_cons_of_mem _ z))]
      show up2 (tR T) q.1 X _ f X = _
      rw [up2_e, if_neg (fun z => hf (by rw [z.1]; exact List.mem_cons_self ..))]
    · cases i with
      | zero =>
        have c0 := (i4 (tn T) (by omega)).2 (by omega)
        have z1 : tK (mkF X T q) (tn T) = q.2.1 := by
          show up1 (tK T) (tn T) _ (tn T) = _
          rw [up1_e, if_pos rfl]
        have z2 : tl (mkF X T q) (tn T) = q.2.2 := by
          show up1 (tl T) (tn T) _ (tn T) = _
          rw [up1_e, if_pos rfl]
        have z3 : ∀ j, tA (mkF X T q) (tn T) j = 0 := fun j => by
          show up1 (tA T) (tn T) _ (tn T) j = _
          rw [up1_e, if_pos rfl]
        rw [Nat.add_zero, List.getElem_cons_zero]
        refine ⟨by rw [ce_K c0]; exact z1, by rw [ce_l c0]; exact z2, fun j => by rw [ce_A c0]; exact z3 j, ?_⟩
        rw [i6 q.1 n1]
        show up2 (tR T) q.1 X _ q.1 X = _
        rw [up2_e, if_pos ⟨rfl, rfl⟩]
      | succ i =>
        have hi2 : i < l.length := Nat.lt_of_succ_lt_succ hi
        have := i7 i hi2
        rw [List.getElem_cons_succ, show tn T + (i + 1) = tn T + 1 + i by omega]
        exact this
def L7 : List (Nat × Nat × Nat) := [(257, 20, 240), (258, 20, 20), (259, 20, 20), (260, 20, 20), (261, 20, 20), (262, 20, 20), (263, 20, 600), (264, 20, 4800), (265, 20, 6), (268, 20, 7700), (269, 20, 7700), (270, 20, 7700), (271, 20, 7700), (273, 21, 61500), (275, 20, 4)]
theorem e615 : (61500 : Int32) = nI 61500 := by decide
/-- up to the first loop -/
theorem Z_i7 {Q : Post} (hw : wf T) (hq : Ev d MX7_init [] 132 [(1, .int (nI 0)), (0, .ref (tn T))] [] (mkR (tn T) (nO 8 T) L7) Q) : CallQ (d + 1) 129 [.ref (tn T)] (nO 8 T) Q := by
  obtain ⟨T0, h0⟩ : ∃ U, U = nO 8 T := ⟨_, rfl⟩
  have t0 : tn T0 = tn T + 1 := by rw [h0]; rfl
  have k0 : tK T0 (tn T) = 9 := by rw [h0, tK_nO, up1_e, if_pos rfl]
  rw [← h0] at hq ⊢
  simp (disch := omega) only [ev_aload_n (M := MX7_init) (k := 0) rfl dX7_init_0 (pc' := 1) rfl, ev_objInit (M := MX7_init) (mid := 0) c_8_1 dX7_init_1 (pc' := 4) rfl, uX7_init, lI_some, lR_ref, lR_null, lD_some, lget_cons, ldel_cons, ldel_nil, evR_v, evR_0, evR_x, vrf_s, vrf_n, Value.category, Nat.reduceEqDiff, Nat.reduceAdd, Nat.reduceSub, Nat.reduceMul, Nat.reduceLeDiff, reduceIte, if_true, if_false, or_self, or_false, false_or, or_true, true_or, and_self, and_true, true_and, and_false, false_and, not_true_eq_false, not_false_eq_true, List.length_cons, List.length_nil, Nat.zero_le, Nat.add_eq_zero_iff, Nat.succ_ne_zero, Nat.zero_add, Nat.add_zero, nle_t, nle_f, nlt_t, nlt_f, neq_t, neq_f, i_lt0, i_le0, i_0le, i_0lt, i_eq0, i_lt, i_le, i_eq, nI_add, i_sub, i_cl, i_m1a, i_m1b, i_m1c, i_m1d, i_m1e, i_am1, i_ite0]
  have y0 : tK (nA 20 240 T0) (tn T) = 9 := by rw [tK_nA, up1_e, if_neg (by omega)]; exact k0
  simp (disch := omega) only [ev_aload_n (M := MX7_init) (k := 0) rfl dX7_init_4 (pc' := 5) rfl, ev_sipush (M := MX7_init) (v := (nI 240)) rfl dX7_init_5 (pc' := 8) rfl, ev_newa (M := MX7_init) (k := 20) rfl (by decide) dX7_init_8 (pc' := 10) rfl, ev_putR (M := MX7_init) (f := 257) (kk := 9) f_8_7 rfl rfl rfl rfl dX7_init_10 (pc' := 13) rfl, ev_putN (M := MX7_init) (f := 257) (kk := 9) f_8_7 rfl rfl rfl rfl dX7_init_10 (pc' := 13) rfl, lI_some, lR_ref, lR_null, lD_some, lget_cons, ldel_cons, ldel_nil, evR_v, evR_0, evR_x, vrf_s, vrf_n, Value.category, Nat.reduceEqDiff, Nat.reduceAdd, Nat.reduceSub, Nat.reduceMul, Nat.reduceLeDiff, reduceIte, if_true, if_false, or_self, or_false, false_or, or_true, true_or, and_self, and_true, true_and, and_false, false_and, not_true_eq_false, not_false_eq_true, List.length_cons, List.length_nil, Nat.zero_le, Nat.add_eq_zero_iff, Nat.succ_ne_zero, Nat.zero_add, Nat.add_zero, nle_t, nle_f, nlt_t, nlt_f, neq_t, neq_f, i_lt0, i_le0, i_0le, i_0lt, i_eq0, i_lt, i_le, i_eq, nI_add, i_sub, i_cl, i_m1a, i_m1b, i_m1c, i_m1d, i_m1e, i_am1, i_ite0, k0, y0]
  have e1 : sR 257 (tn T) (some (tn T0)) (nA 20 240 T0) = mkF (tn T) T0 (257, 20, 240) := rfl
  rw [e1]
  obtain ⟨T1, h1⟩ : ∃ U, U = mkF (tn T) T0 (257, 20, 240) := ⟨_, rfl⟩
  have t1 : tn T1 = tn T + 2 := by rw [h1, mkF_t, t0]
  have k1 : tK T1 (tn T) = 9 := by rw [h1, mkF_k (by omega)]; exact k0
  rw [← h1]
  have y1 : tK (nA 20 20 T1) (tn T) = 9 := by rw [tK_nA, up1_e, if_neg (by omega)]; exact k1
  simp (disch := omega) only [ev_aload_n (M := MX7_init) (k := 0) rfl dX7_init_13 (pc' := 14) rfl, ev_bipush (M := MX7_init) (v := (nI 20)) rfl dX7_init_14 (pc' := 16) rfl, ev_newa (M := MX7_init) (k := 20) rfl (by decide) dX7_init_16 (pc' := 18) rfl, ev_putR (M := MX7_init) (f := 258) (kk := 9) f_8_13 rfl rfl rfl rfl dX7_init_18 (pc' := 21) rfl, ev_putN (M := MX7_init) (f := 258) (kk := 9) f_8_13 rfl rfl rfl rfl dX7_init_18 (pc' := 21) rfl, lI_some, lR_ref, lR_null, lD_some, lget_cons, ldel_cons, ldel_nil, evR_v, evR_0, evR_x, vrf_s, vrf_n, Value.category, Nat.reduceEqDiff, Nat.reduceAdd, Nat.reduceSub, Nat.reduceMul, Nat.reduceLeDiff, reduceIte, if_true, if_false, or_self, or_false, false_or, or_true, true_or, and_self, and_true, true_and, and_false, false_and, not_true_eq_false, not_false_eq_true, List.length_cons, List.length_nil, Nat.zero_le, Nat.add_eq_zero_iff, Nat.succ_ne_zero, Nat.zero_add, Nat.add_zero, nle_t, nle_f, nlt_t, nlt_f, neq_t, neq_f, i_lt0, i_le0, i_0le, i_0lt, i_eq0, i_lt, i_le, i_eq, nI_add, i_sub, i_cl, i_m1a, i_m1b, i_m1c, i_m1d, i_m1e, i_am1, i_ite0, k1, y1]
  have e2 : sR 258 (tn T) (some (tn T1)) (nA 20 20 T1) = mkF (tn T) T1 (258, 20, 20) := rfl
  rw [e2]
  obtain ⟨T2, h2⟩ : ∃ U, U = mkF (tn T) T1 (258, 20, 20) := ⟨_, rfl⟩
  have t2 : tn T2 = tn T + 3 := by rw [h2, mkF_t, t1]
  have k2 : tK T2 (tn T) = 9 := by rw [h2, mkF_k (by omega)]; exact k1
  rw [← h2]
  have y2 : tK (nA 20 20 T2) (tn T) = 9 := by rw [tK_nA, up1_e, if_neg (by omega)]; exact k2
  simp (disch := omega) only [ev_aload_n (M := MX7_init) (k := 0) rfl dX7_init_21 (pc' := 22) rfl, ev_bipush (M := MX7_init) (v := (nI 20)) rfl dX7_init_22 (pc' := 24) rfl, ev_newa (M := MX7_init) (k := 20) rfl (by decide) dX7_init_24 (pc' := 26) rfl, ev_putR (M := MX7_init) (f := 259) (kk := 9) f_8_16 rfl rfl rfl rfl dX7_init_26 (pc' := 29) rfl, ev_putN (M := MX7_init) (f := 259) (kk := 9) f_8_16 rfl rfl rfl rfl dX7_init_26 (pc' := 29) rfl, lI_some, lR_ref, lR_null, lD_some, lget_cons, ldel_cons, ldel_nil, evR_v, evR_0, evR_x, vrf_s, vrf_n, Value.category, Nat.reduceEqDiff, Nat.reduceAdd, Nat.reduceSub, Nat.reduceMul, Nat.reduceLeDiff, reduceIte, if_true, if_false, or_self, or_false, false_or, or_true, true_or, and_self, and_true, true_and, and_false, false_and, not_true_eq_false, not_false_eq_true, List.length_cons, List.length_nil, Nat.zero_le, Nat.add_eq_zero_iff, Nat.succ_ne_zero, Nat.zero_add, Nat.add_zero, nle_t, nle_f, nlt_t, nlt_f, neq_t, neq_f, i_lt0, i_le0, i_0le, i_0lt, i_eq0, i_lt, i_le, i_eq, nI_add, i_sub, i_cl, i_m1a, i_m1b, i_m1c, i_m1d, i_m1e, i_am1, i_ite0, k2, y2]
  have e3 : sR 259 (tn T) (some (tn T2)) (nA 20 20 T2) = mkF (tn T) T2 (259, 20, 20) := rfl
  rw [e3]
  obtain ⟨T3, h3⟩ : ∃ U, U = mkF (tn T) T2 (259, 20, 20) := ⟨_, rfl⟩
  have t3 : tn T3 = tn T + 4 := by rw [h3, mkF_t, t2]
  have k3 : tK T3 (tn T) = 9 := by rw [h3, mkF_k (by omega)]; exact k2
  rw [← h3]
  have y3 : tK (nA 20 20 T3) (tn T) = 9 := by rw [tK_nA, up1_e, if_neg (by omega)]; exact k3
  simp (disch := omega) only [ev_aload_n (M := MX7_init) (k := 0) rfl dX7_init_29 (pc' := 30) rfl, ev_bipush (M := MX7_init) (v := (nI 20)) rfl dX7_init_30 (pc' := 32) rfl, ev_newa (M := MX7_init) (k := 20) rfl (by decide) dX7_init_32 (pc' := 34) rfl, ev_putR (M := MX7_init) (f := 260) (kk := 9) f_8_19 rfl rfl rfl rfl dX7_init_34 (pc' := 37) rfl, ev_putN (M := MX7_init) (f := 260) (kk := 9) f_8_19 rfl rfl rfl rfl dX7_init_34 (pc' := 37) rfl, lI_some, lR_ref, lR_null, lD_some, lget_cons, ldel_cons, ldel_nil, evR_v, evR_0, evR_x, vrf_s, vrf_n, Value.category, Nat.reduceEqDiff, Nat.reduceAdd, Nat.reduceSub, Nat.reduceMul, Nat.reduceLeDiff, reduceIte, if_true, if_false, or_self, or_false, false_or, or_true, true_or, and_self, and_true, true_and, and_false, false_and, not_true_eq_false, not_false_eq_true, List.length_cons, List.length_nil, Nat.zero_le, Nat.add_eq_zero_iff, Nat.succ_ne_zero, Nat.zero_add, Nat.add_zero, nle_t, nle_f, nlt_t, nlt_f, neq_t, neq_f, i_lt0, i_le0, i_0le, i_0lt, i_eq0, i_lt, i_le, i_eq, nI_add, i_sub, i_cl, i_m1a, i_m1b, i_m1c, i_m1d, i_m1e, i_am1, i_ite0, k3, y3]
  have e4 : sR 260 (tn T) (some (tn T3)) (nA 20 20 T3) = mkF (tn T) T3 (260, 20, 20) := rfl
  rw [e4]
  obtain ⟨T4, h4⟩ : ∃ U, U = mkF (tn T) T3 (260, 20, 20) := ⟨_, rfl⟩
  have t4 : tn T4 = tn T + 5 := by rw [h4, mkF_t, t3]
  have k4 : tK T4 (tn T) = 9 := by rw [h4, mkF_k (by omega)]; exact k3
  rw [← h4]
  have y4 : tK (nA 20 20 T4) (tn T) = 9 := by rw [tK_nA, up1_e, if_neg (by omega)]; exact k4
  simp (disch := omega) only [ev_aload_n (M := MX7_init) (k := 0) rfl dX7_init_37 (pc' := 38) rfl, ev_bipush (M := MX7_init) (v := (nI 20)) rfl dX7_init_38 (pc' := 40) rfl, ev_newa (M := MX7_init) (k := 20) rfl (by decide) dX7_init_40 (pc' := 42) rfl, ev_putR (M := MX7_init) (f := 261) (kk := 9) f_8_22 rfl rfl rfl rfl dX7_init_42 (pc' := 45) rfl, ev_putN (M := MX7_init) (f := 261) (kk := 9) f_8_22 rfl rfl rfl rfl dX7_init_42 (pc' := 45) rfl, lI_some, lR_ref, lR_null, lD_some, lget_cons, ldel_cons, ldel_nil, evR_v, evR_0, evR_x, vrf_s, vrf_n, Value.category, Nat.reduceEqDiff, Nat.reduceAdd, Nat.reduceSub, Nat.reduceMul, Nat.reduceLeDiff, reduceIte, if_true, if_false, or_self, or_false, false_or, or_true, true_or, and_self, and_true, true_and, and_false, false_and, not_true_eq_false, not_false_eq_true, List.length_cons, List.length_nil, Nat.zero_le, Nat.add_eq_zero_iff, Nat.succ_ne_zero, Nat.zero_add, Nat.add_zero, nle_t, nle_f, nlt_t, nlt_f, neq_t, neq_f, i_lt0, i_le0, i_0le, i_0lt, i_eq0, i_lt, i_le, i_eq, nI_add, i_sub, i_cl, i_m1a, i_m1b, i_m1c, i_m1d, i_m1e, i_am1, i_ite0, k4, y4]
  have e5 : sR 261 (tn T) (some (tn T4)) (nA 20 20 T4) = mkF (tn T) T4 (261, 20, 20) := rfl
  rw [e5]
  obtain ⟨T5, h5⟩ : ∃ U, U = mkF (tn T) T4 (261, 20, 20) := ⟨_, rfl⟩
  have t5 : tn T5 = tn T + 6 := by rw [h5, mkF_t, t4]
  have k5 : tK T5 (tn T) = 9 := by rw [h5, mkF_k (by omega)]; exact k4
  rw [← h5]
  have y5 : tK (nA 20 20 T5) (tn T) = 9 := by rw [tK_nA, up1_e, if_neg (by omega)]; exact k5
  simp (disch := omega) only [ev_aload_n (M := MX7_init) (k := 0) rfl dX7_init_45 (pc' := 46) rfl, ev_bipush (M := MX7_init) (v := (nI 20)) rfl dX7_init_46 (pc' := 48) rfl, ev_newa (M := MX7_init) (k := 20) rfl (by decide) dX7_init_48 (pc' := 50) rfl, ev_putR (M := MX7_init) (f := 262) (kk := 9) f_8_25 rfl rfl rfl rfl dX7_init_50 (pc' := 53) rfl, ev_putN (M := MX7_init) (f := 262) (kk := 9) f_8_25 rfl rfl rfl rfl dX7_init_50 (pc' := 53) rfl, lI_some, lR_ref, lR_null, lD_some, lget_cons, ldel_cons, ldel_nil, evR_v, evR_0, evR_x, vrf_s, vrf_n, Value.category, Nat.reduceEqDiff, Nat.reduceAdd, Nat.reduceSub, Nat.reduceMul, Nat.reduceLeDiff, reduceIte, if_true, if_false, or_self, or_false, false_or, or_true, true_or, and_self, and_true, true_and, and_false, false_and, not_true_eq_false, not_false_eq_true, List.length_cons, List.length_nil, Nat.zero_le, Nat.add_eq_zero_iff, Nat.succ_ne_zero, Nat.zero_add, Nat.add_zero, nle_t, nle_f, nlt_t, nlt_f, neq_t, neq_f, i_lt0, i_le0, i_0le, i_0lt, i_eq0, i_lt, i_le, i_eq, nI_add, i_sub, i_cl, i_m1a, i_m1b, i_m1c, i_m1d, i_m1e, i_am1, i_ite0, k5, y5]
  have e6 : sR 262 (tn T) (some (tn T5)) (nA 20 20 T5) = mkF (tn T) T5 (262, 20, 20) := rfl
  rw [e6]
  obtain ⟨T6, h6⟩ : ∃ U, U = mkF (tn T) T5 (262, 20, 20) := ⟨_, rfl⟩
  have t6 : tn T6 = tn T + 7 := by rw [h6, mkF_t, t5]
  have k6 : tK T6 (tn T) = 9 := by rw [h6, mkF_k (by omega)]; exact k5
  rw [← h6]
  have y6 : tK (nA 20 600 T6) (tn T) = 9 := by rw [tK_nA, up1_e, if_neg (by omega)]; exact k6
  simp (disch := omega) only [ev_aload_n (M := MX7_init) (k := 0) rfl dX7_init_53 (pc' := 54) rfl, ev_sipush (M := MX7_init) (v := (nI 600)) rfl dX7_init_54 (pc' := 57) rfl, ev_newa (M := MX7_init) (k := 20) rfl (by decide) dX7_init_57 (pc' := 59) rfl, ev_putR (M := MX7_init) (f := 263) (kk := 9) f_8_28 rfl rfl rfl rfl dX7_init_59 (pc' := 62) rfl, ev_putN (M := MX7_init) (f := 263) (kk := 9) f_8_28 rfl rfl rfl rfl dX7_init_59 (pc' := 62) rfl, lI_some, lR_ref, lR_null, lD_some, lget_cons, ldel_cons, ldel_nil, evR_v, evR_0, evR_x, vrf_s, vrf_n, Value.category, Nat.reduceEqDiff, Nat.reduceAdd, Nat.reduceSub, Nat.reduceMul, Nat.reduceLeDiff, reduceIte, if_true, if_false, or_self, or_false, false_or, or_true, true_or, and_self, and_true, true_and, and_false, false_and, not_true_eq_false, not_false_eq_true, List.length_cons, List.length_nil, Nat.zero_le, Nat.add_eq_zero_iff, Nat.succ_ne_zero, Nat.zero_add, Nat.add_zero, nle_t, nle_f, nlt_t, nlt_f, neq_t, neq_f, i_lt0, i_le0, i_0le, i_0lt, i_eq0, i_lt, i_le, i_eq, nI_add, i_sub, i_cl, i_m1a, i_m1b, i_m1c, i_m1d, i_m1e, i_am1, i_ite0, k6, y6]
  have e7 : sR 263 (tn T) (some (tn T6)) (nA 20 600 T6) = mkF (tn T) T6 (263, 20, 600) := rfl
  rw [e7]
  obtain ⟨T7, h7⟩ : ∃ U, U = mkF (tn T) T6 (263, 20, 600) := ⟨_, rfl⟩
  have t7 : tn T7 = tn T + 8 := by rw [h7, mkF_t, t6]
  have k7 : tK T7 (tn T) = 9 := by rw [h7, mkF_k (by omega)]; exact k6
  rw [← h7]
  have y7 : tK (nA 20 4800 T7) (tn T) = 9 := by rw [tK_nA, up1_e, if_neg (by omega)]; exact k7
  simp (disch := omega) only [ev_aload_n (M := MX7_init) (k := 0) rfl dX7_init_62 (pc' := 63) rfl, ev_sipush (M := MX7_init) (v := (nI 4800)) rfl dX7_init_63 (pc' := 66) rfl, ev_newa (M := MX7_init) (k := 20) rfl (by decide) dX7_init_66 (pc' := 68) rfl, ev_putR (M := MX7_init) (f := 264) (kk := 9) f_8_31 rfl rfl rfl rfl dX7_init_68 (pc' := 71) rfl, ev_putN (M := MX7_init) (f := 264) (kk := 9) f_8_31 rfl rfl rfl rfl dX7_init_68 (pc' := 71) rfl, lI_some, lR_ref, lR_null, lD_some, lget_cons, ldel_cons, ldel_nil, evR_v, evR_0, evR_x, vrf_s, vrf_n, Value.category, Nat.reduceEqDiff, Nat.reduceAdd, Nat.reduceSub, Nat.reduceMul, Nat.reduceLeDiff, reduceIte, if_true, if_false, or_self, or_false, false_or, or_true, true_or, and_self, and_true, true_and, and_false, false_and, not_true_eq_false, not_false_eq_true, List.length_cons, List.length_nil, Nat.zero_le, Nat.add_eq_zero_iff, Nat.succ_ne_zero, Nat.zero_add, Nat.add_zero, nle_t, nle_f, nlt_t, nlt_f, neq_t, neq_f, i_lt0, i_le0, i_0le, i_0lt, i_eq0, i_lt, i_le, i_eq, nI_add, i_sub, i_cl, i_m1a, i_m1b, i_m1c, i_m1d, i_m1e, i_am1, i_ite0, k7, y7]
  have e8 : sR 264 (tn T) (some (tn T7)) (nA 20 4800 T7) = mkF (tn T) T7 (264, 20, 4800) := rfl
  rw [e8]
  obtain ⟨T8, h8⟩ : ∃ U, U = mkF (tn T) T7 (264, 20, 4800) := ⟨_, rfl⟩
  have t8 : tn T8 = tn T + 9 := by rw [h8, mkF_t, t7]
  have k8 : tK T8 (tn T) = 9 := by rw [h8, mkF_k (by omega)]; exact k7
  rw [← h8]
  have y8 : tK (nA 20 6 T8) (tn T) = 9 := by rw [tK_nA, up1_e, if_neg (by omega)]; exact k8
  simp (disch := omega) only [ev_aload_n (M := MX7_init) (k := 0) rfl dX7_init_71 (pc' := 72) rfl, ev_bipush (M := MX7_init) (v := (nI 6)) rfl dX7_init_72 (pc' := 74) rfl, ev_newa (M := MX7_init) (k := 20) rfl (by decide) dX7_init_74 (pc' := 76) rfl, ev_putR (M := MX7_init) (f := 265) (kk := 9) f_8_34 rfl rfl rfl rfl dX7_init_76 (pc' := 79) rfl, ev_putN (M := MX7_init) (f := 265) (kk := 9) f_8_34 rfl rfl rfl rfl dX7_init_76 (pc' := 79) rfl, lI_some, lR_ref, lR_null, lD_some, lget_cons, ldel_cons, ldel_nil, evR_v, evR_0, evR_x, vrf_s, vrf_n, Value.category, Nat.reduceEqDiff, Nat.reduceAdd, Nat.reduceSub, Nat.reduceMul, Nat.reduceLeDiff, reduceIte, if_true, if_false, or_self, or_false, false_or, or_true, true_or, and_self, and_true, true_and, and_false, false_and, not_true_eq_false, not_false_eq_true, List.length_cons, List.length_nil, Nat.zero_le, Nat.add_eq_zero_iff, Nat.succ_ne_zero, Nat.zero_add, Nat.add_zero, nle_t, nle_f, nlt_t, nlt_f, neq_t, neq_f, i_lt0, i_le0, i_0le, i_0lt, i_eq0, i_lt, i_le, i_eq, nI_add, i_sub, i_cl, i_m1a, i_m1b, i_m1c, i_m1d, i_m1e, i_am1, i_ite0, k8, y8]
  have e9 : sR 265 (tn T) (some (tn T8)) (nA 20 6 T8) = mkF (tn T) T8 (265, 20, 6) := rfl
  rw [e9]
  obtain ⟨T9, h9⟩ : ∃ U, U = mkF (tn T) T8 (265, 20, 6) := ⟨_, rfl⟩
  have t9 : tn T9 = tn T + 10 := by rw [h9, mkF_t, t8]
  have k9 : tK T9 (tn T) = 9 := by rw [h9, mkF_k (by omega)]; exact k8
  rw [← h9]
  have y9 : tK (nA 20 7700 T9) (tn T) = 9 := by rw [tK_nA, up1_e, if_neg (by omega)]; exact k9
  simp (disch := omega) only [ev_aload_n (M := MX7_init) (k := 0) rfl dX7_init_79 (pc' := 80) rfl, ev_sipush (M := MX7_init) (v := (nI 7700)) rfl dX7_init_80 (pc' := 83) rfl, ev_newa (M := MX7_init) (k := 20) rfl (by decide) dX7_init_83 (pc' := 85) rfl, ev_putR (M := MX7_init) (f := 268) (kk := 9) f_8_37 rfl rfl rfl rfl dX7_init_85 (pc' := 88) rfl, ev_putN (M := MX7_init) (f := 268) (kk := 9) f_8_37 rfl rfl rfl rfl dX7_init_85 (pc' := 88) rfl, lI_some, lR_ref, lR_null, lD_some, lget_cons, ldel_cons, ldel_nil, evR_v, evR_0, evR_x, vrf_s, vrf_n, Value.category, Nat.reduceEqDiff, Nat.reduceAdd, Nat.reduceSub, Nat.reduceMul, Nat.reduceLeDiff, reduceIte, if_true, if_false, or_self, or_false, false_or, or_true, true_or, and_self, and_true, true_and, and_false, false_and, not_true_eq_false, not_false_eq_true, List.length_cons, List.length_nil, Nat.zero_le, Nat.add_eq_zero_iff, Nat.succ_ne_zero, Nat.zero_add, Nat.add_zero, nle_t, nle_f, nlt_t, nlt_f, neq_t, neq_f, i_lt0, i_le0, i_0le, i_0lt, i_eq0, i_lt, i_le, i_eq, nI_add, i_sub, i_cl, i_m1a, i_m1b, i_m1c, i_m1d, i_m1e, i_am1, i_ite0, k9, y9]
  have e10 : sR 268 (tn T) (some (tn T9)) (nA 20 7700 T9) = mkF (tn T) T9 (268, 20, 7700) := rfl
  rw [e10]
  obtain ⟨T10, h10⟩ : ∃ U, U = mkF (tn T) T9 (268, 20, 7700) := ⟨_, rfl⟩
  have t10 : tn T10 = tn T + 11 := by rw [h10, mkF_t, t9]
  have k10 : tK T10 (tn T) = 9 := by rw [h10, mkF_k (by omega)]; exact k9
  rw [← h10]
  have y10 : tK (nA 20 7700 T10) (tn T) = 9 := by rw [tK_nA, up1_e, if_neg (by omega)]; exact k10
  simp (disch := omega) only [ev_aload_n (M := MX7_init) (k := 0) rfl dX7_init_88 (pc' := 89) rfl, ev_sipush (M := MX7_init) (v := (nI 7700)) rfl dX7_init_89 (pc' := 92) rfl, ev_newa (M := MX7_init) (k := 20) rfl (by decide) dX7_init_92 (pc' := 94) rfl, ev_putR (M := MX7_init) (f := 269) (kk := 9) f_8_40 rfl rfl rfl rfl dX7_init_94 (pc' := 97) rfl, ev_putN (M := MX7_init) (f := 269) (kk := 9) f_8_40 rfl rfl rfl rfl dX7_init_94 (pc' := 97) rfl, lI_some, lR_ref, lR_null, lD_some, lget_cons, ldel_cons, ldel_nil, evR_v, evR_0, evR_x, vrf_s, vrf_n, Value.category, Nat.reduceEqDiff, Nat.reduceAdd, Nat.reduceSub, Nat.reduceMul, Nat.reduceLeDiff, reduceIte, if_true, if_false, or_self, or_false, false_or, or_true, true_or, and_self, and_true, true_and, and_false, false_and, not_true_eq_false, not_false_eq_true, List.length_cons, List.length_nil, Nat.zero_le, Nat.add_eq_zero_iff, Nat.succ_ne_zero, Nat.zero_add, Nat.add_zero, nle_t, nle_f, nlt_t, nlt_f, neq_t, neq_f, i_lt0, i_le0, i_0le, i_0lt, i_eq0, i_lt, i_le, i_eq, nI_add, i_sub, i_cl, i_m1a, i_m1b, i_m1c, i_m1d, i_m1e, i_am1, i_ite0, k10, y10]
  have e11 : sR 269 (tn T) (some (tn T10)) (nA 20 7700 T10) = mkF (tn T) T10 (269, 20, 7700) := rfl
  rw [e11]
  obtain ⟨T11, h11⟩ : ∃ U, U = mkF (tn T) T10 (269, 20, 7700) := ⟨_, rfl⟩
  have t11 : tn T11 = tn T + 12 := by rw [h11, mkF_t, t10]
  have k11 : tK T11 (tn T) = 9 := by rw [h11, mkF_k (by omega)]; exact k10
  rw [← h11]
  have y11 : tK (nA 20 7700 T11) (tn T) = 9 := by rw [tK_nA, up1_e, if_neg (by omega)]; exact k11
  simp (disch := omega) only [ev_aload_n (M := MX7_init) (k := 0) rfl dX7_init_97 (pc' := 98) rfl, ev_sipush (M := MX7_init) (v := (nI 7700)) rfl dX7_init_98 (pc' := 101) rfl, ev_newa (M := MX7_init) (k := 20) rfl (by decide) dX7_init_101 (pc' := 103) rfl, ev_putR (M := MX7_init) (f := 270) (kk := 9) f_8_43 rfl rfl rfl rfl dX7_init_103 (pc' := 106) rfl, ev_putN (M := MX7_init) (f := 270) (kk := 9) f_8_43 rfl rfl rfl rfl dX7_init_103 (pc' := 106) rfl, lI_some, lR_ref, lR_null, lD_some, lget_cons, ldel_cons, ldel_nil, evR_v, evR_0, evR_x, vrf_s, vrf_n, Value.category, Nat.reduceEqDiff, Nat.reduceAdd, Nat.reduceSub, Nat.reduceMul, Nat.reduceLeDiff, reduceIte, if_true, if_false, or_self, or_false, false_or, or_true, true_or, and_self, and_true, true_and, and_false, false_and, not_true_eq_false, not_false_eq_true, List.length_cons, List.length_nil, Nat.zero_le, Nat.add_eq_zero_iff, Nat.succ_ne_zero, Nat.zero_add, Nat.add_zero, nle_t, nle_f, nlt_t, nlt_f, neq_t, neq_f, i_lt0, i_le0, i_0le, i_0lt, i_eq0, i_lt, i_le, i_eq, nI_add, i_sub, i_cl, i_m1a, i_m1b, i_m1c, i_m1d, i_m1e, i_am1, i_ite0, k11, y11]
  have e12 : sR 270 (tn T) (some (tn T11)) (nA 20 7700 T11) = mkF (tn T) T11 (270, 20, 7700) := rfl
  rw [e12]
  obtain ⟨T12, h12⟩ : ∃ U, U = mkF (tn T) T11 (270, 20, 7700) := ⟨_, rfl⟩
  have t12 : tn T12 = tn T + 13 := by rw [h12, mkF_t, t11]
  have k12 : tK T12 (tn T) = 9 := by rw [h12, mkF_k (by omega)]; exact k11
  rw [← h12]
  have y12 : tK (nA 20 7700 T12) (tn T) = 9 := by rw [tK_nA, up1_e, if_neg (by omega)]; exact k12
  simp (disch := omega) only [ev_aload_n (M := MX7_init) (k := 0) rfl dX7_init_106 (pc' := 107) rfl, ev_sipush (M := MX7_init) (v := (nI 7700)) rfl dX7_init_107 (pc' := 110) rfl, ev_newa (M := MX7_init) (k := 20) rfl (by decide) dX7_init_110 (pc' := 112) rfl, ev_putR (M := MX7_init) (f := 271) (kk := 9) f_8_46 rfl rfl rfl rfl dX7_init_112 (pc' := 115) rfl, ev_putN (M := MX7_init) (f := 271) (kk := 9) f_8_46 rfl rfl rfl rfl dX7_init_112 (pc' := 115) rfl, lI_some, lR_ref, lR_null, lD_some, lget_cons, ldel_cons, ldel_nil, evR_v, evR_0, evR_x, vrf_s, vrf_n, Value.category, Nat.reduceEqDiff, Nat.reduceAdd, Nat.reduceSub, Nat.reduceMul, Nat.reduceLeDiff, reduceIte, if_true, if_false, or_self, or_false, false_or, or_true, true_or, and_self, and_true, true_and, and_false, false_and, not_true_eq_false, not_false_eq_true, List.length_cons, List.length_nil, Nat.zero_le, Nat.add_eq_zero_iff, Nat.succ_ne_zero, Nat.zero_add, Nat.add_zero, nle_t, nle_f, nlt_t, nlt_f, neq_t, neq_f, i_lt0, i_le0, i_0le, i_0lt, i_eq0, i_lt, i_le, i_eq, nI_add, i_sub, i_cl, i_m1a, i_m1b, i_m1c, i_m1d, i_m1e, i_am1, i_ite0, k12, y12]
  have e13 : sR 271 (tn T) (some (tn T12)) (nA 20 7700 T12) = mkF (tn T) T12 (271, 20, 7700) := rfl
  rw [e13]
  obtain ⟨T13, h13⟩ : ∃ U, U = mkF (tn T) T12 (271, 20, 7700) := ⟨_, rfl⟩
  have t13 : tn T13 = tn T + 14 := by rw [h13, mkF_t, t12]
  have k13 : tK T13 (tn T) = 9 := by rw [h13, mkF_k (by omega)]; exact k12
  rw [← h13]
  have y13 : tK (nA 21 61500 T13) (tn T) = 9 := by rw [tK_nA, up1_e, if_neg (by omega)]; exact k13
  simp (disch := omega) only [ev_aload_n (M := MX7_init) (k := 0) rfl dX7_init_115 (pc' := 116) rfl, ev_ldc (M := MX7_init) rfl dX7_init_116 (pc' := 118) rfl, ev_newa (M := MX7_init) (k := 21) rfl (by decide) dX7_init_118 (pc' := 120) rfl, ev_putR (M := MX7_init) (f := 273) (kk := 9) f_8_50 rfl rfl rfl rfl dX7_init_120 (pc' := 123) rfl, ev_putN (M := MX7_init) (f := 273) (kk := 9) f_8_50 rfl rfl rfl rfl dX7_init_120 (pc' := 123) rfl, lI_some, lR_ref, lR_null, lD_some, lget_cons, ldel_cons, ldel_nil, evR_v, evR_0, evR_x, vrf_s, vrf_n, Value.category, Nat.reduceEqDiff, Nat.reduceAdd, Nat.reduceSub, Nat.reduceMul, Nat.reduceLeDiff, reduceIte, if_true, if_false, or_self, or_false, false_or, or_true, true_or, and_self, and_true, true_and, and_false, false_and, not_true_eq_false, not_false_eq_true, List.length_cons, List.length_nil, Nat.zero_le, Nat.add_eq_zero_iff, Nat.succ_ne_zero, Nat.zero_add, Nat.add_zero, nle_t, nle_f, nlt_t, nlt_f, neq_t, neq_f, i_lt0, i_le0, i_0le, i_0lt, i_eq0, i_lt, i_le, i_eq, nI_add, i_sub, i_cl, i_m1a, i_m1b, i_m1c, i_m1d, i_m1e, i_am1, i_ite0, k13, y13, e615]
  have e14 : sR 273 (tn T) (some (tn T13)) (nA 21 61500 T13) = mkF (tn T) T13 (273, 21, 61500) := rfl
  rw [e14]
  obtain ⟨T14, h14⟩ : ∃ U, U = mkF (tn T) T13 (273, 21, 61500) := ⟨_, rfl⟩
  have t14 : tn T14 = tn T + 15 := by rw [h14, mkF_t, t13]
  have k14 : tK T14 (tn T) = 9 := by rw [h14, mkF_k (by omega)]; exact k13
  rw [← h14]
  have y14 : tK (nA 20 4 T14) (tn T) = 9 := by rw [tK_nA, up1_e, if_neg (by omega)]; exact k14
  simp (disch := omega) only [ev_aload_n (M := MX7_init) (k := 0) rfl dX7_init_123 (pc' := 124) rfl, ev_iconst (M := MX7_init) (v := (nI 4)) rfl dX7_init_124 (pc' := 125) rfl, ev_newa (M := MX7_init) (k := 20) rfl (by decide) dX7_init_125 (pc' := 127) rfl, ev_putR (M := MX7_init) (f := 275) (kk := 9) f_8_54 rfl rfl rfl rfl dX7_init_127 (pc' := 130) rfl, ev_putN (M := MX7_init) (f := 275) (kk := 9) f_8_54 rfl rfl rfl rfl dX7_init_127 (pc' := 130) rfl, lI_some, lR_ref, lR_null, lD_some, lget_cons, ldel_cons, ldel_nil, evR_v, evR_0, evR_x, vrf_s, vrf_n, Value.category, Nat.reduceEqDiff, Nat.reduceAdd, Nat.reduceSub, Nat.reduceMul, Nat.reduceLeDiff, reduceIte, if_true, if_false, or_self, or_false, false_or, or_true, true_or, and_self, and_true, true_and, and_false, false_and, not_true_eq_false, not_false_eq_true, List.length_cons, List.length_nil, Nat.zero_le, Nat.add_eq_zero_iff, Nat.succ_ne_zero, Nat.zero_add, Nat.add_zero, nle_t, nle_f, nlt_t, nlt_f, neq_t, neq_f, i_lt0, i_le0, i_0le, i_0lt, i_eq0, i_lt, i_le, i_eq, nI_add, i_sub, i_cl, i_m1a, i_m1b, i_m1c, i_m1d, i_m1e, i_am1, i_ite0, k14, y14]
  have e15 : sR 275 (tn T) (some (tn T14)) (nA 20 4 T14) = mkF (tn T) T14 (275, 20, 4) := rfl
  rw [e15]
  obtain ⟨T15, h15⟩ : ∃ U, U = mkF (tn T) T14 (275, 20, 4) := ⟨_, rfl⟩
  have t15 : tn T15 = tn T + 16 := by rw [h15, mkF_t, t14]
  have k15 : tK T15 (tn T) = 9 := by rw [h15, mkF_k (by omega)]; exact k14
  rw [← h15]
  simp (disch := omega) only [ev_iconst (M := MX7_init) (v := (nI 0)) rfl dX7_init_130 (pc' := 131) rfl, ev_istore_n (M := MX7_init) (k := 1) rfl dX7_init_131 (by decide) (pc' := 132) rfl, lI_some, lR_ref, lR_null, lD_some, lget_cons, ldel_cons, ldel_nil, evR_v, evR_0, evR_x, vrf_s, vrf_n, Value.category, Nat.reduceEqDiff, Nat.reduceAdd, Nat.reduceSub, Nat.reduceMul, Nat.reduceLeDiff, reduceIte, if_true, if_false, or_self, or_false, false_or, or_true, true_or, and_self, and_true, true_and, and_false, false_and, not_true_eq_false, not_false_eq_true, List.length_cons, List.length_nil, Nat.zero_le, Nat.add_eq_zero_iff, Nat.succ_ne_zero, Nat.zero_add, Nat.add_zero, nle_t, nle_f, nlt_t, nlt_f, neq_t, neq_f, i_lt0, i_le0, i_0le, i_0lt, i_eq0, i_lt, i_le, i_eq, nI_add, i_sub, i_cl, i_m1a, i_m1b, i_m1c, i_m1d, i_m1e, i_am1, i_ite0]
  have eq : mkR (tn T) T0 L7 = T15 := by
    rw [h15, h14, h13, h12, h11, h10, h9, h8, h7, h6, h5, h4, h3, h2, h1]
    rfl
  rw [eq] at hq
  exact hq
theorem Z_i7b {k X : Nat} {Q : Post} (m1 : tK T X = 9) (hk : k < 20) (r2 : tR T 258 X = some (X + 2)) (k2 : tK T (X + 2) = 20) (l2 : tl T (X + 2) = 20) (hq : Ev d MX7_init [] 132 [(1, .int (nI (k + 1))), (0, .ref X)] [] (sA (X + 2) k (-1) T) Q) : Ev d MX7_init [] 132 [(1, .int (nI k)), (0, .ref X)] [] T Q := by
  rw [ev_iload_n (M := MX7_init) (k := 1) rfl dX7_init_132 (pc' := 133) rfl]
  simp (disch := omega) only [ev_bipush (M := MX7_init) (v := (nI 20)) rfl dX7_init_133 (pc' := 135) rfl, ev_icmp_ge (M := MX7_init) (t := 151) dX7_init_135 (by decide) (pc' := 138) rfl, ev_aload_n (M := MX7_init) (k := 0) rfl dX7_init_138 (pc' := 139) rfl, ev_getR (M := MX7_init) (f := 258) (kk := 9) f_8_13 rfl rfl rfl dX7_init_139 (pc' := 142) rfl, ev_iload_n (M := MX7_init) (k := 1) rfl dX7_init_142 (pc' := 143) rfl, ev_iconst (M := MX7_init) (v := (-1)) rfl dX7_init_143 (pc' := 144) rfl, ev_iast (M := MX7_init) dX7_init_144 (pc' := 145) rfl, ev_iinc (M := MX7_init) (v := (nI 1)) rfl dX7_init_145 (by decide) (pc' := 148) rfl, ev_goto (M := MX7_init) (pc' := 132) dX7_init_148 (by decide), lI_some, lR_ref, lR_null, lD_some, lget_cons, ldel_cons, ldel_nil, evR_v, evR_0, evR_x, vrf_s, vrf_n, Value.category, Nat.reduceEqDiff, Nat.reduceAdd, Nat.reduceSub, Nat.reduceMul, Nat.reduceLeDiff, reduceIte, if_true, if_false, or_self, or_false, false_or, or_true, true_or, and_self, and_true, true_and, and_false, false_and, not_true_eq_false, not_false_eq_true, List.length_cons, List.length_nil, Nat.zero_le, Nat.add_eq_zero_iff, Nat.succ_ne_zero, Nat.zero_add, Nat.add_zero, nle_t, nle_f, nlt_t, nlt_f, neq_t, neq_f, i_lt0, i_le0, i_0le, i_0lt, i_eq0, i_lt, i_le, i_eq, nI_add, i_sub, i_cl, i_m1a, i_m1b, i_m1c, i_m1d, i_m1e, i_am1, i_ite0, m1, r2, k2, l2]
  exact hq
theorem Z_i7c {X : Nat} {Q : Post} (hq : Ev d MX7_init [] 153 [(1, .int (nI 0)), (0, .ref X)] [] T Q) : Ev d MX7_init [] 132 [(1, .int (nI 20)), (0, .ref X)] [] T Q := by
  rw [ev_iload_n (M := MX7_init) (k := 1) rfl dX7_init_132 (pc' := 133) rfl]
  simp (disch := omega) only [ev_bipush (M := MX7_init) (v := (nI 20)) rfl dX7_init_133 (pc' := 135) rfl, ev_icmp_ge (M := MX7_init) (t := 151) dX7_init_135 (by decide) (pc' := 138) rfl, ev_iconst (M := MX7_init) (v := (nI 0)) rfl dX7_init_151 (pc' := 152) rfl, ev_istore_n (M := MX7_init) (k := 1) rfl dX7_init_152 (by decide) (pc' := 153) rfl, lI_some, lR_ref, lR_null, lD_some, lget_cons, ldel_cons, ldel_nil, evR_v, evR_0, evR_x, vrf_s, vrf_n, Value.category, Nat.reduceEqDiff, Nat.reduceAdd, Nat.reduceSub, Nat.reduceMul, Nat.reduceLeDiff, reduceIte, if_true, if_false, or_self, or_false, false_or, or_true, true_or, and_self, and_true, true_and, and_false, false_and, not_true_eq_false, not_false_eq_true, List.length_cons, List.length_nil, Nat.zero_le, Nat.add_eq_zero_iff, Nat.succ_ne_zero, Nat.zero_add, Nat.add_zero, nle_t, nle_f, nlt_t, nlt_f, neq_t, neq_f, i_lt0, i_le0, i_0le, i_0lt, i_eq0, i_lt, i_le, i_eq, nI_add, i_sub, i_cl, i_m1a, i_m1b, i_m1c, i_m1d, i_m1e, i_am1, i_ite0]
  exact hq
theorem Z_i7d {k X : Nat} {Q : Post} (m1 : tK T X = 9) (hk : k < 4) (r2 : tR T 275 X = some (X + 15)) (k2 : tK T (X + 15) = 20) (l2 : tl T (X + 15) = 4) (hq : Ev d MX7_init [] 153 [(1, .int (nI (k + 1))), (0, .ref X)] [] (sA (X + 15) k (-1) T) Q) : Ev d MX7_init [] 153 [(1, .int (nI k)), (0, .ref X)] [] T Q := by
  rw [ev_iload_n (M := MX7_init) (k := 1) rfl dX7_init_153 (pc' := 154) rfl]
  simp (disch := omega) only [ev_iconst (M := MX7_init) (v := (nI 4)) rfl dX7_init_154 (pc' := 155) rfl, ev_icmp_ge (M := MX7_init) (t := 171) dX7_init_155 (by decide) (pc' := 158) rfl, ev_aload_n (M := MX7_init) (k := 0) rfl dX7_init_158 (pc' := 159) rfl, ev_getR (M := MX7_init) (f := 275) (kk := 9) f_8_54 rfl rfl rfl dX7_init_159 (pc' := 162) rfl, ev_iload_n (M := MX7_init) (k := 1) rfl dX7_init_162 (pc' := 163) rfl, ev_iconst (M := MX7_init) (v := (-1)) rfl dX7_init_163 (pc' := 164) rfl, ev_iast (M := MX7_init) dX7_init_164 (pc' := 165) rfl, ev_iinc (M := MX7_init) (v := (nI 1)) rfl dX7_init_165 (by decide) (pc' := 168) rfl, ev_goto (M := MX7_init) (pc' := 153) dX7_init_168 (by decide), lI_some, lR_ref, lR_null, lD_some, lget_cons, ldel_cons, ldel_nil, evR_v, evR_0, evR_x, vrf_s, vrf_n, Value.category, Nat.reduceEqDiff, Nat.reduceAdd, Nat.reduceSub, Nat.reduceMul, Nat.reduceLeDiff, reduceIte, if_true, if_false, or_self, or_false, false_or, or_true, true_or, and_self, and_true, true_and, and_false, false_and, not_true_eq_false, not_false_eq_true, List.length_cons, List.length_nil, Nat.zero_le, Nat.add_eq_zero_iff, Nat.succ_ne_zero, Nat.zero_add, Nat.add_zero, nle_t, nle_f, nlt_t, nlt_f, neq_t, neq_f, i_lt0, i_le0, i_0le, i_0lt, i_eq0, i_lt, i_le, i_eq, nI_add, i_sub, i_cl, i_m1a, i_m1b, i_m1c, i_m1d, i_m1e, i_am1, i_ite0, m1, r2, k2, l2]
  exact hq
theorem Z_i7e {X : Nat} {Q : Post} (hq : Q (.inl none) T) : Ev d MX7_init [] 153 [(1, .int (nI 4)), (0, .ref X)] [] T Q := by
  rw [ev_iload_n (M := MX7_init) (k := 1) rfl dX7_init_153 (pc' := 154) rfl]
  simp (disch := omega) only [ev_iconst (M := MX7_init) (v := (nI 4)) rfl dX7_init_154 (pc' := 155) rfl, ev_icmp_ge (M := MX7_init) (t := 171) dX7_init_155 (by decide) (pc' := 158) rfl, ev_vret (M := MX7_init) rfl dX7_init_171, lI_some, lR_ref, lR_null, lD_some, lget_cons, ldel_cons, ldel_nil, evR_v, evR_0, evR_x, vrf_s, vrf_n, Value.category, Nat.reduceEqDiff, Nat.reduceAdd, Nat.reduceSub, Nat.reduceMul, Nat.reduceLeDiff, reduceIte, if_true, if_false, or_self, or_false, false_or, or_true, true_or, and_self, and_true, true_and, and_false, false_and, not_true_eq_false, not_false_eq_true, List.length_cons, List.length_nil, Nat.zero_le, Nat.add_eq_zero_iff, Nat.succ_ne_zero, Nat.zero_add, Nat.add_zero, nle_t, nle_f, nlt_t, nlt_f, neq_t, neq_f, i_lt0, i_le0, i_0le, i_0lt, i_eq0, i_lt, i_le, i_eq, nI_add, i_sub, i_cl, i_m1a, i_m1b, i_m1c, i_m1d, i_m1e, i_am1, i_ite0]
  exact hq
/-- the slots of the reference -/
def S7 : Nat := NN 8 + (L7.map (fun q => q.2.2)).sum
theorem S7_le : S7 ≤ 98073 := by decide +kernel
theorem U7_a (hw : wf T) : tn (mkR (tn T) (nO 8 T) L7) = tn T + 16 ∧ tu (mkR (tn T) (nO 8 T) L7) = tu T + S7 ∧ wf (mkR (tn T) (nO 8 T) L7) ∧ tK (mkR (tn T) (nO 8 T) L7) (tn T) = 9 ∧ (∀ f, tI (mkR (tn T) (nO 8 T) L7) f (tn T) = nI 0) ∧ ∀ a, tK T a ≠ 0 → cell (mkR (tn T) (nO 8 T) L7) a = cell T a := by
  have f1 := fr_nO (W := fun _ => False) (c := 8) hw
  have t0 : tn (nO 8 T) = tn T + 1 := rfl
  have k0 : tK (nO 8 T) (tn T) = 9 := by rw [tK_nO, up1_e, if_pos rfl]
  obtain ⟨a1, a2, a3, a4, a5, -, -⟩ := mkR_is (X := tn T) L7 (nO 8 T) (by omega) f1.ok (by decide)
  refine ⟨?_, ?_, a3, ?_, fun f => ?_, fun a ha => ?_⟩
  · rw [a1, t0]; rfl
  · rw [a2, tu_nO, Nat.add_assoc]; rfl
  · rw [(a4 (tn T) (by omega)).1]; exact k0
  · rw [a5, tI_nO]
    show (if tn T = tn T then (0 : Int32) else _) = _
    rw [if_pos rfl]
    rfl
  · have h1 : a < tn T := by
      by_cases q : a < tn T
      · exact q
      · exact absurd (hw a (by omega)) ha
    rw [(a4 a (by omega)).2 (by omega)]
    exact ce_nO (by omega)
theorem U7_b (hw : wf T) : ∀ i (h : i < 15), tK (mkR (tn T) (nO 8 T) L7) (tn T + (i + 1)) = (L7[i]'h).2.1 ∧ tl (mkR (tn T) (nO 8 T) L7) (tn T + (i + 1)) = (L7[i]'h).2.2 ∧ (∀ j, tA (mkR (tn T) (nO 8 T) L7) (tn T + (i + 1)) j = 0) ∧ tR (mkR (tn T) (nO 8 T) L7) (L7[i]'h).1 (tn T) = some (tn T + (i + 1)) := by
  have f1 := fr_nO (W := fun _ => False) (c := 8) hw
  have t0 : tn (nO 8 T) = tn T + 1 := rfl
  obtain ⟨-, -, -, -, -, -, a7⟩ := mkR_is (X := tn T) L7 (nO 8 T) (by omega) f1.ok (by decide)
  intro i h
  have := a7 i h
  rw [t0, show tn T + 1 + i = tn T + (i + 1) by omega] at this
  exact this
theorem U7_m (hw : wf T) : mdl (mkR (tn T) (nO 8 T) L7) (tn T) := by
  have m1 := (U7_a hw).2.2.2.1
  have b := U7_b hw
  generalize mkR (tn T) (nO 8 T) L7 = U at *
  refine ⟨m1, ?_, ?_, ?_⟩
  · exact ⟨(b 0 (by decide)).2.2.2, (b 1 (by decide)).2.2.2, (b 2 (by decide)).2.2.2, (b 3 (by decide)).2.2.2, (b 4 (by decide)).2.2.2, (b 5 (by decide)).2.2.2, (b 6 (by decide)).2.2.2, (b 7 (by decide)).2.2.2, (b 8 (by decide)).2.2.2, (b 9 (by decide)).2.2.2, (b 10 (by decide)).2.2.2, (b 11 (by decide)).2.2.2, (b 12 (by decide)).2.2.2, (b 13 (by decide)).2.2.2, (b 14 (by decide)).2.2.2⟩
  · exact ⟨(b 0 (by decide)).1, (b 1 (by decide)).1, (b 2 (by decide)).1, (b 3 (by decide)).1, (b 4 (by decide)).1, (b 5 (by decide)).1, (b 6 (by decide)).1, (b 7 (by decide)).1, (b 8 (by decide)).1, (b 9 (by decide)).1, (b 10 (by decide)).1, (b 11 (by decide)).1, (b 12 (by decide)).1, (b 13 (by decide)).1, (b 14 (by decide)).1⟩
  · exact ⟨(b 0 (by decide)).2.1, (b 1 (by decide)).2.1, (b 2 (by decide)).2.1, (b 3 (by decide)).2.1, (b 4 (by decide)).2.1, (b 5 (by decide)).2.1, (b 6 (by decide)).2.1, (b 7 (by decide)).2.1, (b 8 (by decide)).2.1, (b 9 (by decide)).2.1, (b 10 (by decide)).2.1, (b 11 (by decide)).2.1, (b 12 (by decide)).2.1, (b 13 (by decide)).2.1, (b 14 (by decide)).2.1⟩
theorem U7_MR {U P : TS} {X : Nat} {vf vn : Nat → Nat} {vb ve : Nat → List Nat} {vp : Nat → Option Nat} {bx sf : Nat → Nat} {cb : Nat → List Nat} (hmdl : mdl U X) (hms3 : ms X U P) (hI : ∀ f, tI P f X = nI 0) (h2 : ∀ j, j < 20 → tA P (X + 2) j = -1) (h9 : ∀ j, tA P (X + 9) j = nI 0) (h15 : ∀ j, j < 4 → tA P (X + 15) j = -1) : MR P X [] [] vf vn vb ve vp (fun _ => 0) [] bx sf cb 0 0 0 [] 0 0 := by
  have hl0 : ∀ i, i < ([] : List Nat).length → False := fun i hi => Nat.not_lt_zero i hi
  refine ⟨hmdl.ms hms3, ⟨hI 256, Nat.zero_le _, fun i hi => (hl0 i hi).elim⟩, fun k hk => ⟨fun q => absurd q List.not_mem_nil, fun _ => h2 k hk⟩, fun i hi => ⟨h9 i, Nat.le_of_ble_eq_true rfl⟩, ⟨hI 266, Nat.zero_le _, fun i hi => (hl0 i hi).elim, fun n hn => absurd hn List.not_mem_nil⟩, ⟨Nat.zero_le _, fun i hi => ?_⟩, ⟨hI 267, hI 272, hI 274, hI 276, hI 277⟩, Nat.zero_le _, Nat.le_of_ble_eq_true rfl, Nat.le_of_ble_eq_true rfl, Nat.le_of_ble_eq_true rfl, Nat.le_of_ble_eq_true rfl, fun k hk => absurd hk List.not_mem_nil, fun k hk => absurd hk List.not_mem_nil⟩
  rw [if_neg (fun q => hl0 i q)]
  exact h15 i (by omega)
end IN7
