/-! ratio, both sides -/
def DNN : Prop := ∀ x y : Int32, y ≠ 0 → FP.ddiv (FP.i2d x) (FP.i2d y) &&& 0x7fffffffffffffff ≤ 0x7ff0000000000000
section RAT
variable {d S X m o L : Nat} {xs : Nat → Int32} {n0 u0 c D : Nat} {va ba ca : Nat → Nat} {dr kl : List Nat} {vf vn : Nat → Nat} {vb ve : Nat → List Nat} {vp : Nat → Option Nat} {nx : Nat → Nat} {sv : Nat} {cb : Nat → List Nat} {us : Nat → Nat} {bl cs : List Nat} {co : Nat → List Nat} {op hi re st : Nat} {rw : List Nat} {bx sf : Nat → Nat} {ud : Nat} {T T' T1 : TS}
/-- the ratio's bits -/
def rtW (a b : Nat) : UInt64 := if b = 0 then FP.dconst0 else FP.ddiv (FP.i2d (nI a)) (FP.i2d (nI b))
theorem dnn_n (hD : DNN) {a b : Nat} (hb : b < 1000000) (h0 : ¬ b = 0) : FP.ddiv (FP.i2d (nI a)) (FP.i2d (nI b)) &&& 0x7fffffffffffffff ≤ 0x7ff0000000000000 := hD _ _ (fun e => by
  have := i_eq0 (a := b) (by omega)
  rw [this] at e
  exact h0 e)
theorem R_ratio (hD : DNN) (h : XR T X va ba ca dr kl vf vn vb ve vp nx sv cb us bl co op cs hi re st) (hb : (bl.map (fun k => byS cb (co k))).sum < 1000000) : Call (d + 4) 116 [.ref X] T (.inl (some (.double (rtW (kl.map (fun k => (vb k).length)).sum (bl.map (fun k => byS cb (co k))).sum)))) T := by
  have c1 := C_filledBytes (d := d) h.2.2.2.2.1
  have c2 := R_savedBytes (d := d) h
  have k5 := h.2.2.2.2.1.1.1
  obtain ⟨⟨x1, x2, x3, x4, x5, x6, x7⟩, -⟩ := h
  refine Call_of ?_
  unfold rtW
  by_cases e : (bl.map (fun k => byS cb (co k))).sum = 0
  · rw [if_pos e]
    simp (disch := omega) only [ev_aload_n (M := MX6_ratio) (k := 0) rfl dX6_ratio_0 (pc' := 1) rfl, ev_getR (M := MX6_ratio) (f := 227) (kk := 8) f_7_32 rfl rfl rfl dX6_ratio_1 (pc' := 4) rfl, ev_cV0 (M := MX6_ratio) (kk := 6) dX6_ratio_4 c_7_218 mX4_filledBytes rfl rfl (by decide) rfl (pc' := 7) rfl, ev_istore_n (M := MX6_ratio) (k := 1) rfl dX6_ratio_7 (by decide) (pc' := 8) rfl, ev_iload_n (M := MX6_ratio) (k := 1) rfl dX6_ratio_8 (pc' := 9) rfl, ev_if_ne (M := MX6_ratio) (t := 14) dX6_ratio_9 (by decide) (pc' := 12) rfl, ev_dconst0 (M := MX6_ratio) dX6_ratio_12 (pc' := 13) rfl, ev_dret (M := MX6_ratio) rfl dX6_ratio_13, ev_aload_n (M := MX6_ratio) (k := 0) rfl dX6_ratio_14 (pc' := 15) rfl, ev_cV0 (M := MX6_ratio) (kk := 8) dX6_ratio_15 c_7_224 mX6_savedBytes rfl rfl (by decide) rfl (pc' := 18) rfl, ev_i2d (M := MX6_ratio) dX6_ratio_18 (pc' := 19) rfl, ev_iload_n (M := MX6_ratio) (k := 1) rfl dX6_ratio_19 (pc' := 20) rfl, ev_i2d (M := MX6_ratio) dX6_ratio_20 (pc' := 21) rfl, ev_ddiv (M := MX6_ratio) dX6_ratio_21 (pc' := 22) rfl, ev_dret (M := MX6_ratio) rfl dX6_ratio_22, uX6_ratio, lI_some, lR_ref, lR_null, lD_some, lget_cons, ldel_cons, ldel_nil, evR_v, evR_0, evR_x, vrf_s, vrf_n, Value.category, Nat.reduceEqDiff, Nat.reduceAdd, Nat.reduceSub, Nat.reduceMul, Nat.reduceLeDiff, reduceIte, if_true, if_false, or_self, or_false, false_or, or_true, true_or, and_self, and_true, true_and, and_false, false_and, not_true_eq_false, not_false_eq_true, List.length_cons, List.length_nil, Nat.zero_le, Nat.add_eq_zero_iff, Nat.succ_ne_zero, Nat.zero_add, Nat.add_zero, nle_t, nle_f, nlt_t, nlt_f, neq_t, neq_f, i_lt0, i_le0, i_0le, i_0lt, i_eq0, i_lt, i_le, i_eq, nI_add, i_sub, i_cl, i_m1a, i_m1b, i_m1c, i_m1d, i_m1e, i_am1, i_ite0, x1, x5, k5, cq c1, cq c2, e]
  · rw [if_neg e]
    have hdn := dnn_n hD (a := (kl.map (fun k => (vb k).length)).sum) hb e
    generalize (bl.map (fun k => byS cb (co k))).sum = s at *
    simp (disch := omega) only [ev_aload_n (M := MX6_ratio) (k := 0) rfl dX6_ratio_0 (pc' := 1) rfl, ev_getR (M := MX6_ratio) (f := 227) (kk := 8) f_7_32 rfl rfl rfl dX6_ratio_1 (pc' := 4) rfl, ev_cV0 (M := MX6_ratio) (kk := 6) dX6_ratio_4 c_7_218 mX4_filledBytes rfl rfl (by decide) rfl (pc' := 7) rfl, ev_istore_n (M := MX6_ratio) (k := 1) rfl dX6_ratio_7 (by decide) (pc' := 8) rfl, ev_iload_n (M := MX6_ratio) (k := 1) rfl dX6_ratio_8 (pc' := 9) rfl, ev_if_ne (M := MX6_ratio) (t := 14) dX6_ratio_9 (by decide) (pc' := 12) rfl, ev_dconst0 (M := MX6_ratio) dX6_ratio_12 (pc' := 13) rfl, ev_dret (M := MX6_ratio) rfl dX6_ratio_13, ev_aload_n (M := MX6_ratio) (k := 0) rfl dX6_ratio_14 (pc' := 15) rfl, ev_cV0 (M := MX6_ratio) (kk := 8) dX6_ratio_15 c_7_224 mX6_savedBytes rfl rfl (by decide) rfl (pc' := 18) rfl, ev_i2d (M := MX6_ratio) dX6_ratio_18 (pc' := 19) rfl, ev_iload_n (M := MX6_ratio) (k := 1) rfl dX6_ratio_19 (pc' := 20) rfl, ev_i2d (M := MX6_ratio) dX6_ratio_20 (pc' := 21) rfl, ev_ddiv (M := MX6_ratio) dX6_ratio_21 (pc' := 22) rfl, ev_dret (M := MX6_ratio) rfl dX6_ratio_22, uX6_ratio, lI_some, lR_ref, lR_null, lD_some, lget_cons, ldel_cons, ldel_nil, evR_v, evR_0, evR_x, vrf_s, vrf_n, Value.category, Nat.reduceEqDiff, Nat.reduceAdd, Nat.reduceSub, Nat.reduceMul, Nat.reduceLeDiff, reduceIte, if_true, if_false, or_self, or_false, false_or, or_true, true_or, and_self, and_true, true_and, and_false, false_and, not_true_eq_false, not_false_eq_true, List.length_cons, List.length_nil, Nat.zero_le, Nat.add_eq_zero_iff, Nat.succ_ne_zero, Nat.zero_add, Nat.add_zero, nle_t, nle_f, nlt_t, nlt_f, neq_t, neq_f, i_lt0, i_le0, i_0le, i_0lt, i_eq0, i_lt, i_le, i_eq, nI_add, i_sub, i_cl, i_m1a, i_m1b, i_m1c, i_m1d, i_m1e, i_am1, i_ite0, x1, x5, k5, cq c1, cq c2, e, hdn]
theorem N_ratio (hD : DNN) (h : MR T m dr kl vf vn vb ve vp nx rw bx sf cb ud st op cs hi re) (hb : byS cb rw < 1000000) : Call (d + 2) 192 [.ref m] T (.inl (some (.double (rtW (sm (fun k => if k ∈ kl then (vb k).length else 0) 20) (byS cb rw))))) (sI 278 m (nI 0) T) := by
  have m1 := h.1.1
  have h' := h.th (v := nI 0)
  have c1 := C_allBytes (d := d) h'
  have c2 := C_allSaved (d := d) h'
  have m1' := h'.1.1
  refine Call_of ?_
  unfold rtW
  by_cases e : byS cb rw = 0
  · rw [if_pos e]
    simp (disch := omega) only [ev_aload_n (M := MX7_ratio) (k := 0) rfl dX7_ratio_0 (pc' := 1) rfl, ev_iconst (M := MX7_ratio) (v := (nI 0)) rfl dX7_ratio_1 (pc' := 2) rfl, ev_putI (M := MX7_ratio) (f := 278) (kk := 9) f_8_57 rfl rfl rfl rfl dX7_ratio_2 (pc' := 5) rfl, ev_aload_n (M := MX7_ratio) (k := 0) rfl dX7_ratio_5 (pc' := 6) rfl, ev_cV0 (M := MX7_ratio) (kk := 9) dX7_ratio_6 c_8_159 mX7_allBytes rfl rfl (by decide) rfl (pc' := 9) rfl, ev_if_ne (M := MX7_ratio) (t := 16) dX7_ratio_9 (by decide) (pc' := 12) rfl, ev_dconst0 (M := MX7_ratio) dX7_ratio_12 (pc' := 13) rfl, ev_goto (M := MX7_ratio) (pc' := 27) dX7_ratio_13 (by decide), ev_aload_n (M := MX7_ratio) (k := 0) rfl dX7_ratio_16 (pc' := 17) rfl, ev_cV0 (M := MX7_ratio) (kk := 9) dX7_ratio_17 c_8_162 mX7_allSaved rfl rfl (by decide) rfl (pc' := 20) rfl, ev_i2d (M := MX7_ratio) dX7_ratio_20 (pc' := 21) rfl, ev_aload_n (M := MX7_ratio) (k := 0) rfl dX7_ratio_21 (pc' := 22) rfl, ev_cV0 (M := MX7_ratio) (kk := 9) dX7_ratio_22 c_8_159 mX7_allBytes rfl rfl (by decide) rfl (pc' := 25) rfl, ev_i2d (M := MX7_ratio) dX7_ratio_25 (pc' := 26) rfl, ev_ddiv (M := MX7_ratio) dX7_ratio_26 (pc' := 27) rfl, ev_dret (M := MX7_ratio) rfl dX7_ratio_27, uX7_ratio, lI_some, lR_ref, lR_null, lD_some, lget_cons, ldel_cons, ldel_nil, evR_v, evR_0, evR_x, vrf_s, vrf_n, Value.category, Nat.reduceEqDiff, Nat.reduceAdd, Nat.reduceSub, Nat.reduceMul, Nat.reduceLeDiff, reduceIte, if_true, if_false, or_self, or_false, false_or, or_true, true_or, and_self, and_true, true_and, and_false, false_and, not_true_eq_false, not_false_eq_true, List.length_cons, List.length_nil, Nat.zero_le, Nat.add_eq_zero_iff, Nat.succ_ne_zero, Nat.zero_add, Nat.add_zero, nle_t, nle_f, nlt_t, nlt_f, neq_t, neq_f, i_lt0, i_le0, i_0le, i_0lt, i_eq0, i_lt, i_le, i_eq, nI_add, i_sub, i_cl, i_m1a, i_m1b, i_m1c, i_m1d, i_m1e, i_am1, i_ite0, m1, m1', cq c1, cq c2, e]
  · rw [if_neg e]
    have hdn := dnn_n hD (a := sm (fun k => if k ∈ kl then (vb k).length else 0) 20) hb e
    generalize byS cb rw = s at *
    simp (disch := omega) only [ev_aload_n (M := MX7_ratio) (k := 0) rfl dX7_ratio_0 (pc' := 1) rfl, ev_iconst (M := MX7_ratio) (v := (nI 0)) rfl dX7_ratio_1 (pc' := 2) rfl, ev_putI (M := MX7_ratio) (f := 278) (kk := 9) f_8_57 rfl rfl rfl rfl dX7_ratio_2 (pc' := 5) rfl, ev_aload_n (M := MX7_ratio) (k := 0) rfl dX7_ratio_5 (pc' := 6) rfl, ev_cV0 (M := MX7_ratio) (kk := 9) dX7_ratio_6 c_8_159 mX7_allBytes rfl rfl (by decide) rfl (pc' := 9) rfl, ev_if_ne (M := MX7_ratio) (t := 16) dX7_ratio_9 (by decide) (pc' := 12) rfl, ev_dconst0 (M := MX7_ratio) dX7_ratio_12 (pc' := 13) rfl, ev_goto (M := MX7_ratio) (pc' := 27) dX7_ratio_13 (by decide), ev_aload_n (M := MX7_ratio) (k := 0) rfl dX7_ratio_16 (pc' := 17) rfl, ev_cV0 (M := MX7_ratio) (kk := 9) dX7_ratio_17 c_8_162 mX7_allSaved rfl rfl (by decide) rfl (pc' := 20) rfl, ev_i2d (M := MX7_ratio) dX7_ratio_20 (pc' := 21) rfl, ev_aload_n (M := MX7_ratio) (k := 0) rfl dX7_ratio_21 (pc' := 22) rfl, ev_cV0 (M := MX7_ratio) (kk := 9) dX7_ratio_22 c_8_159 mX7_allBytes rfl rfl (by decide) rfl (pc' := 25) rfl, ev_i2d (M := MX7_ratio) dX7_ratio_25 (pc' := 26) rfl, ev_ddiv (M := MX7_ratio) dX7_ratio_26 (pc' := 27) rfl, ev_dret (M := MX7_ratio) rfl dX7_ratio_27, uX7_ratio, lI_some, lR_ref, lR_null, lD_some, lget_cons, ldel_cons, ldel_nil, evR_v, evR_0, evR_x, vrf_s, vrf_n, Value.category, Nat.reduceEqDiff, Nat.reduceAdd, Nat.reduceSub, Nat.reduceMul, Nat.reduceLeDiff, reduceIte, if_true, if_false, or_self, or_false, false_or, or_true, true_or, and_self, and_true, true_and, and_false, false_and, not_true_eq_false, not_false_eq_true, List.length_cons, List.length_nil, Nat.zero_le, Nat.add_eq_zero_iff, Nat.succ_ne_zero, Nat.zero_add, Nat.add_zero, nle_t, nle_f, nlt_t, nlt_f, neq_t, neq_f, i_lt0, i_le0, i_0le, i_0lt, i_eq0, i_lt, i_le, i_eq, nI_add, i_sub, i_cl, i_m1a, i_m1b, i_m1c, i_m1d, i_m1e, i_am1, i_ite0, m1, m1', cq c1, cq c2, e, hdn]
/-- ratio on both sides -/
def BD (S X m o L : Nat) (xs : Nat → Int32) (n0 u0 c D : Nat) (T : TS) : Prop := ∃ w T2, Call D 116 [.ref X] T (.inl (some (.double w))) T ∧ Call D 192 [.ref m] T (.inl (some (.double w))) T2 ∧ LI S X m o L xs n0 u0 (c + 1) T2
theorem T_ratio (hD : DNN) (h : LI S X m o L xs n0 u0 c T) (hc : c < 512) : BD S X m o L xs n0 u0 c 9 T := by
  obtain ⟨va, ba, ca, dr, kl, vf, vn, vb, ve, vp, nx, sv, cb, us, bl, co, op, cs, hi, re, st, rw, bx, sf, ud, h⟩ := h
  have hw := h.2.2.2.2.2.1.1
  have hK := h.2.2.1
  have hS := h.2.2.2.1
  have hb := (hS.op h.2.2.2.2.1.lim.1).2.2.1
  have e := hS.1.bytes cb
  dsimp only at e
  obtain ⟨r1, r2, r3, r4⟩ := h.rd (fr.rf hw) (Nat.zero_le _) (Nat.zero_le _)
  have c1 := Call_up (d' := 9) (R_ratio (d := 0) hD r1 (by omega)) (by decide)
  have c2 := Call_up (d' := 9) (N_ratio (d := 0) hD r2 (by omega)) (by decide)
  rw [hK.saved, ← e] at c2
  exact ⟨_, _, c1, c2, LI.mk r1 r3 r4 r2.1 ms.sI r2.th hK hS (h.2.2.2.2.1.next hc)⟩
end RAT
