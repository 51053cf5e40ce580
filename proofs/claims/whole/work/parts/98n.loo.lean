/-! the law: its loop, its entry -/
section LOO
variable {d S X m o L : Nat} {xs : Nat → Int32} {n0 u0 c i n : Nat} {T : TS} {Q : Post}
theorem and63 (a : Int32) : ∃ n, n < 64 ∧ a &&& nI 63 = nI n := by
  refine ⟨(a &&& nI 63).toBitVec.toNat, ?_, ?_⟩
  · rw [Int32.toBitVec_and, BitVec.toNat_and]
    exact Nat.lt_succ_of_le Nat.and_le_right
  · refine Int32.toBitVec_inj.mp ?_
    show _ = (Int32.ofNat _).toBitVec
    rw [Int32.toBitVec_ofNat', BitVec.ofNat_toNat, BitVec.setWidth_eq]
theorem LI.skip (h : LI S X m o L xs n0 u0 c T) (hc : c < 512) : LI S X m o L xs n0 u0 (c + 1) T := by
  obtain ⟨va, ba, ca, dr, kl, vf, vn, vb, ve, vp, nx, sv, cb, us, bl, co, op, cs, hi, re, st, rw, bx, sf, ud, h⟩ := h
  obtain ⟨r1, r2, r3, r4⟩ := h.rd (fr.rf h.2.2.2.2.2.1.1) (Nat.zero_le _) (Nat.zero_le _)
  exact LI.mk r1 r3 r4 r2.1 ms.rf r2 h.2.2.1 h.2.2.2.1 (h.2.2.2.2.1.next hc)
theorem LI.room (h : LI S X m o L xs n0 u0 c T) : tn T ≤ n0 + 180000 ∧ tu T ≤ u0 + 6130000 := by
  obtain ⟨va, ba, ca, dr, kl, vf, vn, vb, ve, vp, nx, sv, cb, us, bl, co, op, cs, hi, re, st, rw, bx, sf, ud, h1, h2, h3, h4, h5, h6, h7, h8⟩ := h
  have a1 := (h4.op h5.lim.1).1
  have a2 := gcl_le (tc T (ba op + 1))
  have a3 := gsl_le (tc T (ba op + 1))
  have a4 := h5.2.2.2.2.2.2.2
  exact ⟨by omega, by omega⟩
theorem Lhead (h : LI S X m o L xs n0 u0 c T) (hi5 : i + 5 ≤ L) (hL : L ≤ 2560) (hn : xs i &&& nI 63 = nI n) (hq : Ev 10 ML_law [] 39 (L0 i o m X S) [.int (nI n)] T Q) : Ev 10 ML_law [] 23 (L0 i o m X S) [] T Q := by
  obtain ⟨⟨o1, ⟨o2, o3⟩, o4, o5, o6⟩, m9, x8⟩ := h.os
  unfold L0 at hq ⊢
  clear h
  simp (disch := omega) only [ev_iload (M := ML_law) dL_law_23 (pc' := 25) rfl, ev_aload_n (M := ML_law) (k := 0) rfl dL_law_25 (pc' := 26) rfl, ev_alen (M := ML_law) dL_law_26 (pc' := 27) rfl, ev_iconst (M := ML_law) (v := (nI 5)) rfl dL_law_27 (pc' := 28) rfl, ev_isub (M := ML_law) dL_law_28 (pc' := 29) rfl, ev_icmp_gt (M := ML_law) (t := 1920) dL_law_29 (by decide) (pc' := 32) rfl, ev_aload_n (M := ML_law) (k := 0) rfl dL_law_32 (pc' := 33) rfl, ev_iload (M := ML_law) dL_law_33 (pc' := 35) rfl, ev_iald (M := ML_law) dL_law_35 (pc' := 36) rfl, ev_bipush (M := ML_law) (v := (nI 63)) rfl dL_law_36 (pc' := 38) rfl, ev_iand (M := ML_law) dL_law_38 (pc' := 39) rfl, lI_some, lR_ref, lR_null, lD_some, lget_cons, ldI_ne, ldI_eq, ldR_ne, ldR_eq, ldD_ne, ldel_nil, evR_v, evR_0, evR_x, vrf_s, vrf_n, Value.category, Nat.reduceEqDiff, Nat.reduceAdd, Nat.reduceSub, Nat.reduceMul, Nat.reduceLeDiff, reduceIte, if_true, if_false, or_self, or_false, false_or, or_true, true_or, and_self, and_true, true_and, and_false, false_and, not_true_eq_false, not_false_eq_true, List.length_cons, List.length_nil, Nat.zero_le, Nat.add_eq_zero_iff, Nat.succ_ne_zero, Nat.zero_add, Nat.add_zero, nle_t, nle_f, nlt_t, nlt_f, neq_t, neq_f, i_lt0, i_le0, i_0le, i_0lt, i_eq0, i_lt, i_le, i_eq, nI_add, i_sub, i_cl, i_m1a, i_m1b, i_m1c, i_m1d, i_m1e, i_am1, i_ite0, o4, o5, o6, hn]
  exact hq
theorem Lexit (h : LI S X m o L xs n0 u0 c T) (hi5 : ¬ i + 5 ≤ L) (hL : L ≤ 2560) (hi : i ≤ 2560) (hq : Q (.inl (some (.int (nI 1)))) T) : Ev 10 ML_law [] 23 (L0 i o m X S) [] T Q := by
  obtain ⟨⟨o1, ⟨o2, o3⟩, o4, o5, o6⟩, m9, x8⟩ := h.os
  unfold L0
  clear h
  by_cases e : 5 ≤ L
  · simp (disch := omega) only [ev_iload (M := ML_law) dL_law_23 (pc' := 25) rfl, ev_aload_n (M := ML_law) (k := 0) rfl dL_law_25 (pc' := 26) rfl, ev_alen (M := ML_law) dL_law_26 (pc' := 27) rfl, ev_iconst (M := ML_law) (v := (nI 5)) rfl dL_law_27 (pc' := 28) rfl, ev_isub (M := ML_law) dL_law_28 (pc' := 29) rfl, ev_icmp_gt (M := ML_law) (t := 1920) dL_law_29 (by decide) (pc' := 32) rfl, ev_iconst (M := ML_law) (v := (nI 1)) rfl dL_law_1920 (pc' := 1921) rfl, ev_zretI (M := ML_law) rfl dL_law_1921, lI_some, lR_ref, lR_null, lD_some, lget_cons, ldI_ne, ldI_eq, ldR_ne, ldR_eq, ldD_ne, ldel_nil, evR_v, evR_0, evR_x, vrf_s, vrf_n, Value.category, Nat.reduceEqDiff, Nat.reduceAdd, Nat.reduceSub, Nat.reduceMul, Nat.reduceLeDiff, reduceIte, if_true, if_false, or_self, or_false, false_or, or_true, true_or, and_self, and_true, true_and, and_false, false_and, not_true_eq_false, not_false_eq_true, List.length_cons, List.length_nil, Nat.zero_le, Nat.add_eq_zero_iff, Nat.succ_ne_zero, Nat.zero_add, Nat.add_zero, nle_t, nle_f, nlt_t, nlt_f, neq_t, neq_f, i_lt0, i_le0, i_0le, i_0lt, i_eq0, i_lt, i_le, i_eq, nI_add, i_sub, i_cl, i_m1a, i_m1b, i_m1c, i_m1d, i_m1e, i_am1, i_ite0, o4, o5, o6]
    exact hq
  · have hlt : nI L - nI 5 < nI i := Int32.lt_of_lt_of_le (i_subneg (by omega) (by decide)) (nI_pos' (by omega))
    have hlt' : (nI L - nI 5 < nI i) = True := eq_true hlt
    simp (disch := omega) only [ev_iload (M := ML_law) dL_law_23 (pc' := 25) rfl, ev_aload_n (M := ML_law) (k := 0) rfl dL_law_25 (pc' := 26) rfl, ev_alen (M := ML_law) dL_law_26 (pc' := 27) rfl, ev_iconst (M := ML_law) (v := (nI 5)) rfl dL_law_27 (pc' := 28) rfl, ev_isub (M := ML_law) dL_law_28 (pc' := 29) rfl, ev_icmp_gt (M := ML_law) (t := 1920) dL_law_29 (by decide) (pc' := 32) rfl, ev_iconst (M := ML_law) (v := (nI 1)) rfl dL_law_1920 (pc' := 1921) rfl, ev_zretI (M := ML_law) rfl dL_law_1921, lI_some, lR_ref, lR_null, lD_some, lget_cons, ldI_ne, ldI_eq, ldR_ne, ldR_eq, ldD_ne, ldel_nil, evR_v, evR_0, evR_x, vrf_s, vrf_n, Value.category, Nat.reduceEqDiff, Nat.reduceAdd, Nat.reduceSub, Nat.reduceMul, Nat.reduceLeDiff, reduceIte, if_true, if_false, or_self, or_false, false_or, or_true, true_or, and_self, and_true, true_and, and_false, false_and, not_true_eq_false, not_false_eq_true, List.length_cons, List.length_nil, Nat.zero_le, Nat.add_eq_zero_iff, Nat.succ_ne_zero, Nat.zero_add, Nat.add_zero, nle_t, nle_f, nlt_t, nlt_f, o4, o5, o6, hlt']
    exact hq
theorem Lnext (hq : Ev 10 ML_law [] 23 (L0 (i + 5) o m X S) [] T Q) : Ev 10 ML_law [] 1914 (L0 i o m X S) [] T Q := by
  unfold L0 at hq ⊢
  simp (disch := omega) only [ev_iinc (M := ML_law) (v := (nI 5)) rfl dL_law_1914 (by decide) (pc' := 1917) rfl, ev_goto (M := ML_law) (pc' := 23) dL_law_1917 (by decide), lI_some, lR_ref, lR_null, lD_some, lget_cons, ldI_ne, ldI_eq, ldR_ne, ldR_eq, ldD_ne, ldel_nil, evR_v, evR_0, evR_x, vrf_s, vrf_n, Value.category, Nat.reduceEqDiff, Nat.reduceAdd, Nat.reduceSub, Nat.reduceMul, Nat.reduceLeDiff, reduceIte, if_true, if_false, or_self, or_false, false_or, or_true, true_or, and_self, and_true, true_and, and_false, false_and, not_true_eq_false, not_false_eq_true, List.length_cons, List.length_nil, Nat.zero_le, Nat.add_eq_zero_iff, Nat.succ_ne_zero, Nat.zero_add, Nat.add_zero, nle_t, nle_f, nlt_t, nlt_f, neq_t, neq_f, i_lt0, i_le0, i_0le, i_0lt, i_eq0, i_lt, i_le, i_eq, nI_add, i_sub, i_cl, i_m1a, i_m1b, i_m1c, i_m1d, i_m1e, i_am1, i_ite0]
  exact hq
theorem Lcase (hD : DNN) (h : LI S X m o L xs n0 u0 c T) (hc : c < 512) (hi5 : i + 5 ≤ L) (hL : L ≤ 2560) (hn : n < 64) (hq : gon S X m o L xs n0 u0 c i Q) : Ev 10 ML_law [] 39 (L0 i o m X S) [.int (nI n)] T Q := by
  have hz : n = 0 ∨ n = 1 ∨ n = 2 ∨ n = 3 ∨ n = 4 ∨ n = 5 ∨ n = 6 ∨ n = 7 ∨ n = 8 ∨ n = 9 ∨ n = 10 ∨ n = 11 ∨ n = 12 ∨ n = 13 ∨ n = 14 ∨ n = 15 ∨ n = 16 ∨ n = 17 ∨ n = 18 ∨ n = 19 ∨ n = 20 ∨ n = 21 ∨ n = 22 ∨ n = 23 ∨ n = 24 ∨ n = 25 ∨ n = 26 ∨ n = 27 ∨ n = 28 ∨ n = 29 ∨ n = 30 ∨ n = 31 ∨ n = 32 ∨ n = 33 ∨ n = 34 ∨ n = 35 ∨ n = 36 ∨ n = 37 ∨ n = 38 ∨ n = 39 ∨ n = 40 ∨ n = 41 ∨ n = 42 ∨ n = 43 ∨ n = 44 ∨ n = 45 ∨ n = 46 ∨ n = 47 ∨ n = 48 ∨ n = 49 ∨ n = 50 ∨ n = 51 ∨ n = 52 ∨ n = 53 ∨ n = 54 ∨ n = 55 ∨ n = 56 ∨ n = 57 ∨ n = 58 ∨ n = 59 ∨ n = 60 ∨ n = 61 ∨ n = 62 ∨ n = 63 := by omega
  rcases hz with rfl | rfl | rfl | rfl | rfl | rfl | rfl | rfl | rfl | rfl | rfl | rfl | rfl | rfl | rfl | rfl | rfl | rfl | rfl | rfl | rfl | rfl | rfl | rfl | rfl | rfl | rfl | rfl | rfl | rfl | rfl | rfl | rfl | rfl | rfl | rfl | rfl | rfl | rfl | rfl | rfl | rfl | rfl | rfl | rfl | rfl | rfl | rfl | rfl | rfl | rfl | rfl | rfl | rfl | rfl | rfl | rfl | rfl | rfl | rfl | rfl | rfl | rfl | rfl
  · exact (ev_tsw (M := ML_law) dL_law_39 (t := 200) rfl).mpr (K0 h hc hi5 hL hq)
  · exact (ev_tsw (M := ML_law) dL_law_39 (t := 280) rfl).mpr (K1 h hc hi5 hL hq)
  · exact (ev_tsw (M := ML_law) dL_law_39 (t := 372) rfl).mpr (K2 h hc hi5 hL hq)
  · exact (ev_tsw (M := ML_law) dL_law_39 (t := 440) rfl).mpr (K3 h hc hi5 hL hq)
  · exact (ev_tsw (M := ML_law) dL_law_39 (t := 508) rfl).mpr (K4 h hc hi5 hL hq)
  · exact (ev_tsw (M := ML_law) dL_law_39 (t := 521) rfl).mpr (K5 h hc hi5 hL hq)
  · exact (ev_tsw (M := ML_law) dL_law_39 (t := 534) rfl).mpr (K6 h hc hi5 hL hq)
  · exact (ev_tsw (M := ML_law) dL_law_39 (t := 590) rfl).mpr (K7 h hc hi5 hL hq)
  · exact (ev_tsw (M := ML_law) dL_law_39 (t := 646) rfl).mpr (K8 h hc hi5 hL hq)
  · exact (ev_tsw (M := ML_law) dL_law_39 (t := 659) rfl).mpr (K9 h hc hi5 hL hq)
  · exact (ev_tsw (M := ML_law) dL_law_39 (t := 727) rfl).mpr (K10 h hc hi5 hL hq)
  · exact (ev_tsw (M := ML_law) dL_law_39 (t := 740) rfl).mpr (K11 h hc hi5 hL hq)
  · exact (ev_tsw (M := ML_law) dL_law_39 (t := 753) rfl).mpr (K12 h hc hi5 hL hq)
  · exact (ev_tsw (M := ML_law) dL_law_39 (t := 828) rfl).mpr (K13 h hc hi5 hL hq)
  · exact (ev_tsw (M := ML_law) dL_law_39 (t := 884) rfl).mpr (K14 h hc hi5 hL hq)
  · exact (ev_tsw (M := ML_law) dL_law_39 (t := 952) rfl).mpr (K15 h hc hi5 hL hq)
  · exact (ev_tsw (M := ML_law) dL_law_39 (t := 1032) rfl).mpr (K16 h hc hi5 hL hq)
  · exact (ev_tsw (M := ML_law) dL_law_39 (t := 1112) rfl).mpr (K17 h hc hi5 hL hq)
  · exact (ev_tsw (M := ML_law) dL_law_39 (t := 1180) rfl).mpr (K18 h hc hi5 hL hq)
  · exact (ev_tsw (M := ML_law) dL_law_39 (t := 1260) rfl).mpr (K19 h hc hi5 hL hq)
  · exact (ev_tsw (M := ML_law) dL_law_39 (t := 1328) rfl).mpr (K20 h hc hi5 hL hq)
  · exact (ev_tsw (M := ML_law) dL_law_39 (t := 1396) rfl).mpr (K21 h hc hi5 hL hq)
  · exact (ev_tsw (M := ML_law) dL_law_39 (t := 1464) rfl).mpr (K22 h hc hi5 hL hq)
  · exact (ev_tsw (M := ML_law) dL_law_39 (t := 1489) rfl).mpr (K23 h hc hi5 hL hq)
  · exact (ev_tsw (M := ML_law) dL_law_39 (t := 1502) rfl).mpr (K24 h hc hi5 hL hq)
  · exact (ev_tsw (M := ML_law) dL_law_39 (t := 1558) rfl).mpr (K25 h hc hi5 hL hq)
  · exact (ev_tsw (M := ML_law) dL_law_39 (t := 1614) rfl).mpr (K26 h hc hi5 hL hq)
  · exact (ev_tsw (M := ML_law) dL_law_39 (t := 1670) rfl).mpr (K27 h hc hi5 hL hq)
  · exact (ev_tsw (M := ML_law) dL_law_39 (t := 1726) rfl).mpr (K28 h hc hi5 hL hq)
  · exact (ev_tsw (M := ML_law) dL_law_39 (t := 1739) rfl).mpr (K29 h hc hi5 hL hq)
  · exact (ev_tsw (M := ML_law) dL_law_39 (t := 1752) rfl).mpr (K30 h hc hi5 hL hq)
  · exact (ev_tsw (M := ML_law) dL_law_39 (t := 1808) rfl).mpr (K31 h hc hi5 hL hq)
  · exact (ev_tsw (M := ML_law) dL_law_39 (t := 1821) rfl).mpr (K32 h hc hi5 hL hq)
  · exact (ev_tsw (M := ML_law) dL_law_39 (t := 1834) rfl).mpr (K33 h hc hi5 hL hq)
  · exact (ev_tsw (M := ML_law) dL_law_39 (t := 1847) rfl).mpr (K34 h hc hi5 hL hq)
  · exact (ev_tsw (M := ML_law) dL_law_39 (t := 1860) rfl).mpr (K35 h hc hi5 hL hq)
  · exact (ev_tsw (M := ML_law) dL_law_39 (t := 1873) rfl).mpr (K36 hD h hc hi5 hL hq)
  · exact (ev_tsw (M := ML_law) dL_law_39 (t := 1914) rfl).mpr (hq T (h.skip hc))
  · exact (ev_tsw (M := ML_law) dL_law_39 (t := 1914) rfl).mpr (hq T (h.skip hc))
  · exact (ev_tsw (M := ML_law) dL_law_39 (t := 1914) rfl).mpr (hq T (h.skip hc))
  · exact (ev_tsw (M := ML_law) dL_law_39 (t := 1914) rfl).mpr (hq T (h.skip hc))
  · exact (ev_tsw (M := ML_law) dL_law_39 (t := 1914) rfl).mpr (hq T (h.skip hc))
  · exact (ev_tsw (M := ML_law) dL_law_39 (t := 1914) rfl).mpr (hq T (h.skip hc))
  · exact (ev_tsw (M := ML_law) dL_law_39 (t := 1914) rfl).mpr (hq T (h.skip hc))
  · exact (ev_tsw (M := ML_law) dL_law_39 (t := 1914) rfl).mpr (hq T (h.skip hc))
  · exact (ev_tsw (M := ML_law) dL_law_39 (t := 1914) rfl).mpr (hq T (h.skip hc))
  · exact (ev_tsw (M := ML_law) dL_law_39 (t := 1914) rfl).mpr (hq T (h.skip hc))
  · exact (ev_tsw (M := ML_law) dL_law_39 (t := 1914) rfl).mpr (hq T (h.skip hc))
  · exact (ev_tsw (M := ML_law) dL_law_39 (t := 1914) rfl).mpr (hq T (h.skip hc))
  · exact (ev_tsw (M := ML_law) dL_law_39 (t := 1914) rfl).mpr (hq T (h.skip hc))
  · exact (ev_tsw (M := ML_law) dL_law_39 (t := 1914) rfl).mpr (hq T (h.skip hc))
  · exact (ev_tsw (M := ML_law) dL_law_39 (t := 1914) rfl).mpr (hq T (h.skip hc))
  · exact (ev_tsw (M := ML_law) dL_law_39 (t := 1914) rfl).mpr (hq T (h.skip hc))
  · exact (ev_tsw (M := ML_law) dL_law_39 (t := 1914) rfl).mpr (hq T (h.skip hc))
  · exact (ev_tsw (M := ML_law) dL_law_39 (t := 1914) rfl).mpr (hq T (h.skip hc))
  · exact (ev_tsw (M := ML_law) dL_law_39 (t := 1914) rfl).mpr (hq T (h.skip hc))
  · exact (ev_tsw (M := ML_law) dL_law_39 (t := 1914) rfl).mpr (hq T (h.skip hc))
  · exact (ev_tsw (M := ML_law) dL_law_39 (t := 1914) rfl).mpr (hq T (h.skip hc))
  · exact (ev_tsw (M := ML_law) dL_law_39 (t := 1914) rfl).mpr (hq T (h.skip hc))
  · exact (ev_tsw (M := ML_law) dL_law_39 (t := 1914) rfl).mpr (hq T (h.skip hc))
  · exact (ev_tsw (M := ML_law) dL_law_39 (t := 1914) rfl).mpr (hq T (h.skip hc))
  · exact (ev_tsw (M := ML_law) dL_law_39 (t := 1914) rfl).mpr (hq T (h.skip hc))
  · exact (ev_tsw (M := ML_law) dL_law_39 (t := 1914) rfl).mpr (hq T (h.skip hc))
  · exact (ev_tsw (M := ML_law) dL_law_39 (t := 1914) rfl).mpr (hq T (h.skip hc))
theorem law_loop (hD : DNN) (hL : L ≤ 2560) (hQ : ∀ c T, LI S X m o L xs n0 u0 c T → Q (.inl (some (.int (nI 1)))) T) : ∀ n c T, c + n = 512 → LI S X m o L xs n0 u0 c T → Ev 10 ML_law [] 23 (L0 (5 * c) o m X S) [] T Q := by
  intro n
  induction n with
  | zero =>
    intro c T hc h
    exact Lexit h (by omega) hL (by omega) (hQ c T h)
  | succ n ih =>
    intro c T hc h
    by_cases hi5 : 5 * c + 5 ≤ L
    · obtain ⟨k, hk, e⟩ := and63 (xs (5 * c))
      exact Lhead h hi5 hL e (Lcase hD h (by omega) hi5 hL hk (fun T' h' => Lnext (ih (c + 1) T' (by omega) h')))
    · exact Lexit h hi5 hL (by omega) (hQ c T h)
/-- nothing is held yet -/
theorem SI_0 {us : Nat → Nat} {ve cb : Nat → List Nat} {bx : Nat → Nat} : SI (uO [] ve) us cb [0] (fun _ => []) 0 [] [] bx 0 0 := by
  refine ⟨⟨?_, fun k _ => rfl, fun n hn => absurd hn List.not_mem_nil⟩, List.nodup_nil, fun n hn => absurd hn List.not_mem_nil, fun n hn => absurd hn List.not_mem_nil, Nat.le_refl _, fun k => Nat.zero_le _, fun k hk => absurd hk List.not_mem_nil⟩
  show [0] = (List.range 1).filter _
  rw [List.range_one, List.filter_cons, if_pos (decide_eq_true (Or.inl rfl))]
  rfl
theorem LI_0 {ba : Nat → Nat} (hX : XR T X (fun _ => 0) ba (fun _ => 0) [] [] (fun _ => 0) (fun _ => 0) (fun _ => []) (fun _ => []) (fun _ => none) (fun _ => 0) 0 (fun _ => []) (fun _ => 0) [0] (fun _ => []) 0 [] 0 0 0) (hM : MR T m [] [] (fun _ => 0) (fun _ => 0) (fun _ => []) (fun _ => []) (fun _ => none) (fun _ => 0) [] (fun _ => 0) (fun _ => 0) (fun _ => []) 0 0 0 [] 0 0) (hO : OS m o S L xs T) (h1 : tn T ≤ n0) (h2 : tu T ≤ u0) : LI S X m o L xs n0 u0 0 T := by
  refine ⟨_, ba, _, _, _, _, _, _, _, _, _, _, _, _, _, _, _, _, _, _, _, _, _, fun _ => 0, _, hX, hM, ⟨List.nodup_nil, fun k hk => absurd hk List.not_mem_nil, List.Pairwise.nil, fun k hk => absurd hk List.not_mem_nil, fun k hk => absurd hk List.not_mem_nil, fun k hk => absurd hk List.not_mem_nil, fun k hk => absurd hk List.not_mem_nil⟩, SI_0, ⟨Nat.le_refl _, fun q => absurd (fun q hq => ?_) q, Nat.le_refl _, fun q => absurd (fun q hq => ?_) q, Nat.le_refl _, fun i => Nat.le_refl _, Nat.le_refl _, by decide⟩, hO, ⟨by omega, by omega⟩⟩
  all_goals exact absurd hq (by rw [cuts_nil (by decide)]; exact List.not_mem_nil)
theorem law_entry (hD : DNN) (hw : wf T) (k26 : tK T S = 26) (l26 : tl T S = L) (a26 : tA T S = xs) (hL : L ≤ 2560) (hQ : ∀ c T', LI S (tn T) (tn T + 11) (tn T + 27) L xs (tn T + 28) (tu T + (284 + S7 + 1)) c T' → Q (.inl (some (.int (nI 1)))) T') : Ev 10 ML_law [] 0 [(0, .ref S)] [] T Q := by
  obtain ⟨_, T1, c1, rfl, x1, t1, F1⟩ := C_X6_init (d := 5) (ca := fun _ => 0) (us := fun _ => 0) (cb := fun _ => []) (va := fun _ => 0) (vf := fun _ => 0) (vn := fun _ => 0) (vb := fun _ => []) (ve := fun _ => []) (vp := fun _ => none) hw
  obtain ⟨_, T2, c2, rfl, m2, t2, F2⟩ := C_X7_init (d := 9) (vf := fun _ => 0) (vn := fun _ => 0) (vb := fun _ => []) (ve := fun _ => []) (vp := fun _ => none) (bx := fun _ => 0) (sf := fun _ => 0) (cb := fun _ => []) F1.ok
  have F3 := fr_nA (W := fun _ => False) (k := 22) (n := 1) F2.ok
  rw [t1] at c2 m2 t2
  have x3 := (x1.nw F2).nw F3
  have m3 := m2.fr (o := 0) (S := 0) off_no F3
  have FF := (F1.th F2).th F3
  have eS : cell (nA 22 1 T2) S = cell T S := FF.ce (k := 25) k26 (fun q => q)
  have hO : OS (tn T + 11) (tn T + 27) S L xs (nA 22 1 T2) := by
    refine ⟨F3.ok, ⟨?_, ?_⟩, by rw [ce_K eS]; exact k26, by rw [ce_l eS]; exact l26, by rw [ce_A eS]; exact a26⟩
    · rw [tK_nA, up1_e, if_pos t2.symm]
    · rw [tl_nA, up1_e, if_pos t2.symm]
  have hLI := LI_0 (n0 := tn T + 28) (u0 := tu T + (284 + S7 + 1)) x3 m3 hO (by rw [tn_nA, t2]; omega) (by
    have := FF.2.2.2.2.1
    exact this)
  have t2' : tn T2 = tn T + 27 := t2
  have hg := law_loop hD hL hQ 512 0 _ rfl hLI
  rw [Nat.mul_zero] at hg
  unfold L0 at hg
  have kS1 : tK T1 S = 26 := by rw [ce_K (F1.ce (k := 25) k26 (fun q => q))]; exact k26
  clear hLI hO FF x3 m3 x1 m2 F1 F2 F3 eS hQ
  simp (disch := omega) only [ev_new (M := ML_law) (c := 7) k_9_8 (by decide) dL_law_0 (pc' := 3) rfl, ev_dupI (M := ML_law) dL_law_3 (pc' := 4) rfl, ev_dupR (M := ML_law) dL_law_3 (pc' := 4) rfl, ev_cI0 (M := ML_law) dL_law_4 c_9_86 mX6_init rfl rfl (pc' := 7) rfl, lI_some, lR_ref, lR_null, lD_some, lget_cons, ldI_ne, ldI_eq, ldR_ne, ldR_eq, ldD_ne, ldel_nil, evR_v, evR_0, evR_x, vrf_s, vrf_n, Value.category, Nat.reduceEqDiff, Nat.reduceAdd, Nat.reduceSub, Nat.reduceMul, Nat.reduceLeDiff, reduceIte, if_true, if_false, or_self, or_false, false_or, or_true, true_or, and_self, and_true, true_and, and_false, false_and, not_true_eq_false, not_false_eq_true, List.length_cons, List.length_nil, Nat.zero_le, Nat.add_eq_zero_iff, Nat.succ_ne_zero, Nat.zero_add, Nat.add_zero, nle_t, nle_f, nlt_t, nlt_f, neq_t, neq_f, i_lt0, i_le0, i_0le, i_0lt, i_eq0, i_lt, i_le, i_eq, nI_add, i_sub, i_cl, i_m1a, i_m1b, i_m1c, i_m1d, i_m1e, i_am1, i_ite0, cq c1]
  simp (disch := omega) only [ev_astore_n (M := ML_law) (k := 1) rfl dL_law_7 (by decide) (pc' := 8) rfl, ev_astore_nN (M := ML_law) (k := 1) rfl dL_law_7 (by decide) (pc' := 8) rfl, ev_new (M := ML_law) (c := 8) k_9_87 (by decide) dL_law_8 (pc' := 11) rfl, ev_dupI (M := ML_law) dL_law_11 (pc' := 12) rfl, ev_dupR (M := ML_law) dL_law_11 (pc' := 12) rfl, ev_cI0 (M := ML_law) dL_law_12 c_9_89 mX7_init rfl rfl (pc' := 15) rfl, lI_some, lR_ref, lR_null, lD_some, lget_cons, ldI_ne, ldI_eq, ldR_ne, ldR_eq, ldD_ne, ldel_nil, evR_v, evR_0, evR_x, vrf_s, vrf_n, Value.category, Nat.reduceEqDiff, Nat.reduceAdd, Nat.reduceSub, Nat.reduceMul, Nat.reduceLeDiff, reduceIte, if_true, if_false, or_self, or_false, false_or, or_true, true_or, and_self, and_true, true_and, and_false, false_and, not_true_eq_false, not_false_eq_true, List.length_cons, List.length_nil, Nat.zero_le, Nat.add_eq_zero_iff, Nat.succ_ne_zero, Nat.zero_add, Nat.add_zero, nle_t, nle_f, nlt_t, nlt_f, neq_t, neq_f, i_lt0, i_le0, i_0le, i_0lt, i_eq0, i_lt, i_le, i_eq, nI_add, i_sub, i_cl, i_m1a, i_m1b, i_m1c, i_m1d, i_m1e, i_am1, i_ite0, t1, cq c2]
  simp (disch := omega) only [ev_astore_n (M := ML_law) (k := 2) rfl dL_law_15 (by decide) (pc' := 16) rfl, ev_astore_nN (M := ML_law) (k := 2) rfl dL_law_15 (by decide) (pc' := 16) rfl, ev_iconst (M := ML_law) (v := (nI 1)) rfl dL_law_16 (pc' := 17) rfl, ev_newa (M := ML_law) (k := 22) rfl (by decide) dL_law_17 (pc' := 19) rfl, ev_astore_n (M := ML_law) (k := 3) rfl dL_law_19 (by decide) (pc' := 20) rfl, ev_astore_nN (M := ML_law) (k := 3) rfl dL_law_19 (by decide) (pc' := 20) rfl, ev_iconst (M := ML_law) (v := (nI 0)) rfl dL_law_20 (pc' := 21) rfl, ev_istore (M := ML_law) dL_law_21 (by decide) (pc' := 23) rfl, lI_some, lR_ref, lR_null, lD_some, lget_cons, ldI_ne, ldI_eq, ldR_ne, ldR_eq, ldD_ne, ldel_nil, evR_v, evR_0, evR_x, vrf_s, vrf_n, Value.category, Nat.reduceEqDiff, Nat.reduceAdd, Nat.reduceSub, Nat.reduceMul, Nat.reduceLeDiff, reduceIte, if_true, if_false, or_self, or_false, false_or, or_true, true_or, and_self, and_true, true_and, and_false, false_and, not_true_eq_false, not_false_eq_true, List.length_cons, List.length_nil, Nat.zero_le, Nat.add_eq_zero_iff, Nat.succ_ne_zero, Nat.zero_add, Nat.add_zero, nle_t, nle_f, nlt_t, nlt_f, neq_t, neq_f, i_lt0, i_le0, i_0le, i_0lt, i_eq0, i_lt, i_le, i_eq, nI_add, i_sub, i_cl, i_m1a, i_m1b, i_m1c, i_m1d, i_m1e, i_am1, i_ite0, t2']
  exact hg
end LOO
