/-! DedupVault and its shelf, made -/
section INI
variable {d : Nat} {ca us : Nat → Nat} {cb : Nat → List Nat} {T : TS}
theorem C_X4_init (hw : wf T) : CallQ (d + 4) 44 [.ref (tn T)] (nO 5 T) (fun q T' => q = .inl none ∧ SH T' (tn T) (fun _ => tn T + 3) ca cb us [0] (fun _ => []) 0 [] 0 0 0 ∧ tn T' = tn T + 6 ∧ fr (fun _ => False) 6 28 T T') := by
  have f1 := fr_nO (W := fun a => a = tn T) (c := 5) hw
  obtain ⟨T1, hT1⟩ : ∃ T1, T1 = nO 5 T := ⟨_, rfl⟩
  rw [← hT1] at f1
  have t1 : tn T1 = tn T + 1 := by rw [hT1]; rfl
  have k1 : tK T1 (tn T) = 6 := by rw [hT1, tK_nO, up1_e, if_pos rfl]
  have F2 := newList_fr (W := fun a => a = tn T) f1.ok
  have l2 := lok_new T1
  have F2' := F2.th (fr_sR (W := fun a => a = tn T) (f := 160) (a := tn T) (v := some (tn T + 1)) F2.ok rfl)
  obtain ⟨T2, hT2⟩ : ∃ T2, T2 = sR 160 (tn T) (some (tn T + 1)) (newList T1) := ⟨_, rfl⟩
  rw [← hT2] at F2'
  have t2 : tn T2 = tn T + 2 := by rw [hT2]; show tn T1 + 1 = _; omega
  have cv2 : cell (newList T1) (tn T) = cell T1 (tn T) := (newList_fr (W := fun _ => False) f1.ok).ce k1 (fun q => q)
  have k2 : tK T2 (tn T) = 6 := by rw [hT2, tK_sR, ce_K cv2]; exact k1
  have r2 : tR T2 160 (tn T) = some (tn T + 1) := by rw [hT2, tR_sR, up2_e, if_pos ⟨rfl, rfl⟩]
  rw [t1] at l2
  have l2' : lok T2 (tn T + 1) [] := l2.of (by rw [hT2, ce_sR (by omega)])
  have F3 := newList_fr (W := fun a => a = tn T) F2'.ok
  have l3 := lok_new T2
  have F3' := F3.th (fr_sR (W := fun a => a = tn T) (f := 161) (a := tn T) (v := some (tn T + 2)) F3.ok rfl)
  obtain ⟨T3, hT3⟩ : ∃ T3, T3 = sR 161 (tn T) (some (tn T + 2)) (newList T2) := ⟨_, rfl⟩
  rw [← hT3] at F3'
  have t3 : tn T3 = tn T + 3 := by rw [hT3]; show tn T2 + 1 = _; omega
  have cv3 : cell (newList T2) (tn T) = cell T2 (tn T) := (newList_fr (W := fun _ => False) F2'.ok).ce k2 (fun q => q)
  have k3 : tK T3 (tn T) = 6 := by rw [hT3, tK_sR, ce_K cv3]; exact k2
  have r3 : tR T3 160 (tn T) = some (tn T + 1) := by rw [hT3, tR_sR, up2_e, if_neg (by omega), ce_R cv3]; exact r2
  have r3b : tR T3 161 (tn T) = some (tn T + 2) := by rw [hT3, tR_sR, up2_e, if_pos ⟨rfl, rfl⟩]
  rw [t2] at l3
  have l3' : lok T3 (tn T + 2) [] := l3.of (by rw [hT3, ce_sR (by omega)])
  have l3a : lok T3 (tn T + 1) [] := l2'.of (F3'.ce l2'.1 (by omega))
  obtain ⟨b1, b2, b3, b4, b5, b6⟩ := newBox_is (k := 0) (ca := ca) F3'.ok
  rw [t3] at b1 b2 b3 b4 b5
  have F4 := b6.wd (W' := fun a => a = tn T) (Nat.le_refl _) (Nat.le_refl _) (fun _ _ q => q.elim)
  have F4' := F4.th (fr_sR (W := fun a => a = tn T) (f := 162) (a := tn T) (v := some (tn T + 3)) F4.ok rfl)
  obtain ⟨T4, hT4⟩ : ∃ T4, T4 = sR 162 (tn T) (some (tn T + 3)) (newBox 0 T3) := ⟨_, rfl⟩
  rw [← hT4] at F4'
  have t4 : tn T4 = tn T + 5 := by rw [hT4]; exact b5
  have cv4 : cell (newBox 0 T3) (tn T) = cell T3 (tn T) := b6.ce k3 (fun q => q)
  have c4 : ∀ a, a ≠ tn T → cell T4 a = cell (newBox 0 T3) a := fun a ha => by rw [hT4, ce_sR ha]
  have k4 : tK T4 (tn T) = 6 := by rw [hT4, tK_sR, ce_K cv4]; exact k3
  have r4 : tR T4 160 (tn T) = some (tn T + 1) := by rw [hT4, tR_sR, up2_e, if_neg (by omega), ce_R cv4]; exact r3
  have r4b : tR T4 161 (tn T) = some (tn T + 2) := by rw [hT4, tR_sR, up2_e, if_neg (by omega), ce_R cv4]; exact r3b
  have r4c : tR T4 162 (tn T) = some (tn T + 3) := by rw [hT4, tR_sR, up2_e, if_pos ⟨rfl, rfl⟩]
  have l4a : lok T4 (tn T + 1) [] := l3a.of (F4'.ce l3a.1 (by omega))
  have l4b : lok T4 (tn T + 2) [] := l3'.of (F4'.ce l3'.1 (by omega))
  have e43 := c4 (tn T + 3) (by omega)
  have e44 := c4 (tn T + 4) (by omega)
  have kb4 : tK T4 (tn T + 3) = 3 := by rw [ce_K e43]; exact b1.1
  obtain ⟨l5, g1, g2, F5⟩ := lok_ch (ys := [] ++ [tn T + 3]) F4'.ok l4a (by decide) rfl
  have z5 : tc T4 (tn T + 1) = 0 := by
    have x1 : tc T2 (tn T + 1) = 0 := by
      rw [hT2, tc_sR, ← t1]; exact (newList_is T1).2.2
    rw [ce_c (F4'.ce l3a.1 (by omega)), ce_c (F3'.ce l2'.1 (by omega))]
    exact x1
  have fq : fit (tn T + 1) T4 = gL (tn T + 1) 10 T4 := by
    unfold fit
    rw [l4a.2.1, z5, if_pos (show ([] : List Nat).length = 0 from rfl)]
    rfl
  have n5 : tn (sL (tn T + 1) ([] ++ [tn T + 3]) (fit (tn T + 1) T4)) = tn T + 6 := by rw [tn_sL, fq, tn_gL, t4]
  have u5 : tu (sL (tn T + 1) ([] ++ [tn T + 3]) (fit (tn T + 1) T4)) = tu T4 + 10 := by rw [tu_sL, fq, tu_gL]
  have w5 : wf (sL (tn T + 1) ([] ++ [tn T + 3]) (fit (tn T + 1) T4)) := F5.ok
  have x5 : ∀ a, a ≠ tn T + 1 → tK T4 a ≠ 0 → cell (sL (tn T + 1) ([] ++ [tn T + 3]) (fit (tn T + 1) T4)) a = cell T4 a := fun a ha hk => F5.2.2.2.2.2 a hk ha
  obtain ⟨T5, hT5⟩ : ∃ T5, T5 = sL (tn T + 1) ([] ++ [tn T + 3]) (fit (tn T + 1) T4) := ⟨_, rfl⟩
  rw [← hT5] at l5 n5 u5 w5 x5
  have key : ∀ Q : Post, Q (.inl none) (sI 165 (tn T) (nI 0) (sI 164 (tn T) (nI 0) (sI 163 (tn T) (nI 0) T5))) → CallQ (d + 4) 44 [.ref (tn T)] (nO 5 T) Q := by
    intro Q hQ
    have c := C_X1_init (d := d + 1) (k := 0) (T := T3)
    rw [t3] at c
    have y5 : tK T5 (tn T) = 6 := by rw [ce_K (x5 _ (by omega) (by rw [k4]; decide))]; exact k4
    have hl4 := l4a.is
    have hy4 := hT4.symm
    have hy5 := hT5.symm
    have hy2 := hT2.symm
    have hy3 := hT3.symm
    clear F2 F2' F3 F3' F4 F4' F5 f1 b1 b2 b3 b4 b5 b6 l2 l2' l3 l3' l3a l4b x5 c4 e43 e44 g1 g2 l5
    rw [← hT1]
    have yk2 : tK (newList T1) (tn T) = 6 := by rw [ce_K cv2]; exact k1
    have yk3 : tK (newList T2) (tn T) = 6 := by rw [ce_K cv3]; exact k2
    have yk4 : tK (newBox 0 T3) (tn T) = 6 := by rw [ce_K cv4]; exact k3
    simp (disch := omega) only [ev_aload_n (M := MX4_init) (k := 0) rfl dX4_init_0 (pc' := 1) rfl, ev_objInit (M := MX4_init) (mid := 0) c_5_3 dX4_init_1 (pc' := 4) rfl, ev_aload_n (M := MX4_init) (k := 0) rfl dX4_init_4 (pc' := 5) rfl, ev_new (M := MX4_init) (c := 0) k_5_9 (by decide) dX4_init_5 (pc' := 8) rfl, ev_dupI (M := MX4_init) dX4_init_8 (pc' := 9) rfl, ev_dupR (M := MX4_init) dX4_init_8 (pc' := 9) rfl, ev_cI0 (M := MX4_init) dX4_init_9 c_5_11 mJx4a65c_init_da8c8 rfl rfl (pc' := 12) rfl, ev_putR (M := MX4_init) (f := 160) (kk := 6) f_5_12 rfl rfl rfl rfl dX4_init_12 (pc' := 15) rfl, ev_putN (M := MX4_init) (f := 160) (kk := 6) f_5_12 rfl rfl rfl rfl dX4_init_12 (pc' := 15) rfl, ev_aload_n (M := MX4_init) (k := 0) rfl dX4_init_15 (pc' := 16) rfl, ev_new (M := MX4_init) (c := 0) k_5_9 (by decide) dX4_init_16 (pc' := 19) rfl, ev_dupI (M := MX4_init) dX4_init_19 (pc' := 20) rfl, ev_dupR (M := MX4_init) dX4_init_19 (pc' := 20) rfl, ev_cI0 (M := MX4_init) dX4_init_20 c_5_11 mJx4a65c_init_da8c8 rfl rfl (pc' := 23) rfl, ev_putR (M := MX4_init) (f := 161) (kk := 6) f_5_18 rfl rfl rfl rfl dX4_init_23 (pc' := 26) rfl, ev_putN (M := MX4_init) (f := 161) (kk := 6) f_5_18 rfl rfl rfl rfl dX4_init_23 (pc' := 26) rfl, uX4_init, lI_some, lJ_some, lR_ref, lR_null, lD_some, lget_cons, ldel_cons, ldel_nil, evR_v, evR_0, evR_x, vrf_s, vrf_n, Value.category, Nat.reduceEqDiff, Nat.reduceAdd, Nat.reduceSub, Nat.reduceMul, Nat.reduceLeDiff, reduceIte, if_true, if_false, or_self, or_false, false_or, or_true, true_or, and_self, and_true, true_and, and_false, false_and, not_true_eq_false, not_false_eq_true, List.length_cons, List.length_nil, Nat.zero_le, Nat.add_eq_zero_iff, Nat.succ_ne_zero, Nat.zero_add, Nat.add_zero, nle_t, nle_f, nlt_t, nlt_f, neq_t, neq_f, i_lt0, i_le0, i_0le, i_0lt, i_eq0, i_lt, i_le, i_eq, nI_add, i_sub, i_cl, i_m1a, i_m1b, i_m1c, i_m1d, i_m1e, i_am1, i_ite0, k1, cqL_newO t1.symm, t1, hy2, k2, cqL_newO t2.symm, t2, yk2, yk3, hy3]
    simp (disch := omega) only [ev_aload_n (M := MX4_init) (k := 0) rfl dX4_init_26 (pc' := 27) rfl, ev_new (M := MX4_init) (c := 2) k_5_21 (by decide) dX4_init_27 (pc' := 30) rfl, ev_dupI (M := MX4_init) dX4_init_30 (pc' := 31) rfl, ev_dupR (M := MX4_init) dX4_init_30 (pc' := 31) rfl, ev_iconst (M := MX4_init) (v := (nI 0)) rfl dX4_init_31 (pc' := 32) rfl, ev_cI1 (M := MX4_init) dX4_init_32 c_5_23 mX1_init rfl rfl (pc' := 35) rfl, ev_putR (M := MX4_init) (f := 162) (kk := 6) f_5_26 rfl rfl rfl rfl dX4_init_35 (pc' := 38) rfl, ev_putN (M := MX4_init) (f := 162) (kk := 6) f_5_26 rfl rfl rfl rfl dX4_init_35 (pc' := 38) rfl, ev_aload_n (M := MX4_init) (k := 0) rfl dX4_init_38 (pc' := 39) rfl, ev_getR (M := MX4_init) (f := 160) (kk := 6) f_5_12 rfl rfl rfl dX4_init_39 (pc' := 42) rfl, ev_aload_n (M := MX4_init) (k := 0) rfl dX4_init_42 (pc' := 43) rfl, ev_getR (M := MX4_init) (f := 162) (kk := 6) f_5_26 rfl rfl rfl dX4_init_43 (pc' := 46) rfl, ev_cL1 (M := MX4_init) dX4_init_46 c_5_30 mJx4a65c_add_9ea2d rfl rfl rfl (pc' := 49) rfl, lI_some, lJ_some, lR_ref, lR_null, lD_some, lget_cons, ldel_cons, ldel_nil, evR_v, evR_0, evR_x, vrf_s, vrf_n, Value.category, Nat.reduceEqDiff, Nat.reduceAdd, Nat.reduceSub, Nat.reduceMul, Nat.reduceLeDiff, reduceIte, if_true, if_false, or_self, or_false, false_or, or_true, true_or, and_self, and_true, true_and, and_false, false_and, not_true_eq_false, not_false_eq_true, List.length_cons, List.length_nil, Nat.zero_le, Nat.add_eq_zero_iff, Nat.succ_ne_zero, Nat.zero_add, Nat.add_zero, nle_t, nle_f, nlt_t, nlt_f, neq_t, neq_f, i_lt0, i_le0, i_0le, i_0lt, i_eq0, i_lt, i_le, i_eq, nI_add, i_sub, i_cl, i_m1a, i_m1b, i_m1c, i_m1d, i_m1e, i_am1, i_ite0, k3, t3, cq c, yk4, hy4, k4, r4, r4c, c_ladd hl4, kb4, hy5]
    simp (disch := omega) only [ev_popI (M := MX4_init) dX4_init_49 (pc' := 50) rfl, ev_popR (M := MX4_init) dX4_init_49 (pc' := 50) rfl, ev_aload_n (M := MX4_init) (k := 0) rfl dX4_init_50 (pc' := 51) rfl, ev_iconst (M := MX4_init) (v := (nI 0)) rfl dX4_init_51 (pc' := 52) rfl, ev_putI (M := MX4_init) (f := 163) (kk := 6) f_5_34 rfl rfl rfl rfl dX4_init_52 (pc' := 55) rfl, ev_aload_n (M := MX4_init) (k := 0) rfl dX4_init_55 (pc' := 56) rfl, ev_iconst (M := MX4_init) (v := (nI 0)) rfl dX4_init_56 (pc' := 57) rfl, ev_putI (M := MX4_init) (f := 164) (kk := 6) f_5_38 rfl rfl rfl rfl dX4_init_57 (pc' := 60) rfl, ev_aload_n (M := MX4_init) (k := 0) rfl dX4_init_60 (pc' := 61) rfl, ev_iconst (M := MX4_init) (v := (nI 0)) rfl dX4_init_61 (pc' := 62) rfl, ev_putI (M := MX4_init) (f := 165) (kk := 6) f_5_41 rfl rfl rfl rfl dX4_init_62 (pc' := 65) rfl, ev_vret (M := MX4_init) rfl dX4_init_65, lI_some, lJ_some, lR_ref, lR_null, lD_some, lget_cons, ldel_cons, ldel_nil, evR_v, evR_0, evR_x, vrf_s, vrf_n, Value.category, Nat.reduceEqDiff, Nat.reduceAdd, Nat.reduceSub, Nat.reduceMul, Nat.reduceLeDiff, reduceIte, if_true, if_false, or_self, or_false, false_or, or_true, true_or, and_self, and_true, true_and, and_false, false_and, not_true_eq_false, not_false_eq_true, List.length_cons, List.length_nil, Nat.zero_le, Nat.add_eq_zero_iff, Nat.succ_ne_zero, Nat.zero_add, Nat.add_zero, nle_t, nle_f, nlt_t, nlt_f, neq_t, neq_f, i_lt0, i_le0, i_0le, i_0lt, i_eq0, i_lt, i_le, i_eq, nI_add, i_sub, i_cl, i_m1a, i_m1b, i_m1c, i_m1d, i_m1e, i_am1, i_ite0, y5, tK_sI]
    exact ⟨Or.inr hl4.1, hQ⟩
  have s5 : cell T5 (tn T) = cell T4 (tn T) := x5 _ (by omega) (by rw [k4]; decide)
  have d5 : ∀ a, a ≠ tn T → cell (sI 165 (tn T) (nI 0) (sI 164 (tn T) (nI 0) (sI 163 (tn T) (nI 0) T5))) a = cell T5 a := fun a ha => by rw [ce_sI ha, ce_sI ha, ce_sI ha]
  refine key _ ⟨rfl, ⟨⟨?_, ?_, ?_, ?_, ?_, ?_, ?_⟩, ⟨?_, ?_⟩, fun k hk => ?_, List.mem_singleton.mpr rfl, fun k hk => absurd hk List.not_mem_nil, ?_, ?_, ?_, ?_, ?_⟩, ?_, ?_⟩
  · rw [tK_sI, tK_sI, tK_sI, ce_K s5]; exact k4
  · rw [tR_sI, tR_sI, tR_sI, ce_R s5]; exact r4
  · rw [tR_sI, tR_sI, tR_sI, ce_R s5]; exact r4b
  · rw [tR_sI, tR_sI, tR_sI, ce_R s5]; exact r4c
  · rw [tI_sI, up2_e, if_neg (by omega), tI_sI, up2_e, if_neg (by omega), tI_sI, up2_e, if_pos ⟨rfl, rfl⟩]
  · rw [tI_sI, up2_e, if_neg (by omega), tI_sI, up2_e, if_pos ⟨rfl, rfl⟩]
  · rw [tI_sI, up2_e, if_pos ⟨rfl, rfl⟩]
  · exact l5.is.of (d5 _ (by omega))
  · exact l4b.of ((d5 _ (by omega)).trans (x5 _ (by omega) (by rw [l4b.1]; decide)))
  · have hk0 := List.mem_singleton.mp hk
    subst hk0
    have q3 : ∀ a, a ≠ tn T → a ≠ tn T + 1 → tK T4 a ≠ 0 → cell (sI 165 (tn T) (nI 0) (sI 164 (tn T) (nI 0) (sI 163 (tn T) (nI 0) T5))) a = cell T4 a := fun a h1 h2 h3 => (d5 a h1).trans (x5 a h2 h3)
    have kk4 : tK T4 (tn T + 4) = 23 := by rw [ce_K e44]; exact b1.2.2.1
    have z3 := (q3 (tn T + 3) (by omega) (by omega) (by rw [kb4]; decide)).trans e43
    have z4 := (q3 (tn T + 4) (by omega) (by omega) (by rw [kk4]; decide)).trans e44
    refine ⟨⟨⟨?_, ?_, ?_⟩, ?_, ?_, Nat.zero_le _, Nat.zero_le _, by decide, fun n hn => absurd hn List.not_mem_nil⟩, Nat.le_refl _⟩
    · rw [ce_K z3]; exact b1.1
    · rw [ce_R z3]; exact b1.2.1
    · exact b1.2.2.of z4
    · rw [ce_I z3]; exact b2
    · rw [ce_I z3]; exact b3
  · exact (by decide : (1 : Nat) ≤ 1500)
  · exact Nat.zero_le _
  · decide
  · decide
  · decide
  · exact n5
  · have FF := ((f1.th F2').th F3').th F4'
    refine ⟨?_, ?_, ?_, ?_, ?_, fun a ha hq => ?_⟩
    · exact w5
    · show tn T ≤ tn T5; omega
    · show tn T5 ≤ tn T + 6; omega
    · obtain ⟨-, -, -, a4, -⟩ := FF
      show tu T ≤ tu T5; omega
    · obtain ⟨-, -, -, -, a5, -⟩ := FF
      have e6 : NN 5 = 6 := rfl
      show tu T5 ≤ tu T + 28; omega
    · have hne : a ≠ tn T := fun q => ha (by rw [q]; exact hw _ (Nat.le_refl _))
      have hlt : a < tn T := by
        by_cases q : a < tn T
        · exact q
        · exact absurd (hw a (by omega)) ha
      have h4 : cell T4 a = cell T a := FF.2.2.2.2.2 a ha hne
      rw [d5 a hne, x5 a (by omega) (by rw [ce_K h4]; exact ha)]
      exact h4
theorem C_X6_init {va : Nat → Nat} {vf vn : Nat → Nat} {vb ve : Nat → List Nat} {vp : Nat → Option Nat} (hw : wf T) : CallQ (d + 5) 79 [.ref (tn T)] (nO 7 T) (fun q T' => q = .inl none ∧ XR T' (tn T) va (fun _ => tn T + 8) ca [] [] vf vn vb ve vp (fun _ => 0) 0 cb us [0] (fun _ => []) 0 [] 0 0 0 ∧ tn T' = tn T + 11 ∧ fr (fun _ => False) 11 284 T T') := by
  have f1 := fr_nO (W := fun a => a = tn T) (c := 7) hw
  obtain ⟨T1, hT1⟩ : ∃ T1, T1 = nO 7 T := ⟨_, rfl⟩
  rw [← hT1] at f1
  have t1 : tn T1 = tn T + 1 := by rw [hT1]; rfl
  have k1 : tK T1 (tn T) = 8 := by rw [hT1, tK_nO, up1_e, if_pos rfl]
  have F2 := newRow_fr (W := fun a => a = tn T) (n := 240) f1.ok
  have l2 := newRow_is (T := T1) (n := 240) (by decide)
  have F2' := F2.th (fr_sR (W := fun a => a = tn T) (f := 224) (a := tn T) (v := some (tn T + 1)) F2.ok rfl)
  have cv2 : cell (newRow 240 T1) (tn T) = cell T1 (tn T) := (newRow_fr (W := fun _ => False) (n := 240) f1.ok).ce k1 (fun q => q)
  have yk2 : tK (newRow 240 T1) (tn T) = 8 := by rw [ce_K cv2]; exact k1
  have y6 : sI 129 (tn T + 1) (nI 0) (sR 128 (tn T + 1) (some (tn T + 1 + 1)) (nA 20 240 (nO 4 T1))) = newRow 240 T1 := by
    unfold newRow
    rw [t1]
  have y5 : tK (nO 4 T1) (tn T + 1) = 5 := by rw [tK_nO, up1_e, if_pos t1.symm]
  have y7 : tK (nA 20 240 (nO 4 T1)) (tn T + 1) = 5 := by rw [tK_nA, up1_e, if_neg (by rw [tn_nO, t1]; omega)]; exact y5
  have y13 : tn (nO 4 T1) = tn T + 2 := by rw [tn_nO, t1]
  obtain ⟨T2, hT2⟩ : ∃ T2, T2 = sR 224 (tn T) (some (tn T + 1)) (newRow 240 T1) := ⟨_, rfl⟩
  rw [← hT2] at F2'
  have t2 : tn T2 = tn T + 3 := by rw [hT2]; show tn T1 + 2 = _; omega
  have k2 : tK T2 (tn T) = 8 := by rw [hT2, tK_sR]; exact yk2
  have r2 : tR T2 224 (tn T) = some (tn T + 1) := by rw [hT2, tR_sR, up2_e, if_pos ⟨rfl, rfl⟩]
  rw [t1] at l2
  have l2' : rowIs T2 (tn T + 1) [] 240 := l2.of (by rw [hT2, ce_sR (by omega)]) (by rw [hT2, ce_sR (by omega)])
  have F3 := newList_fr (W := fun a => a = tn T) F2'.ok
  have l3 := lok_new T2
  have F3' := F3.th (fr_sR (W := fun a => a = tn T) (f := 225) (a := tn T) (v := some (tn T + 3)) F3.ok rfl)
  have cv3 : cell (newList T2) (tn T) = cell T2 (tn T) := (newList_fr (W := fun _ => False) F2'.ok).ce k2 (fun q => q)
  have yk3 : tK (newList T2) (tn T) = 8 := by rw [ce_K cv3]; exact k2
  obtain ⟨T3, hT3⟩ : ∃ T3, T3 = sR 225 (tn T) (some (tn T + 3)) (newList T2) := ⟨_, rfl⟩
  rw [← hT3] at F3'
  have t3 : tn T3 = tn T + 4 := by rw [hT3]; show tn T2 + 1 = _; omega
  have k3 : tK T3 (tn T) = 8 := by rw [hT3, tK_sR]; exact yk3
  have r3 : tR T3 224 (tn T) = some (tn T + 1) := by rw [hT3, tR_sR, up2_e, if_neg (by omega), ce_R cv3]; exact r2
  have r3b : tR T3 225 (tn T) = some (tn T + 3) := by rw [hT3, tR_sR, up2_e, if_pos ⟨rfl, rfl⟩]
  rw [t2] at l3
  have l3' : lok T3 (tn T + 3) [] := l3.of (by rw [hT3, ce_sR (by omega)])
  have l3a : rowIs T3 (tn T + 1) [] 240 := l2'.of (F3'.ce l2'.1 (by omega)) (F3'.ce l2'.2.2.2.1 (by omega))
  have F4 := fr_nA (W := fun a => a = tn T) (k := 20) (n := 6) F3'.ok
  have F4' := F4.th (fr_sR (W := fun a => a = tn T) (f := 226) (a := tn T) (v := some (tn T + 4)) F4.ok rfl)
  have yk4 : tK (nA 20 6 T3) (tn T) = 8 := by rw [tK_nA, up1_e, if_neg (by omega)]; exact k3
  have cv4 : cell (nA 20 6 T3) (tn T) = cell T3 (tn T) := ce_nA (by omega)
  obtain ⟨T4, hT4⟩ : ∃ T4, T4 = sR 226 (tn T) (some (tn T + 4)) (nA 20 6 T3) := ⟨_, rfl⟩
  rw [← hT4] at F4'
  have t4 : tn T4 = tn T + 5 := by rw [hT4]; show tn T3 + 1 = _; omega
  have k4 : tK T4 (tn T) = 8 := by rw [hT4, tK_sR]; exact yk4
  have r4 : tR T4 224 (tn T) = some (tn T + 1) := by rw [hT4, tR_sR, up2_e, if_neg (by omega), ce_R cv4]; exact r3
  have r4b : tR T4 225 (tn T) = some (tn T + 3) := by rw [hT4, tR_sR, up2_e, if_neg (by omega), ce_R cv4]; exact r3b
  have r4c : tR T4 226 (tn T) = some (tn T + 4) := by rw [hT4, tR_sR, up2_e, if_pos ⟨rfl, rfl⟩]
  have l4 : lok T4 (tn T + 3) [] := l3'.of (F4'.ce l3'.1 (by omega))
  have l4a : rowIs T4 (tn T + 1) [] 240 := l3a.of (F4'.ce l3a.1 (by omega)) (F4'.ce l3a.2.2.2.1 (by omega))
  have n4 : tK T4 (tn T + 4) = 20 ∧ tl T4 (tn T + 4) = 6 ∧ ∀ i, tA T4 (tn T + 4) i = 0 := by
    rw [hT4]
    refine ⟨?_, ?_, fun i => ?_⟩
    · rw [tK_sR, tK_nA, up1_e, if_pos t3.symm]
    · rw [tl_sR, tl_nA, up1_e, if_pos t3.symm]
    · rw [tA_sR, tA_nA, up1_e, if_pos t3.symm]
  obtain ⟨_, T5, c5, rfl, S5, t5, F5⟩ := C_X4_init (d := d) (ca := ca) (us := us) (cb := cb) F4'.ok
  rw [t4] at c5 S5 t5
  have F5' := F5.wd (W' := fun a => a = tn T) (Nat.le_refl _) (Nat.le_refl _) (fun _ _ q => q.elim)
  have s5 : cell T5 (tn T) = cell T4 (tn T) := F5.ce k4 (fun q => q)
  have key : ∀ Q : Post, Q (.inl none) (sI 228 (tn T) (nI 0) (sR 227 (tn T) (some (tn T + 5)) T5)) → CallQ (d + 5) 79 [.ref (tn T)] (nO 7 T) Q := by
    intro Q hQ
    have y55 : tK T5 (tn T) = 8 := by rw [ce_K s5]; exact k4
    have hy4 := hT4.symm
    have hy2 := hT2.symm
    have hy3 := hT3.symm
    clear F2 F2' F3 F3' F4 F4' F5 F5' f1 l2 l2' l3 l3' l3a l4 l4a n4 S5 s5
    rw [← hT1]
    simp (disch := omega) only [ev_aload_n (M := MX6_init) (k := 0) rfl dX6_init_0 (pc' := 1) rfl, ev_objInit (M := MX6_init) (mid := 0) c_7_1 dX6_init_1 (pc' := 4) rfl, ev_aload_n (M := MX6_init) (k := 0) rfl dX6_init_4 (pc' := 5) rfl, ev_new (M := MX6_init) (c := 4) k_7_7 (by decide) dX6_init_5 (pc' := 8) rfl, ev_dupI (M := MX6_init) dX6_init_8 (pc' := 9) rfl, ev_dupR (M := MX6_init) dX6_init_8 (pc' := 9) rfl, ev_sipush (M := MX6_init) (v := (nI 240)) rfl dX6_init_9 (pc' := 12) rfl, ev_cI1 (M := MX6_init) dX6_init_12 c_7_11 mX3_init rfl rfl (pc' := 15) rfl, ev_putR (M := MX6_init) (f := 224) (kk := 8) f_7_14 rfl rfl rfl rfl dX6_init_15 (pc' := 18) rfl, ev_putN (M := MX6_init) (f := 224) (kk := 8) f_7_14 rfl rfl rfl rfl dX6_init_15 (pc' := 18) rfl, uX6_init, ev_aload_n (M := MX3_init) (k := 0) rfl dX3_init_0 (pc' := 1) rfl, ev_objInit (M := MX3_init) (mid := 0) c_4_1 dX3_init_1 (pc' := 4) rfl, ev_aload_n (M := MX3_init) (k := 0) rfl dX3_init_4 (pc' := 5) rfl, ev_iload_n (M := MX3_init) (k := 1) rfl dX3_init_5 (pc' := 6) rfl, ev_if_ge (M := MX3_init) (t := 13) dX3_init_6 (by decide) (pc' := 9) rfl, ev_iconst (M := MX3_init) (v := (nI 0)) rfl dX3_init_9 (pc' := 10) rfl, ev_goto (M := MX3_init) (pc' := 14) dX3_init_10 (by decide), ev_iload_n (M := MX3_init) (k := 1) rfl dX3_init_13 (pc' := 14) rfl, ev_newa (M := MX3_init) (k := 20) rfl (by decide) dX3_init_14 (pc' := 16) rfl, ev_putR (M := MX3_init) (f := 128) (kk := 5) f_4_7 rfl rfl rfl rfl dX3_init_16 (pc' := 19) rfl, ev_putN (M := MX3_init) (f := 128) (kk := 5) f_4_7 rfl rfl rfl rfl dX3_init_16 (pc' := 19) rfl, ev_aload_n (M := MX3_init) (k := 0) rfl dX3_init_19 (pc' := 20) rfl, ev_iconst (M := MX3_init) (v := (nI 0)) rfl dX3_init_20 (pc' := 21) rfl, ev_putI (M := MX3_init) (f := 129) (kk := 5) f_4_13 rfl rfl rfl rfl dX3_init_21 (pc' := 24) rfl, ev_vret (M := MX3_init) rfl dX3_init_24, uX3_init, lI_some, lJ_some, lR_ref, lR_null, lD_some, lget_cons, ldel_cons, ldel_nil, evR_v, evR_0, evR_x, vrf_s, vrf_n, Value.category, Nat.reduceEqDiff, Nat.reduceAdd, Nat.reduceSub, Nat.reduceMul, Nat.reduceLeDiff, reduceIte, if_true, if_false, or_self, or_false, false_or, or_true, true_or, and_self, and_true, true_and, and_false, false_and, not_true_eq_false, not_false_eq_true, List.length_cons, List.length_nil, Nat.zero_le, Nat.add_eq_zero_iff, Nat.succ_ne_zero, Nat.zero_add, Nat.add_zero, nle_t, nle_f, nlt_t, nlt_f, neq_t, neq_f, i_lt0, i_le0, i_0le, i_0lt, i_eq0, i_lt, i_le, i_eq, nI_add, i_sub, i_cl, i_m1a, i_m1b, i_m1c, i_m1d, i_m1e, i_am1, i_ite0, k1, t1, y5, y6, y7, y13, yk2, hy2]
    simp (disch := omega) only [ev_aload_n (M := MX6_init) (k := 0) rfl dX6_init_18 (pc' := 19) rfl, ev_new (M := MX6_init) (c := 0) k_7_18 (by decide) dX6_init_19 (pc' := 22) rfl, ev_dupI (M := MX6_init) dX6_init_22 (pc' := 23) rfl, ev_dupR (M := MX6_init) dX6_init_22 (pc' := 23) rfl, ev_cI0 (M := MX6_init) dX6_init_23 c_7_20 mJx4a65c_init_da8c8 rfl rfl (pc' := 26) rfl, ev_putR (M := MX6_init) (f := 225) (kk := 8) f_7_21 rfl rfl rfl rfl dX6_init_26 (pc' := 29) rfl, ev_putN (M := MX6_init) (f := 225) (kk := 8) f_7_21 rfl rfl rfl rfl dX6_init_26 (pc' := 29) rfl, ev_aload_n (M := MX6_init) (k := 0) rfl dX6_init_29 (pc' := 30) rfl, ev_bipush (M := MX6_init) (v := (nI 6)) rfl dX6_init_30 (pc' := 32) rfl, ev_newa (M := MX6_init) (k := 20) rfl (by decide) dX6_init_32 (pc' := 34) rfl, ev_putR (M := MX6_init) (f := 226) (kk := 8) f_7_25 rfl rfl rfl rfl dX6_init_34 (pc' := 37) rfl, ev_putN (M := MX6_init) (f := 226) (kk := 8) f_7_25 rfl rfl rfl rfl dX6_init_34 (pc' := 37) rfl, lI_some, lJ_some, lR_ref, lR_null, lD_some, lget_cons, ldel_cons, ldel_nil, evR_v, evR_0, evR_x, vrf_s, vrf_n, Value.category, Nat.reduceEqDiff, Nat.reduceAdd, Nat.reduceSub, Nat.reduceMul, Nat.reduceLeDiff, reduceIte, if_true, if_false, or_self, or_false, false_or, or_true, true_or, and_self, and_true, true_and, and_false, false_and, not_true_eq_false, not_false_eq_true, List.length_cons, List.length_nil, Nat.zero_le, Nat.add_eq_zero_iff, Nat.succ_ne_zero, Nat.zero_add, Nat.add_zero, nle_t, nle_f, nlt_t, nlt_f, neq_t, neq_f, i_lt0, i_le0, i_0le, i_0lt, i_eq0, i_lt, i_le, i_eq, nI_add, i_sub, i_cl, i_m1a, i_m1b, i_m1c, i_m1d, i_m1e, i_am1, i_ite0, k2, cqL_newO t2.symm, t2, yk3, hy3, k3, t3, yk4, hy4]
    simp (disch := omega) only [ev_aload_n (M := MX6_init) (k := 0) rfl dX6_init_37 (pc' := 38) rfl, ev_new (M := MX6_init) (c := 5) k_7_29 (by decide) dX6_init_38 (pc' := 41) rfl, ev_dupI (M := MX6_init) dX6_init_41 (pc' := 42) rfl, ev_dupR (M := MX6_init) dX6_init_41 (pc' := 42) rfl, ev_cI0 (M := MX6_init) dX6_init_42 c_7_31 mX4_init rfl rfl (pc' := 45) rfl, ev_putR (M := MX6_init) (f := 227) (kk := 8) f_7_32 rfl rfl rfl rfl dX6_init_45 (pc' := 48) rfl, ev_putN (M := MX6_init) (f := 227) (kk := 8) f_7_32 rfl rfl rfl rfl dX6_init_45 (pc' := 48) rfl, ev_aload_n (M := MX6_init) (k := 0) rfl dX6_init_48 (pc' := 49) rfl, ev_iconst (M := MX6_init) (v := (nI 0)) rfl dX6_init_49 (pc' := 50) rfl, ev_putI (M := MX6_init) (f := 228) (kk := 8) f_7_36 rfl rfl rfl rfl dX6_init_50 (pc' := 53) rfl, ev_vret (M := MX6_init) rfl dX6_init_53, lI_some, lJ_some, lR_ref, lR_null, lD_some, lget_cons, ldel_cons, ldel_nil, evR_v, evR_0, evR_x, vrf_s, vrf_n, Value.category, Nat.reduceEqDiff, Nat.reduceAdd, Nat.reduceSub, Nat.reduceMul, Nat.reduceLeDiff, reduceIte, if_true, if_false, or_self, or_false, false_or, or_true, true_or, and_self, and_true, true_and, and_false, false_and, not_true_eq_false, not_false_eq_true, List.length_cons, List.length_nil, Nat.zero_le, Nat.add_eq_zero_iff, Nat.succ_ne_zero, Nat.zero_add, Nat.add_zero, nle_t, nle_f, nlt_t, nlt_f, neq_t, neq_f, i_lt0, i_le0, i_0le, i_0lt, i_eq0, i_lt, i_le, i_eq, nI_add, i_sub, i_cl, i_m1a, i_m1b, i_m1c, i_m1d, i_m1e, i_am1, i_ite0, k4, t4, cq c5, y55, tK_sR, tK_sI]
    exact hQ
  have d6 : ∀ a, a ≠ tn T → cell (sI 228 (tn T) (nI 0) (sR 227 (tn T) (some (tn T + 5)) T5)) a = cell T5 a := fun a ha => by rw [ce_sI ha, ce_sR ha]
  have e5 : ∀ a, tK T4 a ≠ 0 → cell T5 a = cell T4 a := fun a ha => F5.2.2.2.2.2 a ha (fun q => q)
  have SX : SH (sI 228 (tn T) (nI 0) (sR 227 (tn T) (some (tn T + 5)) T5)) (tn T + 5) (fun _ => tn T + 8) ca cb us [0] (fun _ => []) 0 [] 0 0 0 := S5.of (fun a ha => d6 a (by
    rcases ha with q | q | q | ⟨k, hk, q⟩ | ⟨k, hk, q | q | ⟨n, hn, q⟩⟩
    · omega
    · omega
    · omega
    · exact absurd hk List.not_mem_nil
    · have q' : a = tn T + 5 + 3 := q
      omega
    · have q' : a = tn T + 5 + 3 + 1 := q
      omega
    · exact absurd hn List.not_mem_nil))
  refine key _ ⟨rfl, ⟨⟨?_, ?_, ?_, ?_, ?_, ?_, by decide⟩, ⟨l4a.of ((d6 _ (by omega)).trans (e5 _ (by rw [l4a.1]; decide))) ((d6 _ (by omega)).trans (e5 _ (by rw [l4a.2.2.2.1]; decide))), fun x hx => absurd hx List.not_mem_nil⟩, ?_, ⟨⟨l4.of ((d6 _ (by omega)).trans (e5 _ (by rw [l4.1]; decide))), fun k hk => absurd hk List.not_mem_nil⟩, Nat.zero_le _⟩, SX, fun k hk => absurd hk List.not_mem_nil⟩, ?_, ?_⟩
  · rw [tK_sI, tK_sR, ce_K s5]; exact k4
  · rw [tR_sI, tR_sR, up2_e, if_neg (by omega), ce_R s5]; exact r4
  · rw [tR_sI, tR_sR, up2_e, if_neg (by omega), ce_R s5]; exact r4b
  · rw [tR_sI, tR_sR, up2_e, if_neg (by omega), ce_R s5]; exact r4c
  · rw [tR_sI, tR_sR, up2_e, if_pos ⟨rfl, rfl⟩]
  · rw [tI_sI, up2_e, if_pos ⟨rfl, rfl⟩]
  · have z := (d6 (tn T + 4) (by omega)).trans (e5 _ (by rw [n4.1]; decide))
    rw [ce_K z, ce_l z, ce_A z]
    exact ⟨n4.1, n4.2.1, fun i _ => ⟨n4.2.2 i, show (0 : Nat) < 1000000 by decide⟩⟩
  · exact t5
  · have FF := (((f1.th F2').th F3').th F4').th F5'
    refine ⟨?_, ?_, ?_, ?_, ?_, fun a ha hq => ?_⟩
    · exact F5.ok
    · show tn T ≤ tn T5; omega
    · show tn T5 ≤ tn T + 11; omega
    · obtain ⟨-, -, -, a4, -⟩ := FF
      show tu T ≤ tu T5; omega
    · obtain ⟨-, -, -, -, a5, -⟩ := FF
      exact Nat.le_trans a5 (Nat.add_le_add_left (by decide) _)
    · have hne : a ≠ tn T := fun q => ha (by rw [q]; exact hw _ (Nat.le_refl _))
      rw [d6 a hne]
      exact FF.2.2.2.2.2 a ha hne
end INI
