/-! DedupVault: forget -/
section FGT
variable {d X : Nat} {va ba ca : Nat → Nat} {dr kl : List Nat} {vf vn : Nat → Nat} {vb ve : Nat → List Nat} {vp : Nat → Option Nat} {nx : Nat → Nat} {sv : Nat} {cb : Nat → List Nat} {us : Nat → Nat} {bl cs : List Nat} {co : Nat → List Nat} {op hi re st : Nat} {T : TS}
theorem X_forget0 {f v : Int32} (h : XR T X va ba ca dr kl vf vn vb ve vp nx sv cb us bl co op cs hi re st) (hg : fv kl vf vn f v = none) : Call (d + 4) 89 [.ref X, .int f, .int v] T (.inr 102) (nX T) := by
  obtain ⟨⟨x1, x2, x3, x4, x5, x6, -⟩, ⟨h1, -⟩, h2, ⟨h3, -⟩, h4, h5⟩ := h
  have c := C_demandNone (d := d) x1 x3 h3 hg
  refine Call_of ?_
  simp (disch := omega) only [ev_aload_n (M := MX6_forget) (k := 0) rfl dX6_forget_0 (pc' := 1) rfl, ev_iload_n (M := MX6_forget) (k := 1) rfl dX6_forget_1 (pc' := 2) rfl, ev_iload_n (M := MX6_forget) (k := 2) rfl dX6_forget_2 (pc' := 3) rfl, ev_cV2 (M := MX6_forget) (kk := 8) dX6_forget_3 c_7_57 mX6_demandVersion rfl rfl (by decide) rfl (pc' := 6) rfl, ev_astore_n (M := MX6_forget) (k := 3) rfl dX6_forget_6 (by decide) (pc' := 7) rfl, ev_astore_nN (M := MX6_forget) (k := 3) rfl dX6_forget_6 (by decide) (pc' := 7) rfl, ev_aload_n (M := MX6_forget) (k := 0) rfl dX6_forget_7 (pc' := 8) rfl, ev_getR (M := MX6_forget) (f := 225) (kk := 8) f_7_21 rfl rfl rfl dX6_forget_8 (pc' := 11) rfl, ev_cL0 (M := MX6_forget) dX6_forget_11 c_7_93 mJx4a65c_size_8abf5 rfl rfl rfl (pc' := 14) rfl, ev_iconst (M := MX6_forget) (v := (nI 1)) rfl dX6_forget_14 (pc' := 15) rfl, ev_isub (M := MX6_forget) dX6_forget_15 (pc' := 16) rfl, ev_istore (M := MX6_forget) dX6_forget_16 (by decide) (pc' := 18) rfl, ev_if_lt (M := MX6_forget) (t := 68) dX6_forget_20 (by decide) (pc' := 23) rfl, ev_aload_n (M := MX6_forget) (k := 0) rfl dX6_forget_23 (pc' := 24) rfl, ev_getR (M := MX6_forget) (f := 225) (kk := 8) f_7_21 rfl rfl rfl dX6_forget_24 (pc' := 27) rfl, ev_iload (M := MX6_forget) dX6_forget_27 (pc' := 29) rfl, ev_cL1 (M := MX6_forget) dX6_forget_29 c_7_101 mJx4a65c_get_915e3 rfl rfl rfl (pc' := 32) rfl, ev_cast (M := MX6_forget) (c := 6) (kk := 7) k_7_62 (by decide) (by decide) rfl dX6_forget_32 (pc' := 35) rfl, ev_astore (M := MX6_forget) dX6_forget_35 (by decide) (pc' := 37) rfl, ev_astoreN (M := MX6_forget) dX6_forget_35 (by decide) (pc' := 37) rfl, ev_aload (M := MX6_forget) dX6_forget_37 (pc' := 39) rfl, ev_aload_n (M := MX6_forget) (k := 3) rfl dX6_forget_39 (pc' := 40) rfl, ev_acmp_ne (M := MX6_forget) (t := 56) dX6_forget_40 (by decide) (pc' := 43) rfl, ev_acmp_neN (M := MX6_forget) (t := 56) dX6_forget_40 (by decide), ev_aload_n (M := MX6_forget) (k := 0) rfl dX6_forget_43 (pc' := 44) rfl, ev_getR (M := MX6_forget) (f := 225) (kk := 8) f_7_21 rfl rfl rfl dX6_forget_44 (pc' := 47) rfl, ev_iload (M := MX6_forget) dX6_forget_47 (pc' := 49) rfl, ev_cL1 (M := MX6_forget) dX6_forget_49 c_7_134 mJx4a65c_remove_915e3 rfl rfl rfl (pc' := 52) rfl, ev_popI (M := MX6_forget) dX6_forget_52 (pc' := 53) rfl, ev_popR (M := MX6_forget) dX6_forget_52 (pc' := 53) rfl, ev_goto (M := MX6_forget) (pc' := 62) dX6_forget_53 (by decide), ev_aload (M := MX6_forget) dX6_forget_56 (pc' := 58) rfl, ev_aload_n (M := MX6_forget) (k := 3) rfl dX6_forget_58 (pc' := 59) rfl, ev_cV1 (M := MX6_forget) (kk := 7) dX6_forget_59 c_7_137 mX5_loseBase rfl rfl (by decide) rfl (pc' := 62) rfl, ev_iinc (M := MX6_forget) (v := (-1)) rfl dX6_forget_62 (by decide) (pc' := 65) rfl, ev_goto (M := MX6_forget) (pc' := 18) dX6_forget_65 (by decide), ev_aload_n (M := MX6_forget) (k := 3) rfl dX6_forget_68 (pc' := 69) rfl, ev_cV0 (M := MX6_forget) (kk := 7) dX6_forget_69 c_7_140 mX5_releaseEntries rfl rfl (by decide) rfl (pc' := 72) rfl, ev_aload_n (M := MX6_forget) (k := 0) rfl dX6_forget_72 (pc' := 73) rfl, ev_getR (M := MX6_forget) (f := 225) (kk := 8) f_7_21 rfl rfl rfl dX6_forget_73 (pc' := 76) rfl, ev_cL0 (M := MX6_forget) dX6_forget_76 c_7_93 mJx4a65c_size_8abf5 rfl rfl rfl (pc' := 79) rfl, ev_iret (M := MX6_forget) rfl dX6_forget_79, uX6_forget, lI_some, lJ_some, lR_ref, lR_null, lD_some, lget_cons, ldel_cons, ldel_nil, evR_v, evR_0, evR_x, vrf_s, vrf_n, Value.category, Nat.reduceEqDiff, Nat.reduceAdd, Nat.reduceSub, Nat.reduceMul, Nat.reduceLeDiff, reduceIte, if_true, if_false, or_self, or_false, false_or, or_true, true_or, and_self, and_true, true_and, and_false, false_and, not_true_eq_false, not_false_eq_true, List.length_cons, List.length_nil, Nat.zero_le, Nat.add_eq_zero_iff, Nat.succ_ne_zero, Nat.zero_add, Nat.add_zero, nle_t, nle_f, nlt_t, nlt_f, neq_t, neq_f, i_lt0, i_le0, i_0le, i_0lt, i_eq0, i_lt, i_le, i_eq, nI_add, i_sub, i_cl, i_m1a, i_m1b, i_m1c, i_m1d, i_m1e, i_am1, i_ite0, x1, cq c]
/-- what a shelf's kinds leave -/
theorem SH.notL (h : SH T (X + 5) ba ca cb us bl co op cs hi re st) {a b : Nat} (ha : tK T a = 23) (hab : a = b + 1) (b6 : tK T b ≠ 6) (b23 : tK T b ≠ 23) (b3 : tK T b ≠ 3) : ¬ shD (X + 5) ba ca bl cs co a := by
  obtain ⟨s1, s2, s3⟩ := h.ks
  rintro (q | q | q | ⟨k, hk, q⟩ | ⟨k, hk, q | q | ⟨n, hn, q⟩⟩)
  · rw [q, s1] at ha; cases ha
  · have e : b = X + 5 := by omega
    rw [e] at b6; exact b6 s1
  · have e : b = X + 5 + 1 := by omega
    rw [e] at b23; exact b23 s2
  · rw [q, (h.2.2.2.2.1 k hk).1] at ha; cases ha
  · rw [q, (h.kb hk).1] at ha; cases ha
  · have e : b = ba k := by omega
    rw [e] at b3; exact b3 (h.kb hk).1
  · obtain ⟨d1, d2, d3, d4, -⟩ := h.kn hk hn
    rcases q with q | q | q | q <;> (rw [q] at ha; omega)
theorem SH.notK (h : SH T (X + 5) ba ca cb us bl co op cs hi re st) {a : Nat} (ha : tK T a = 7 ∨ tK T a = 8) : ¬ shD (X + 5) ba ca bl cs co a := by
  obtain ⟨s1, s2, s3⟩ := h.ks
  rintro (q | q | q | ⟨k, hk, q⟩ | ⟨k, hk, q | q | ⟨n, hn, q⟩⟩)
  · rw [q] at ha; omega
  · rw [q] at ha; omega
  · rw [q] at ha; omega
  · have := (h.2.2.2.2.1 k hk).1; rw [q] at ha; omega
  · have := (h.kb hk).1; rw [q] at ha; omega
  · have := (h.kb hk).2.1; rw [q] at ha; omega
  · obtain ⟨d1, d2, d3, d4, -⟩ := h.kn hk hn
    rcases q with q | q | q | q <;> (rw [q] at ha; omega)
def vpm (kl : List Nat) (vp : Nat → Option Nat) (g j k : Nat) : Option Nat := if k ∈ kl.drop j ∧ k ≠ g ∧ vp k = some g then none else vp k
theorem X_forget {f v : Int32} {g : Nat} (hw : wf T) (h : XR T X va ba ca dr kl vf vn vb ve vp nx sv cb us bl co op cs hi re st) (hg : fv kl vf vn f v = some g) (hnd : kl.Nodup) (hun : ∀ k ∈ kl, ∀ k' ∈ kl, vf k = vf k' → vn k = vn k' → k = k') (hu : ∀ n ∈ ve g, (ve g).count n ≤ us n) : CallQ (d + 4) 89 [.ref X, .int f, .int v] T (fun q T' => q = .inl (some (.int (nI (kl.filter (fun k => decide (k ≠ g))).length))) ∧ XR T' X va ba ca dr (kl.filter (fun k => decide (k ≠ g))) vf vn vb ve (fun k => if vp k = some g then none else vp k) nx sv cb (dec1 us (ve g)) bl co op cs hi re st ∧ fr (fun a => a = X + 3 ∨ (∃ k ∈ kl, a = va k) ∨ ∃ k ∈ bl, ∃ n ∈ co k, a = ca n) 0 0 T T') := by
  have h0 := h
  obtain ⟨⟨x1, x2, x3, x4, x5, x6, x7⟩, ⟨h1, hd⟩, h2, ⟨h3, h320⟩, h4, h5⟩ := h
  have hgk := (fv_mem hg).1
  have c := C_demandSome (d := d) x1 x3 h3 hg
  have hK := h3.1.1
  have r1 := h1.1
  have r2 := h1.2.2.2.1
  have vi : ∀ k ∈ kl, ∀ k' ∈ kl, va k = va k' → k = k' := fun k hk k' hk' e => by
    obtain ⟨-, a1, a2, -, -, -, -, -, a3, a4⟩ := (h3.2 k hk).1
    obtain ⟨-, b1, b2, -, -, -, -, -, b3, b4⟩ := (h3.2 k' hk').1
    rw [e, b1] at a1
    rw [e, b2] at a2
    exact hun k hk k' hk' ((nI_eq (by omega) (by omega)).mp a1).symm ((nI_eq (by omega) (by omega)).mp a2).symm
  have key : ∀ Q : Post, Ev (d + 3) MX6_forget [] 18 [(4, .int (iv kl.length)), (3, .ref (va g)), (0, .ref X), (1, .int f), (2, .int v)] [] T Q → CallQ (d + 4) 89 [.ref X, .int f, .int v] T Q := by
    intro Q hQ
    simp (disch := omega) only [ev_aload_n (M := MX6_forget) (k := 0) rfl dX6_forget_0 (pc' := 1) rfl, ev_iload_n (M := MX6_forget) (k := 1) rfl dX6_forget_1 (pc' := 2) rfl, ev_iload_n (M := MX6_forget) (k := 2) rfl dX6_forget_2 (pc' := 3) rfl, ev_cV2 (M := MX6_forget) (kk := 8) dX6_forget_3 c_7_57 mX6_demandVersion rfl rfl (by decide) rfl (pc' := 6) rfl, ev_astore_n (M := MX6_forget) (k := 3) rfl dX6_forget_6 (by decide) (pc' := 7) rfl, ev_astore_nN (M := MX6_forget) (k := 3) rfl dX6_forget_6 (by decide) (pc' := 7) rfl, ev_aload_n (M := MX6_forget) (k := 0) rfl dX6_forget_7 (pc' := 8) rfl, ev_getR (M := MX6_forget) (f := 225) (kk := 8) f_7_21 rfl rfl rfl dX6_forget_8 (pc' := 11) rfl, ev_cL0 (M := MX6_forget) dX6_forget_11 c_7_93 mJx4a65c_size_8abf5 rfl rfl rfl (pc' := 14) rfl, ev_iconst (M := MX6_forget) (v := (nI 1)) rfl dX6_forget_14 (pc' := 15) rfl, ev_isub (M := MX6_forget) dX6_forget_15 (pc' := 16) rfl, ev_istore (M := MX6_forget) dX6_forget_16 (by decide) (pc' := 18) rfl, ev_if_lt (M := MX6_forget) (t := 68) dX6_forget_20 (by decide) (pc' := 23) rfl, ev_aload_n (M := MX6_forget) (k := 0) rfl dX6_forget_23 (pc' := 24) rfl, ev_getR (M := MX6_forget) (f := 225) (kk := 8) f_7_21 rfl rfl rfl dX6_forget_24 (pc' := 27) rfl, ev_iload (M := MX6_forget) dX6_forget_27 (pc' := 29) rfl, ev_cL1 (M := MX6_forget) dX6_forget_29 c_7_101 mJx4a65c_get_915e3 rfl rfl rfl (pc' := 32) rfl, ev_cast (M := MX6_forget) (c := 6) (kk := 7) k_7_62 (by decide) (by decide) rfl dX6_forget_32 (pc' := 35) rfl, ev_astore (M := MX6_forget) dX6_forget_35 (by decide) (pc' := 37) rfl, ev_astoreN (M := MX6_forget) dX6_forget_35 (by decide) (pc' := 37) rfl, ev_aload (M := MX6_forget) dX6_forget_37 (pc' := 39) rfl, ev_aload_n (M := MX6_forget) (k := 3) rfl dX6_forget_39 (pc' := 40) rfl, ev_acmp_ne (M := MX6_forget) (t := 56) dX6_forget_40 (by decide) (pc' := 43) rfl, ev_acmp_neN (M := MX6_forget) (t := 56) dX6_forget_40 (by decide), ev_aload_n (M := MX6_forget) (k := 0) rfl dX6_forget_43 (pc' := 44) rfl, ev_getR (M := MX6_forget) (f := 225) (kk := 8) f_7_21 rfl rfl rfl dX6_forget_44 (pc' := 47) rfl, ev_iload (M := MX6_forget) dX6_forget_47 (pc' := 49) rfl, ev_cL1 (M := MX6_forget) dX6_forget_49 c_7_134 mJx4a65c_remove_915e3 rfl rfl rfl (pc' := 52) rfl, ev_popI (M := MX6_forget) dX6_forget_52 (pc' := 53) rfl, ev_popR (M := MX6_forget) dX6_forget_52 (pc' := 53) rfl, ev_goto (M := MX6_forget) (pc' := 62) dX6_forget_53 (by decide), ev_aload (M := MX6_forget) dX6_forget_56 (pc' := 58) rfl, ev_aload_n (M := MX6_forget) (k := 3) rfl dX6_forget_58 (pc' := 59) rfl, ev_cV1 (M := MX6_forget) (kk := 7) dX6_forget_59 c_7_137 mX5_loseBase rfl rfl (by decide) rfl (pc' := 62) rfl, ev_iinc (M := MX6_forget) (v := (-1)) rfl dX6_forget_62 (by decide) (pc' := 65) rfl, ev_goto (M := MX6_forget) (pc' := 18) dX6_forget_65 (by decide), ev_aload_n (M := MX6_forget) (k := 3) rfl dX6_forget_68 (pc' := 69) rfl, ev_cV0 (M := MX6_forget) (kk := 7) dX6_forget_69 c_7_140 mX5_releaseEntries rfl rfl (by decide) rfl (pc' := 72) rfl, ev_aload_n (M := MX6_forget) (k := 0) rfl dX6_forget_72 (pc' := 73) rfl, ev_getR (M := MX6_forget) (f := 225) (kk := 8) f_7_21 rfl rfl rfl dX6_forget_73 (pc' := 76) rfl, ev_cL0 (M := MX6_forget) dX6_forget_76 c_7_93 mJx4a65c_size_8abf5 rfl rfl rfl (pc' := 79) rfl, ev_iret (M := MX6_forget) rfl dX6_forget_79, uX6_forget, lI_some, lJ_some, lR_ref, lR_null, lD_some, lget_cons, ldel_cons, ldel_nil, evR_v, evR_0, evR_x, vrf_s, vrf_n, Value.category, Nat.reduceEqDiff, Nat.reduceAdd, Nat.reduceSub, Nat.reduceMul, Nat.reduceLeDiff, reduceIte, if_true, if_false, or_self, or_false, false_or, or_true, true_or, and_self, and_true, true_and, and_false, false_and, not_true_eq_false, not_false_eq_true, List.length_cons, List.length_nil, Nat.zero_le, Nat.add_eq_zero_iff, Nat.succ_ne_zero, Nat.zero_add, Nat.add_zero, nle_t, nle_f, nlt_t, nlt_f, neq_t, neq_f, i_lt0, i_le0, i_0le, i_0lt, i_eq0, i_lt, i_le, i_eq, nI_add, i_sub, i_cl, i_m1a, i_m1b, i_m1c, i_m1d, i_m1e, i_am1, i_ite0, x1, x3, hK, cq c, c_lsizem h3.1.is, iv_sub]
    exact hQ
  refine key _ ?_
  clear key
  refine lpS (fun m => [(4, .int (iv (kl.length - m))), (3, .ref (va g)), (0, .ref X), (1, .int f), (2, .int v)]) (fun m T' => lok T' (X + 3) ((kl.take (kl.length - m) ++ (kl.drop (kl.length - m)).filter (fun k => decide (k ≠ g))).map va) ∧ (∀ k ∈ kl, verR T' (va k) ca (vf k) (vn k) (vb k) (ve k) ((vpm kl vp g (kl.length - m) k).map va)) ∧ fr (fun a => a = X + 3 ∨ ∃ k ∈ kl, a = va k) 0 0 T T') kl.length ?_ ?_ T ⟨by simpa using h3.1, fun k hk => ?_, fr.rf hw⟩
  · rintro m T1 hm ⟨i1, i2, i3⟩
    obtain ⟨j, hj⟩ : ∃ j, kl.length - m = j + 1 := ⟨kl.length - m - 1, by omega⟩
    have hj2 : kl.length - (m + 1) = j := by omega
    rw [hj] at i1 i2
    rw [hj, hj2]
    have hjl : j < kl.length := by omega
    have hx := gD_mem hjl
    have hlen : (kl.take (j + 1) ++ (kl.drop (j + 1)).filter (fun k => decide (k ≠ g))).length ≥ j + 1 := by
      rw [List.length_append, List.length_take]; omega
    have hget : (kl.take (j + 1) ++ (kl.drop (j + 1)).filter (fun k => decide (k ≠ g))).getD j 0 = kl.getD j 0 := by
      rw [List.getD_eq_getElem?_getD, List.getD_eq_getElem?_getD, List.getElem?_append_left (by rw [List.length_take]; omega), List.getElem?_take, if_pos (by omega)]
    have hdrop : kl.drop j = kl.getD j 0 :: kl.drop (j + 1) := by
      rw [List.drop_eq_getElem_cons hjl, List.getD_eq_getElem?_getD, List.getElem?_eq_getElem hjl]
      rfl
    have hxn : kl.getD j 0 ∉ kl.drop (j + 1) := by
      have := hnd.sublist (List.drop_sublist j kl)
      rw [hdrop] at this
      exact (List.nodup_cons.mp this).1
    have e0 : cell T1 X = cell T X := i3.ce x1 (fun q => by
      rcases q with q | ⟨k, hk, q⟩
      · omega
      · exact neK x1 (h3.2 k hk).1.1 (by decide) q)
    have g1 : tK T1 X = 8 := by rw [ce_K e0]; exact x1
    have g2 : tR T1 225 X = some (X + 3) := by rw [ce_R e0]; exact x3
    have gl := i1.1
    have hiv : iv (j + 1) = nI j := iv_pos (by omega)
    have hxK := (i2 _ hx).1
    have hgK := (i2 _ hgk).1
    by_cases e : kl.getD j 0 = g
    · have hE : (kl.take (j + 1) ++ (kl.drop (j + 1)).filter (fun k => decide (k ≠ g))).eraseIdx j = kl.take j ++ (kl.drop j).filter (fun k => decide (k ≠ g)) := by
        rw [List.eraseIdx_append_of_lt_length (by rw [List.length_take]; omega), hdrop, e, List.filter_cons_of_neg (by simp)]
        congr 1
        rw [take_s hjl, List.eraseIdx_append_of_length_le (by rw [List.length_take]; omega), List.length_take, show j - min j kl.length = 0 by omega]
        simp
      have k1 := lok_erase (k := j) i1
      rw [era_map, hE] at k1
      have k2 := fr_sL (W := fun a => a = X + 3 ∨ ∃ k ∈ kl, a = va k) (a := X + 3) (xs := (kl.take j ++ (kl.drop j).filter (fun k => decide (k ≠ g))).map va) i3.ok (Or.inl rfl)
      refine ⟨_, ⟨k1, fun k hk => ?_, i3.th k2⟩, fun hq => ?_⟩
      · have ev : vpm kl vp g j k = vpm kl vp g (j + 1) k := by
          unfold vpm
          rw [hdrop, e]
          by_cases q : k = g
          · rw [if_neg (fun z => z.2.1 q), if_neg (fun z => z.2.1 q)]
          · simp [q]
        rw [ev]
        obtain ⟨v1, v2, v3, v4⟩ := (i2 k hk).ks
        have nvX : va k + 3 ≠ X + 3 := fun q => neK v1 g1 (by decide) (by omega)
        exact (i2 k hk).of (ce_sL (neK v1 gl (by decide))) (ce_sL (neK v2 gl (by decide))) (ce_sL (neK v3 gl (by decide))) (ce_sL nvX)
      · rw [ev_iload (M := MX6_forget) dX6_forget_18 (pc' := 20) rfl]
        simp (disch := omega) only [ev_aload_n (M := MX6_forget) (k := 0) rfl dX6_forget_0 (pc' := 1) rfl, ev_iload_n (M := MX6_forget) (k := 1) rfl dX6_forget_1 (pc' := 2) rfl, ev_iload_n (M := MX6_forget) (k := 2) rfl dX6_forget_2 (pc' := 3) rfl, ev_cV2 (M := MX6_forget) (kk := 8) dX6_forget_3 c_7_57 mX6_demandVersion rfl rfl (by decide) rfl (pc' := 6) rfl, ev_astore_n (M := MX6_forget) (k := 3) rfl dX6_forget_6 (by decide) (pc' := 7) rfl, ev_astore_nN (M := MX6_forget) (k := 3) rfl dX6_forget_6 (by decide) (pc' := 7) rfl, ev_aload_n (M := MX6_forget) (k := 0) rfl dX6_forget_7 (pc' := 8) rfl, ev_getR (M := MX6_forget) (f := 225) (kk := 8) f_7_21 rfl rfl rfl dX6_forget_8 (pc' := 11) rfl, ev_cL0 (M := MX6_forget) dX6_forget_11 c_7_93 mJx4a65c_size_8abf5 rfl rfl rfl (pc' := 14) rfl, ev_iconst (M := MX6_forget) (v := (nI 1)) rfl dX6_forget_14 (pc' := 15) rfl, ev_isub (M := MX6_forget) dX6_forget_15 (pc' := 16) rfl, ev_istore (M := MX6_forget) dX6_forget_16 (by decide) (pc' := 18) rfl, ev_if_lt (M := MX6_forget) (t := 68) dX6_forget_20 (by decide) (pc' := 23) rfl, ev_aload_n (M := MX6_forget) (k := 0) rfl dX6_forget_23 (pc' := 24) rfl, ev_getR (M := MX6_forget) (f := 225) (kk := 8) f_7_21 rfl rfl rfl dX6_forget_24 (pc' := 27) rfl, ev_iload (M := MX6_forget) dX6_forget_27 (pc' := 29) rfl, ev_cL1 (M := MX6_forget) dX6_forget_29 c_7_101 mJx4a65c_get_915e3 rfl rfl rfl (pc' := 32) rfl, ev_cast (M := MX6_forget) (c := 6) (kk := 7) k_7_62 (by decide) (by decide) rfl dX6_forget_32 (pc' := 35) rfl, ev_astore (M := MX6_forget) dX6_forget_35 (by decide) (pc' := 37) rfl, ev_astoreN (M := MX6_forget) dX6_forget_35 (by decide) (pc' := 37) rfl, ev_aload (M := MX6_forget) dX6_forget_37 (pc' := 39) rfl, ev_aload_n (M := MX6_forget) (k := 3) rfl dX6_forget_39 (pc' := 40) rfl, ev_acmp_ne (M := MX6_forget) (t := 56) dX6_forget_40 (by decide) (pc' := 43) rfl, ev_acmp_neN (M := MX6_forget) (t := 56) dX6_forget_40 (by decide), ev_aload_n (M := MX6_forget) (k := 0) rfl dX6_forget_43 (pc' := 44) rfl, ev_getR (M := MX6_forget) (f := 225) (kk := 8) f_7_21 rfl rfl rfl dX6_forget_44 (pc' := 47) rfl, ev_iload (M := MX6_forget) dX6_forget_47 (pc' := 49) rfl, ev_cL1 (M := MX6_forget) dX6_forget_49 c_7_134 mJx4a65c_remove_915e3 rfl rfl rfl (pc' := 52) rfl, ev_popI (M := MX6_forget) dX6_forget_52 (pc' := 53) rfl, ev_popR (M := MX6_forget) dX6_forget_52 (pc' := 53) rfl, ev_goto (M := MX6_forget) (pc' := 62) dX6_forget_53 (by decide), ev_aload (M := MX6_forget) dX6_forget_56 (pc' := 58) rfl, ev_aload_n (M := MX6_forget) (k := 3) rfl dX6_forget_58 (pc' := 59) rfl, ev_cV1 (M := MX6_forget) (kk := 7) dX6_forget_59 c_7_137 mX5_loseBase rfl rfl (by decide) rfl (pc' := 62) rfl, ev_iinc (M := MX6_forget) (v := (-1)) rfl dX6_forget_62 (by decide) (pc' := 65) rfl, ev_goto (M := MX6_forget) (pc' := 18) dX6_forget_65 (by decide), ev_aload_n (M := MX6_forget) (k := 3) rfl dX6_forget_68 (pc' := 69) rfl, ev_cV0 (M := MX6_forget) (kk := 7) dX6_forget_69 c_7_140 mX5_releaseEntries rfl rfl (by decide) rfl (pc' := 72) rfl, ev_aload_n (M := MX6_forget) (k := 0) rfl dX6_forget_72 (pc' := 73) rfl, ev_getR (M := MX6_forget) (f := 225) (kk := 8) f_7_21 rfl rfl rfl dX6_forget_73 (pc' := 76) rfl, ev_cL0 (M := MX6_forget) dX6_forget_76 c_7_93 mJx4a65c_size_8abf5 rfl rfl rfl (pc' := 79) rfl, ev_iret (M := MX6_forget) rfl dX6_forget_79, lI_some, lJ_some, lR_ref, lR_null, lD_some, lget_cons, ldel_cons, ldel_nil, evR_v, evR_0, evR_x, vrf_s, vrf_n, Value.category, Nat.reduceEqDiff, Nat.reduceAdd, Nat.reduceSub, Nat.reduceMul, Nat.reduceLeDiff, reduceIte, if_true, if_false, or_self, or_false, false_or, or_true, true_or, and_self, and_true, true_and, and_false, false_and, not_true_eq_false, not_false_eq_true, List.length_cons, List.length_nil, Nat.zero_le, Nat.add_eq_zero_iff, Nat.succ_ne_zero, Nat.zero_add, Nat.add_zero, nle_t, nle_f, nlt_t, nlt_f, neq_t, neq_f, i_lt0, i_le0, i_0le, i_0lt, i_eq0, i_lt, i_le, i_eq, nI_add, i_sub, i_cl, i_m1a, i_m1b, i_m1c, i_m1d, i_m1e, i_am1, i_ite0, iv_neg, hiv, g1, g2, gl, c_lgetm i1.is, hget, hxK, e, hgK, c_lremm i1.is, hE, iv_dec]
        exact ev_more (by repeat (first | exact trivial | refine ⟨rfl, ?_⟩)) (by exact rfl) (by exact rfl) hq
    · have ev1 : vpm kl vp g (j + 1) (kl.getD j 0) = vp (kl.getD j 0) := by
        unfold vpm
        rw [if_neg (fun z => hxn z.1)]
      have hvx := i2 _ hx
      rw [ev1] at hvx
      have cl := C_loseBase (d := d + 2) (w := va g) hvx.1 hvx.2.2.2.2.2.2.2.1
      have hne : ¬ va (kl.getD j 0) = va g := fun q => e (vi _ hx _ hgk q)
      have hcase : ((vp (kl.getD j 0)).map va = some (va g)) ↔ vp (kl.getD j 0) = some g := by
        cases e9 : vp (kl.getD j 0) with
        | none => exact ⟨(fun q => by cases q), (fun q => by cases q)⟩
        | some y =>
          constructor
          · intro q
            have q2 : va y = va g := Option.some.inj q
            rw [vi y ((h3.2 _ hx).2.1 y e9) g hgk q2]
          · intro q
            cases q
            rfl
      have hl9 : kl.take j ++ (kl.drop j).filter (fun k => decide (k ≠ g)) = kl.take (j + 1) ++ (kl.drop (j + 1)).filter (fun k => decide (k ≠ g)) := by
        rw [hdrop, List.filter_cons_of_pos (by simpa using e), take_s hjl, List.append_assoc]
        rfl
      have evo : ∀ k, k ≠ kl.getD j 0 → vpm kl vp g j k = vpm kl vp g (j + 1) k := by
        intro k hk
        unfold vpm
        rw [hdrop]
        simp only [List.mem_cons, hk, false_or]
      have evx : vpm kl vp g j (kl.getD j 0) = if vp (kl.getD j 0) = some g then none else vp (kl.getD j 0) := by
        unfold vpm
        rw [hdrop]
        simp only [List.mem_cons, true_or, true_and, ne_eq, e, not_false_eq_true]
      by_cases c9 : vp (kl.getD j 0) = some g
      · rw [if_pos (hcase.mpr c9)] at cl
        rw [if_pos c9] at evx
        have k2 := fr_sR (W := fun a => a = X + 3 ∨ ∃ k ∈ kl, a = va k) (f := 196) (a := va (kl.getD j 0)) (v := none) i3.ok (Or.inr ⟨_, hx, rfl⟩)
        refine ⟨_, ⟨?_, fun k hk => ?_, i3.th k2⟩, fun hq => ?_⟩
        · rw [hl9]
          exact i1.of (ce_sR (neK gl hxK (by decide)))
        · obtain ⟨v1, v2, v3, v4⟩ := (i2 k hk).ks
          by_cases ek : k = kl.getD j 0
          · subst ek
            rw [evx]
            obtain ⟨w1, w2, w3, w4, w5, w6, w7, w8, w9⟩ := hvx
            refine ⟨w1, w2, w3, by rw [tR_sR, up2_e, if_neg (by omega)]; exact w4, w5.of (ce_sR (by omega)) (ce_sR (by omega)), by rw [tR_sR, up2_e, if_neg (by omega)]; exact w6, w7.of (ce_sR (by omega)), by rw [tR_sR, up2_e, if_pos ⟨rfl, rfl⟩]; rfl, w9⟩
          · rw [evo k ek]
            have nv : va k ≠ va (kl.getD j 0) := fun q => ek (vi k hk _ hx q)
            exact (i2 k hk).of (ce_sR nv) (ce_sR (neK v2 hxK (by decide))) (ce_sR (neK v3 hxK (by decide))) (ce_sR (neK v4 hxK (by decide)))
        · rw [ev_iload (M := MX6_forget) dX6_forget_18 (pc' := 20) rfl]
          simp (disch := omega) only [ev_aload_n (M := MX6_forget) (k := 0) rfl dX6_forget_0 (pc' := 1) rfl, ev_iload_n (M := MX6_forget) (k := 1) rfl dX6_forget_1 (pc' := 2) rfl, ev_iload_n (M := MX6_forget) (k := 2) rfl dX6_forget_2 (pc' := 3) rfl, ev_cV2 (M := MX6_forget) (kk := 8) dX6_forget_3 c_7_57 mX6_demandVersion rfl rfl (by decide) rfl (pc' := 6) rfl, ev_astore_n (M := MX6_forget) (k := 3) rfl dX6_forget_6 (by decide) (pc' := 7) rfl, ev_astore_nN (M := MX6_forget) (k := 3) rfl dX6_forget_6 (by decide) (pc' := 7) rfl, ev_aload_n (M := MX6_forget) (k := 0) rfl dX6_forget_7 (pc' := 8) rfl, ev_getR (M := MX6_forget) (f := 225) (kk := 8) f_7_21 rfl rfl rfl dX6_forget_8 (pc' := 11) rfl, ev_cL0 (M := MX6_forget) dX6_forget_11 c_7_93 mJx4a65c_size_8abf5 rfl rfl rfl (pc' := 14) rfl, ev_iconst (M := MX6_forget) (v := (nI 1)) rfl dX6_forget_14 (pc' := 15) rfl, ev_isub (M := MX6_forget) dX6_forget_15 (pc' := 16) rfl, ev_istore (M := MX6_forget) dX6_forget_16 (by decide) (pc' := 18) rfl, ev_if_lt (M := MX6_forget) (t := 68) dX6_forget_20 (by decide) (pc' := 23) rfl, ev_aload_n (M := MX6_forget) (k := 0) rfl dX6_forget_23 (pc' := 24) rfl, ev_getR (M := MX6_forget) (f := 225) (kk := 8) f_7_21 rfl rfl rfl dX6_forget_24 (pc' := 27) rfl, ev_iload (M := MX6_forget) dX6_forget_27 (pc' := 29) rfl, ev_cL1 (M := MX6_forget) dX6_forget_29 c_7_101 mJx4a65c_get_915e3 rfl rfl rfl (pc' := 32) rfl, ev_cast (M := MX6_forget) (c := 6) (kk := 7) k_7_62 (by decide) (by decide) rfl dX6_forget_32 (pc' := 35) rfl, ev_astore (M := MX6_forget) dX6_forget_35 (by decide) (pc' := 37) rfl, ev_astoreN (M := MX6_forget) dX6_forget_35 (by decide) (pc' := 37) rfl, ev_aload (M := MX6_forget) dX6_forget_37 (pc' := 39) rfl, ev_aload_n (M := MX6_forget) (k := 3) rfl dX6_forget_39 (pc' := 40) rfl, ev_acmp_ne (M := MX6_forget) (t := 56) dX6_forget_40 (by decide) (pc' := 43) rfl, ev_acmp_neN (M := MX6_forget) (t := 56) dX6_forget_40 (by decide), ev_aload_n (M := MX6_forget) (k := 0) rfl dX6_forget_43 (pc' := 44) rfl, ev_getR (M := MX6_forget) (f := 225) (kk := 8) f_7_21 rfl rfl rfl dX6_forget_44 (pc' := 47) rfl, ev_iload (M := MX6_forget) dX6_forget_47 (pc' := 49) rfl, ev_cL1 (M := MX6_forget) dX6_forget_49 c_7_134 mJx4a65c_remove_915e3 rfl rfl rfl (pc' := 52) rfl, ev_popI (M := MX6_forget) dX6_forget_52 (pc' := 53) rfl, ev_popR (M := MX6_forget) dX6_forget_52 (pc' := 53) rfl, ev_goto (M := MX6_forget) (pc' := 62) dX6_forget_53 (by decide), ev_aload (M := MX6_forget) dX6_forget_56 (pc' := 58) rfl, ev_aload_n (M := MX6_forget) (k := 3) rfl dX6_forget_58 (pc' := 59) rfl, ev_cV1 (M := MX6_forget) (kk := 7) dX6_forget_59 c_7_137 mX5_loseBase rfl rfl (by decide) rfl (pc' := 62) rfl, ev_iinc (M := MX6_forget) (v := (-1)) rfl dX6_forget_62 (by decide) (pc' := 65) rfl, ev_goto (M := MX6_forget) (pc' := 18) dX6_forget_65 (by decide), ev_aload_n (M := MX6_forget) (k := 3) rfl dX6_forget_68 (pc' := 69) rfl, ev_cV0 (M := MX6_forget) (kk := 7) dX6_forget_69 c_7_140 mX5_releaseEntries rfl rfl (by decide) rfl (pc' := 72) rfl, ev_aload_n (M := MX6_forget) (k := 0) rfl dX6_forget_72 (pc' := 73) rfl, ev_getR (M := MX6_forget) (f := 225) (kk := 8) f_7_21 rfl rfl rfl dX6_forget_73 (pc' := 76) rfl, ev_cL0 (M := MX6_forget) dX6_forget_76 c_7_93 mJx4a65c_size_8abf5 rfl rfl rfl (pc' := 79) rfl, ev_iret (M := MX6_forget) rfl dX6_forget_79, lI_some, lJ_some, lR_ref, lR_null, lD_some, lget_cons, ldel_cons, ldel_nil, evR_v, evR_0, evR_x, vrf_s, vrf_n, Value.category, Nat.reduceEqDiff, Nat.reduceAdd, Nat.reduceSub, Nat.reduceMul, Nat.reduceLeDiff, reduceIte, if_true, if_false, or_self, or_false, false_or, or_true, true_or, and_self, and_true, true_and, and_false, false_and, not_true_eq_false, not_false_eq_true, List.length_cons, List.length_nil, Nat.zero_le, Nat.add_eq_zero_iff, Nat.succ_ne_zero, Nat.zero_add, Nat.add_zero, nle_t, nle_f, nlt_t, nlt_f, neq_t, neq_f, i_lt0, i_le0, i_0le, i_0lt, i_eq0, i_lt, i_le, i_eq, nI_add, i_sub, i_cl, i_m1a, i_m1b, i_m1c, i_m1d, i_m1e, i_am1, i_ite0, iv_neg, hiv, g1, g2, gl, c_lgetm i1.is, hget, hxK, hne, hgK, cq cl, iv_dec]
          exact ev_more (by repeat (first | exact trivial | refine ⟨rfl, ?_⟩)) (by exact rfl) (by exact rfl) hq
      · rw [if_neg (fun q => c9 (hcase.mp q))] at cl
        rw [if_neg c9] at evx
        refine ⟨T1, ⟨by rw [hl9]; exact i1, fun k hk => ?_, i3⟩, fun hq => ?_⟩
        · by_cases ek : k = kl.getD j 0
          · rw [ek, evx]
            exact hvx
          · rw [evo k ek]
            exact i2 k hk
        · rw [ev_iload (M := MX6_forget) dX6_forget_18 (pc' := 20) rfl]
          simp (disch := omega) only [ev_aload_n (M := MX6_forget) (k := 0) rfl dX6_forget_0 (pc' := 1) rfl, ev_iload_n (M := MX6_forget) (k := 1) rfl dX6_forget_1 (pc' := 2) rfl, ev_iload_n (M := MX6_forget) (k := 2) rfl dX6_forget_2 (pc' := 3) rfl, ev_cV2 (M := MX6_forget) (kk := 8) dX6_forget_3 c_7_57 mX6_demandVersion rfl rfl (by decide) rfl (pc' := 6) rfl, ev_astore_n (M := MX6_forget) (k := 3) rfl dX6_forget_6 (by decide) (pc' := 7) rfl, ev_astore_nN (M := MX6_forget) (k := 3) rfl dX6_forget_6 (by decide) (pc' := 7) rfl, ev_aload_n (M := MX6_forget) (k := 0) rfl dX6_forget_7 (pc' := 8) rfl, ev_getR (M := MX6_forget) (f := 225) (kk := 8) f_7_21 rfl rfl rfl dX6_forget_8 (pc' := 11) rfl, ev_cL0 (M := MX6_forget) dX6_forget_11 c_7_93 mJx4a65c_size_8abf5 rfl rfl rfl (pc' := 14) rfl, ev_iconst (M := MX6_forget) (v := (nI 1)) rfl dX6_forget_14 (pc' := 15) rfl, ev_isub (M := MX6_forget) dX6_forget_15 (pc' := 16) rfl, ev_istore (M := MX6_forget) dX6_forget_16 (by decide) (pc' := 18) rfl, ev_if_lt (M := MX6_forget) (t := 68) dX6_forget_20 (by decide) (pc' := 23) rfl, ev_aload_n (M := MX6_forget) (k := 0) rfl dX6_forget_23 (pc' := 24) rfl, ev_getR (M := MX6_forget) (f := 225) (kk := 8) f_7_21 rfl rfl rfl dX6_forget_24 (pc' := 27) rfl, ev_iload (M := MX6_forget) dX6_forget_27 (pc' := 29) rfl, ev_cL1 (M := MX6_forget) dX6_forget_29 c_7_101 mJx4a65c_get_915e3 rfl rfl rfl (pc' := 32) rfl, ev_cast (M := MX6_forget) (c := 6) (kk := 7) k_7_62 (by decide) (by decide) rfl dX6_forget_32 (pc' := 35) rfl, ev_astore (M := MX6_forget) dX6_forget_35 (by decide) (pc' := 37) rfl, ev_astoreN (M := MX6_forget) dX6_forget_35 (by decide) (pc' := 37) rfl, ev_aload (M := MX6_forget) dX6_forget_37 (pc' := 39) rfl, ev_aload_n (M := MX6_forget) (k := 3) rfl dX6_forget_39 (pc' := 40) rfl, ev_acmp_ne (M := MX6_forget) (t := 56) dX6_forget_40 (by decide) (pc' := 43) rfl, ev_acmp_neN (M := MX6_forget) (t := 56) dX6_forget_40 (by decide), ev_aload_n (M := MX6_forget) (k := 0) rfl dX6_forget_43 (pc' := 44) rfl, ev_getR (M := MX6_forget) (f := 225) (kk := 8) f_7_21 rfl rfl rfl dX6_forget_44 (pc' := 47) rfl, ev_iload (M := MX6_forget) dX6_forget_47 (pc' := 49) rfl, ev_cL1 (M := MX6_forget) dX6_forget_49 c_7_134 mJx4a65c_remove_915e3 rfl rfl rfl (pc' := 52) rfl, ev_popI (M := MX6_forget) dX6_forget_52 (pc' := 53) rfl, ev_popR (M := MX6_forget) dX6_forget_52 (pc' := 53) rfl, ev_goto (M := MX6_forget) (pc' := 62) dX6_forget_53 (by decide), ev_aload (M := MX6_forget) dX6_forget_56 (pc' := 58) rfl, ev_aload_n (M := MX6_forget) (k := 3) rfl dX6_forget_58 (pc' := 59) rfl, ev_cV1 (M := MX6_forget) (kk := 7) dX6_forget_59 c_7_137 mX5_loseBase rfl rfl (by decide) rfl (pc' := 62) rfl, ev_iinc (M := MX6_forget) (v := (-1)) rfl dX6_forget_62 (by decide) (pc' := 65) rfl, ev_goto (M := MX6_forget) (pc' := 18) dX6_forget_65 (by decide), ev_aload_n (M := MX6_forget) (k := 3) rfl dX6_forget_68 (pc' := 69) rfl, ev_cV0 (M := MX6_forget) (kk := 7) dX6_forget_69 c_7_140 mX5_releaseEntries rfl rfl (by decide) rfl (pc' := 72) rfl, ev_aload_n (M := MX6_forget) (k := 0) rfl dX6_forget_72 (pc' := 73) rfl, ev_getR (M := MX6_forget) (f := 225) (kk := 8) f_7_21 rfl rfl rfl dX6_forget_73 (pc' := 76) rfl, ev_cL0 (M := MX6_forget) dX6_forget_76 c_7_93 mJx4a65c_size_8abf5 rfl rfl rfl (pc' := 79) rfl, ev_iret (M := MX6_forget) rfl dX6_forget_79, lI_some, lJ_some, lR_ref, lR_null, lD_some, lget_cons, ldel_cons, ldel_nil, evR_v, evR_0, evR_x, vrf_s, vrf_n, Value.category, Nat.reduceEqDiff, Nat.reduceAdd, Nat.reduceSub, Nat.reduceMul, Nat.reduceLeDiff, reduceIte, if_true, if_false, or_self, or_false, false_or, or_true, true_or, and_self, and_true, true_and, and_false, false_and, not_true_eq_false, not_false_eq_true, List.length_cons, List.length_nil, Nat.zero_le, Nat.add_eq_zero_iff, Nat.succ_ne_zero, Nat.zero_add, Nat.add_zero, nle_t, nle_f, nlt_t, nlt_f, neq_t, neq_f, i_lt0, i_le0, i_0le, i_0lt, i_eq0, i_lt, i_le, i_eq, nI_add, i_sub, i_cl, i_m1a, i_m1b, i_m1c, i_m1d, i_m1e, i_am1, i_ite0, iv_neg, hiv, g1, g2, gl, c_lgetm i1.is, hget, hxK, hne, hgK, cq cl, iv_dec]
          exact ev_more (by repeat (first | exact trivial | refine ⟨rfl, ?_⟩)) (by exact rfl) (by exact rfl) hq
  · rintro T1 ⟨i1, i2, i3⟩
    rw [Nat.sub_self] at i1 i2 ⊢
    rw [List.take_zero, List.nil_append, List.drop_zero] at i1
    have nW : ∀ a, (a = X + 3 ∨ ∃ k ∈ kl, a = va k) → ¬ shD (X + 5) ba ca bl cs co a := by
      rintro a (q | ⟨k, hk, q⟩)
      · rw [q]
        exact h4.notL hK rfl (by rw [r2]; decide) (by rw [r2]; decide) (by rw [r2]; decide)
      · rw [q]
        exact h4.notK (Or.inl (h3.2 k hk).1.1)
    have S1 := h4.nw i3 nW
    have hX1 : ∀ a k, tK T a = k + 1 → k ≠ 6 → a ≠ X + 3 → cell T1 a = cell T a := fun a k ha hk hn => i3.ce ha (fun q => by
      rcases q with q | ⟨k', hk', q⟩
      · exact hn q
      · have := (h3.2 k' hk').1.1
        rw [q, this] at ha
        omega)
    have e0 := hX1 X 7 x1 (by decide) (by omega)
    have g1 : tK T1 X = 8 := by rw [ce_K e0]; exact x1
    have g2 : tR T1 225 X = some (X + 3) := by rw [ce_R e0]; exact x3
    obtain ⟨_, T2, c2, rfl, j1, j2⟩ := C_release (d := d + 1) i3.ok (i2 g hgk) S1 (h5 g hgk) hu
    have nW2 : ∀ a, (∃ k ∈ bl, ∃ n ∈ co k, a = ca n) → tK T1 a = 2 := by
      rintro a ⟨k, hk, n, hn, q⟩
      rw [q]; exact (S1.kn hk hn).1
    have hX2 : ∀ a k, tK T1 a = k + 1 → k ≠ 1 → cell T2 a = cell T1 a := fun a k ha hk => j2.ce ha (fun q => by
      have := nW2 a q
      omega)
    have hgK := (i2 _ hgk).1
    have gl := i1.1
    have L2 := i1.of (hX2 _ 22 gl (by decide))
    have gl2 := L2.1
    have f0 := hX2 X 7 g1 (by decide)
    have g12 : tK T2 X = 8 := by rw [ce_K f0]; exact g1
    have g22 : tR T2 225 X = some (X + 3) := by rw [ce_R f0]; exact g2
    have key : ∀ Q : Post, Q (.inl (some (.int (nI (kl.filter (fun k => decide (k ≠ g))).length)))) T2 → Ev (d + 3) MX6_forget [] 18 [(4, .int (iv 0)), (3, .ref (va g)), (0, .ref X), (1, .int f), (2, .int v)] [] T1 Q := by
      intro Q hQ
      rw [ev_iload (M := MX6_forget) dX6_forget_18 (pc' := 20) rfl]
      simp (disch := omega) only [ev_aload_n (M := MX6_forget) (k := 0) rfl dX6_forget_0 (pc' := 1) rfl, ev_iload_n (M := MX6_forget) (k := 1) rfl dX6_forget_1 (pc' := 2) rfl, ev_iload_n (M := MX6_forget) (k := 2) rfl dX6_forget_2 (pc' := 3) rfl, ev_cV2 (M := MX6_forget) (kk := 8) dX6_forget_3 c_7_57 mX6_demandVersion rfl rfl (by decide) rfl (pc' := 6) rfl, ev_astore_n (M := MX6_forget) (k := 3) rfl dX6_forget_6 (by decide) (pc' := 7) rfl, ev_astore_nN (M := MX6_forget) (k := 3) rfl dX6_forget_6 (by decide) (pc' := 7) rfl, ev_aload_n (M := MX6_forget) (k := 0) rfl dX6_forget_7 (pc' := 8) rfl, ev_getR (M := MX6_forget) (f := 225) (kk := 8) f_7_21 rfl rfl rfl dX6_forget_8 (pc' := 11) rfl, ev_cL0 (M := MX6_forget) dX6_forget_11 c_7_93 mJx4a65c_size_8abf5 rfl rfl rfl (pc' := 14) rfl, ev_iconst (M := MX6_forget) (v := (nI 1)) rfl dX6_forget_14 (pc' := 15) rfl, ev_isub (M := MX6_forget) dX6_forget_15 (pc' := 16) rfl, ev_istore (M := MX6_forget) dX6_forget_16 (by decide) (pc' := 18) rfl, ev_if_lt (M := MX6_forget) (t := 68) dX6_forget_20 (by decide) (pc' := 23) rfl, ev_aload_n (M := MX6_forget) (k := 0) rfl dX6_forget_23 (pc' := 24) rfl, ev_getR (M := MX6_forget) (f := 225) (kk := 8) f_7_21 rfl rfl rfl dX6_forget_24 (pc' := 27) rfl, ev_iload (M := MX6_forget) dX6_forget_27 (pc' := 29) rfl, ev_cL1 (M := MX6_forget) dX6_forget_29 c_7_101 mJx4a65c_get_915e3 rfl rfl rfl (pc' := 32) rfl, ev_cast (M := MX6_forget) (c := 6) (kk := 7) k_7_62 (by decide) (by decide) rfl dX6_forget_32 (pc' := 35) rfl, ev_astore (M := MX6_forget) dX6_forget_35 (by decide) (pc' := 37) rfl, ev_astoreN (M := MX6_forget) dX6_forget_35 (by decide) (pc' := 37) rfl, ev_aload (M := MX6_forget) dX6_forget_37 (pc' := 39) rfl, ev_aload_n (M := MX6_forget) (k := 3) rfl dX6_forget_39 (pc' := 40) rfl, ev_acmp_ne (M := MX6_forget) (t := 56) dX6_forget_40 (by decide) (pc' := 43) rfl, ev_acmp_neN (M := MX6_forget) (t := 56) dX6_forget_40 (by decide), ev_aload_n (M := MX6_forget) (k := 0) rfl dX6_forget_43 (pc' := 44) rfl, ev_getR (M := MX6_forget) (f := 225) (kk := 8) f_7_21 rfl rfl rfl dX6_forget_44 (pc' := 47) rfl, ev_iload (M := MX6_forget) dX6_forget_47 (pc' := 49) rfl, ev_cL1 (M := MX6_forget) dX6_forget_49 c_7_134 mJx4a65c_remove_915e3 rfl rfl rfl (pc' := 52) rfl, ev_popI (M := MX6_forget) dX6_forget_52 (pc' := 53) rfl, ev_popR (M := MX6_forget) dX6_forget_52 (pc' := 53) rfl, ev_goto (M := MX6_forget) (pc' := 62) dX6_forget_53 (by decide), ev_aload (M := MX6_forget) dX6_forget_56 (pc' := 58) rfl, ev_aload_n (M := MX6_forget) (k := 3) rfl dX6_forget_58 (pc' := 59) rfl, ev_cV1 (M := MX6_forget) (kk := 7) dX6_forget_59 c_7_137 mX5_loseBase rfl rfl (by decide) rfl (pc' := 62) rfl, ev_iinc (M := MX6_forget) (v := (-1)) rfl dX6_forget_62 (by decide) (pc' := 65) rfl, ev_goto (M := MX6_forget) (pc' := 18) dX6_forget_65 (by decide), ev_aload_n (M := MX6_forget) (k := 3) rfl dX6_forget_68 (pc' := 69) rfl, ev_cV0 (M := MX6_forget) (kk := 7) dX6_forget_69 c_7_140 mX5_releaseEntries rfl rfl (by decide) rfl (pc' := 72) rfl, ev_aload_n (M := MX6_forget) (k := 0) rfl dX6_forget_72 (pc' := 73) rfl, ev_getR (M := MX6_forget) (f := 225) (kk := 8) f_7_21 rfl rfl rfl dX6_forget_73 (pc' := 76) rfl, ev_cL0 (M := MX6_forget) dX6_forget_76 c_7_93 mJx4a65c_size_8abf5 rfl rfl rfl (pc' := 79) rfl, ev_iret (M := MX6_forget) rfl dX6_forget_79, lI_some, lJ_some, lR_ref, lR_null, lD_some, lget_cons, ldel_cons, ldel_nil, evR_v, evR_0, evR_x, vrf_s, vrf_n, Value.category, Nat.reduceEqDiff, Nat.reduceAdd, Nat.reduceSub, Nat.reduceMul, Nat.reduceLeDiff, reduceIte, if_true, if_false, or_self, or_false, false_or, or_true, true_or, and_self, and_true, true_and, and_false, false_and, not_true_eq_false, not_false_eq_true, List.length_cons, List.length_nil, Nat.zero_le, Nat.add_eq_zero_iff, Nat.succ_ne_zero, Nat.zero_add, Nat.add_zero, nle_t, nle_f, nlt_t, nlt_f, neq_t, neq_f, i_lt0, i_le0, i_0le, i_0lt, i_eq0, i_lt, i_le, i_eq, nI_add, i_sub, i_cl, i_m1a, i_m1b, i_m1c, i_m1d, i_m1e, i_am1, i_ite0, iv_neg, hgK, cq c2, g12, g22, gl2, c_lsizem L2.is]
      exact hQ
    have FF := (i3.wd (W' := fun a => a = X + 3 ∨ (∃ k ∈ kl, a = va k) ∨ ∃ k ∈ bl, ∃ n ∈ co k, a = ca n) (Nat.le_refl _) (Nat.le_refl _) (fun a _ q => q.elim Or.inl (fun q => Or.inr (Or.inl q)))).th (j2.wd (W' := fun a => a = X + 3 ∨ (∃ k ∈ kl, a = va k) ∨ ∃ k ∈ bl, ∃ n ∈ co k, a = ca n) (Nat.le_refl _) (Nat.le_refl _) (fun a _ q => Or.inr (Or.inr q)))
    refine key _ ⟨rfl, ⟨⟨g12, ?_, g22, ?_, ?_, ?_, x7⟩, ⟨?_, hd⟩, ?_, ⟨⟨L2, fun k hk => ?_⟩, ?_⟩, j1, fun k hk n hn => h5 k (List.mem_filter.mp hk).1 n hn⟩, FF⟩
    · rw [ce_R f0, ce_R e0]; exact x2
    · rw [ce_R f0, ce_R e0]; exact x4
    · rw [ce_R f0, ce_R e0]; exact x5
    · rw [ce_I f0, ce_I e0]; exact x6
    · have b1 := hX1 _ 4 r1 (by decide) (by omega)
      have b2 := hX1 _ 19 r2 (by decide) (by omega)
      have hh := h1.of b1 b2
      exact hh.of (hX2 _ 4 hh.1 (by decide)) (hX2 _ 19 hh.2.2.2.1 (by decide))
    · have b1 := hX1 _ 19 h2.1 (by decide) (by omega)
      have b2 := hX2 (X + 4) 19 (by rw [ce_K b1]; exact h2.1) (by decide)
      rw [ce_K b2, ce_l b2, ce_A b2, ce_K b1, ce_l b1, ce_A b1]
      exact h2
    · obtain ⟨hk1, hk2⟩ := List.mem_filter.mp hk
      have hk2 : k ≠ g := by simpa using hk2
      have ev : vpm kl vp g 0 k = if vp k = some g then none else vp k := by
        unfold vpm
        rw [List.drop_zero]
        by_cases q : vp k = some g
        · rw [if_pos ⟨hk1, hk2, q⟩, if_pos q]
        · rw [if_neg (fun z => q z.2.2), if_neg q]
      have hv := i2 k hk1
      rw [ev] at hv
      obtain ⟨v1, v2, v3, v4⟩ := hv.ks
      refine ⟨hv.of (hX2 _ 6 v1 (by decide)) (hX2 _ 4 v2 (by decide)) (hX2 _ 19 v3 (by decide)) (hX2 _ 22 v4 (by decide)), fun y hy => ?_, (h3.2 k hk1).2.2⟩
      by_cases q : vp k = some g
      · simp only [if_pos q] at hy
        cases hy
      · simp only [if_neg q] at hy
        refine List.mem_filter.mpr ⟨(h3.2 k hk1).2.1 y hy, ?_⟩
        rw [decide_eq_true_eq]
        exact fun z => q (z ▸ hy)
    · exact Nat.le_trans (List.length_filter_le _ _) h320
  · have ev : vpm kl vp g (kl.length - 0) k = vp k := by
      unfold vpm
      rw [Nat.sub_zero, List.drop_of_length_le (Nat.le_refl _), if_neg (fun z => nomatch z.1)]
    rw [ev]
    exact (h3.2 k hk).1
end FGT
