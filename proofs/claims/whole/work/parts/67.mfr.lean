/-! the reference: its frame; the cache's use -/
section MFR
variable {d m : Nat} {dr kl : List Nat} {vf vn : Nat → Nat} {vb ve : Nat → List Nat} {vp : Nat → Option Nat} {nx : Nat → Nat} {rw : List Nat} {bx sf : Nat → Nat} {cb : Nat → List Nat} {ud st op : Nat} {cs : List Nat} {hi re : Nat} {T T' T'' : TS}
/-- a step of the reference: nothing is made, only its own is written -/
def ms (m : Nat) (T T' : TS) : Prop := tn T' = tn T ∧ tu T' = tu T ∧ tK T' = tK T ∧ tR T' = tR T ∧ tl T' = tl T ∧ ∀ a, a < m ∨ m + 15 < a → cell T' a = cell T a
theorem ms.rf : ms m T T := ⟨rfl, rfl, rfl, rfl, rfl, fun _ _ => rfl⟩
theorem ms.tr (h : ms m T T') (h' : ms m T' T'') : ms m T T'' := by
  obtain ⟨a1, a2, a3, a4, a5, a6⟩ := h
  obtain ⟨b1, b2, b3, b4, b5, b6⟩ := h'
  exact ⟨b1.trans a1, b2.trans a2, b3.trans a3, b4.trans a4, b5.trans a5, fun a ha => (b6 a ha).trans (a6 a ha)⟩
theorem ms.sI {f : Nat} {v : Int32} : ms m T (sI f m v T) := ⟨rfl, rfl, rfl, rfl, rfl, fun a ha => ce_sI (by omega)⟩
theorem ms.sA {i j : Nat} {v : Int32} (hi : i ≤ 15) : ms m T (sA (m + i) j v T) := ⟨rfl, rfl, rfl, rfl, rfl, fun a ha => ce_sA (by omega)⟩
theorem ms.sAs {i : Nat} {g : Nat → Int32} (hi : i ≤ 15) : ms m T (sAs (m + i) g T) := ⟨rfl, rfl, rfl, rfl, rfl, fun a ha => ce_sAs (by omega)⟩
theorem ms.okw (h : ms m T T') (hw : wf T) : wf T' := by
  obtain ⟨a1, a2, a3, -⟩ := h
  intro a ha
  rw [a3]
  exact hw a (by omega)
theorem ms.frm (h : ms m T T') (hw : wf T) : fr (fun a => m ≤ a ∧ a ≤ m + 15) 0 0 T T' := by
  have h0 := h.okw hw
  obtain ⟨a1, a2, a3, a4, a5, a6⟩ := h
  exact ⟨h0, by omega, by omega, by omega, by omega, fun a _ hn => a6 a (by omega)⟩
theorem mdl.ms (h : mdl T m) (hs : ms m T T') : mdl T' m := by
  obtain ⟨a1, a2, a3, a4, a5, a6⟩ := hs
  unfold mdl
  rw [a3, a4, a5]
  exact h
/-- what is read of it -/
theorem MR.of (h : MR T m dr kl vf vn vb ve vp nx rw bx sf cb ud st op cs hi re) (hs : ms m T T') (e1 : ∀ i, 1 ≤ i → i ≤ 15 → tA T' (m + i) = tA T (m + i)) (e2 : ∀ f, f ≠ 278 → tI T' f m = tI T f m) : MR T' m dr kl vf vn vb ve vp nx rw bx sf cb ud st op cs hi re := by
  obtain ⟨h1, h2, h3, h4, h5, h6, h7, h8⟩ := h
  refine ⟨h1.ms hs, ?_, ?_, ?_, ?_, ?_, ?_, h8⟩
  · unfold mDr
    rw [e2 256 (by decide), e1 1 (by omega) (by omega)]
    exact h2
  · unfold mVe
    rw [e1 2 (by omega) (by omega), e1 3 (by omega) (by omega), e1 4 (by omega) (by omega), e1 5 (by omega) (by omega), e1 6 (by omega) (by omega), e1 7 (by omega) (by omega), e1 8 (by omega) (by omega)]
    exact h3
  · rw [e1 9 (by omega) (by omega)]
    exact h4
  · unfold mRo
    rw [e2 266 (by decide), e1 10 (by omega) (by omega), e1 11 (by omega) (by omega), e1 12 (by omega) (by omega), e1 13 (by omega) (by omega), e1 14 (by omega) (by omega)]
    exact h5
  · unfold mCa
    rw [e1 15 (by omega) (by omega)]
    exact h6
  · rw [e2 267 (by decide), e2 272 (by decide), e2 274 (by decide), e2 276 (by decide), e2 277 (by decide)]
    exact h7
theorem MR.th {v : Int32} (h : MR T m dr kl vf vn vb ve vp nx rw bx sf cb ud st op cs hi re) : MR (sI 278 m v T) m dr kl vf vn vb ve vp nx rw bx sf cb ud st op cs hi re :=
  h.of ms.sI (fun _ _ _ => rfl) (fun f hf => by rw [tI_sI, up2_e, if_neg (fun q => hf q.1)])
/-- other objects' steps leave it -/
theorem MR.ce (h : MR T m dr kl vf vn vb ve vp nx rw bx sf cb ud st op cs hi re) (e : ∀ a, m ≤ a → a ≤ m + 15 → cell T' a = cell T a) : MR T' m dr kl vf vn vb ve vp nx rw bx sf cb ud st op cs hi re := by
  have e0 := e m (by omega) (by omega)
  have ee : ∀ i, i ≤ 15 → cell T' (m + i) = cell T (m + i) := fun i hi => e _ (by omega) (by omega)
  obtain ⟨⟨q1, q2, q3, q4⟩, h2, h3, h4, h5, h6, h7, h8⟩ := h
  refine ⟨⟨by rw [ce_K e0]; exact q1, by rw [ce_R e0, ce_R e0, ce_R e0, ce_R e0, ce_R e0, ce_R e0, ce_R e0, ce_R e0, ce_R e0, ce_R e0, ce_R e0, ce_R e0, ce_R e0, ce_R e0, ce_R e0]; exact q2, ?_, ?_⟩, ?_, ?_, ?_, ?_, ?_, ?_, h8⟩
  · rw [ce_K (ee 1 (by omega)), ce_K (ee 2 (by omega)), ce_K (ee 3 (by omega)), ce_K (ee 4 (by omega)), ce_K (ee 5 (by omega)), ce_K (ee 6 (by omega)), ce_K (ee 7 (by omega)), ce_K (ee 8 (by omega)), ce_K (ee 9 (by omega)), ce_K (ee 10 (by omega)), ce_K (ee 11 (by omega)), ce_K (ee 12 (by omega)), ce_K (ee 13 (by omega)), ce_K (ee 14 (by omega)), ce_K (ee 15 (by omega))]
    exact q3
  · rw [ce_l (ee 1 (by omega)), ce_l (ee 2 (by omega)), ce_l (ee 3 (by omega)), ce_l (ee 4 (by omega)), ce_l (ee 5 (by omega)), ce_l (ee 6 (by omega)), ce_l (ee 7 (by omega)), ce_l (ee 8 (by omega)), ce_l (ee 9 (by omega)), ce_l (ee 10 (by omega)), ce_l (ee 11 (by omega)), ce_l (ee 12 (by omega)), ce_l (ee 13 (by omega)), ce_l (ee 14 (by omega)), ce_l (ee 15 (by omega))]
    exact q4
  · unfold mDr
    rw [ce_I e0, ce_A (ee 1 (by omega))]
    exact h2
  · unfold mVe
    rw [ce_A (ee 2 (by omega)), ce_A (ee 3 (by omega)), ce_A (ee 4 (by omega)), ce_A (ee 5 (by omega)), ce_A (ee 6 (by omega)), ce_A (ee 7 (by omega)), ce_A (ee 8 (by omega))]
    exact h3
  · rw [ce_A (ee 9 (by omega))]
    exact h4
  · unfold mRo
    rw [ce_I e0, ce_A (ee 10 (by omega)), ce_A (ee 11 (by omega)), ce_A (ee 12 (by omega)), ce_A (ee 13 (by omega)), ce_A (ee 14 (by omega))]
    exact h5
  · unfold mCa
    rw [ce_A (ee 15 (by omega))]
    exact h6
  · rw [ce_I e0, ce_I e0, ce_I e0, ce_I e0, ce_I e0]
    exact h7
/-- the new cache's row -/
def useG (c : Int32) (g : Nat → Int32) (j : Nat) : Int32 := if j = 0 then c else if j = 1 then (lcV c g 3).1 0 else if j = 2 then (lcV c g 3).1 1 else (lcV c g 3).1 j
theorem C_useG {c : Int32} (m1 : tK T m = 9) (r15 : tR T 275 m = some (m + 15)) (k15 : tK T (m + 15) = 20) (l15 : tl T (m + 15) = 4) : Call (d + 2) 150 [.ref m, .int c] T (.inl none) (sAs (m + 15) (useG c (tA T (m + 15))) T) := by
  have hc := C_leaveG (d := d) (c := c) m1 r15 k15 l15
  have hg : useG c (tA T (m + 15)) = fun j => if j = 0 then c else if j = 1 then (lcV c (tA T (m + 15)) 3).1 0 else if j = 2 then (lcV c (tA T (m + 15)) 3).1 1 else (lcV c (tA T (m + 15)) 3).1 j := rfl
  rw [hg]
  generalize (lcV c (tA T (m + 15)) 3).1 = g at *
  have key : ∀ Q : Post, Q (.inl none) (sAs (m + 15) (fun j => if j = 0 then c else if j = 1 then g 0 else if j = 2 then g 1 else g j) T) → CallQ (d + 2) 150 [.ref m, .int c] T Q := by
    intro Q hQ
    have e : (fun j => if j = 0 then c else if j = 1 then g 0 else if j = 2 then g 1 else g j) = fun j => if j = 0 then c else (if j = 1 then (if 0 = 2 then g 1 else g 0) else (if j = 2 then g 1 else g j)) := by
      funext j
      rfl
    rw [e] at hQ
    simp (disch := omega) only [ev_aload_n (M := MX7_use) (k := 0) rfl dX7_use_0 (pc' := 1) rfl, ev_iload_n (M := MX7_use) (k := 1) rfl dX7_use_1 (pc' := 2) rfl, ev_cV1 (M := MX7_use) (kk := 9) dX7_use_2 c_8_90 mX7_leaveCache rfl rfl (by decide) rfl (pc' := 5) rfl, ev_aload_n (M := MX7_use) (k := 0) rfl dX7_use_5 (pc' := 6) rfl, ev_getR (M := MX7_use) (f := 275) (kk := 9) f_8_54 rfl rfl rfl dX7_use_6 (pc' := 9) rfl, ev_iconst (M := MX7_use) (v := (nI 2)) rfl dX7_use_9 (pc' := 10) rfl, ev_aload_n (M := MX7_use) (k := 0) rfl dX7_use_10 (pc' := 11) rfl, ev_getR (M := MX7_use) (f := 275) (kk := 9) f_8_54 rfl rfl rfl dX7_use_11 (pc' := 14) rfl, ev_iconst (M := MX7_use) (v := (nI 1)) rfl dX7_use_14 (pc' := 15) rfl, ev_iald (M := MX7_use) dX7_use_15 (pc' := 16) rfl, ev_iast (M := MX7_use) dX7_use_16 (pc' := 17) rfl, ev_aload_n (M := MX7_use) (k := 0) rfl dX7_use_17 (pc' := 18) rfl, ev_getR (M := MX7_use) (f := 275) (kk := 9) f_8_54 rfl rfl rfl dX7_use_18 (pc' := 21) rfl, ev_iconst (M := MX7_use) (v := (nI 1)) rfl dX7_use_21 (pc' := 22) rfl, ev_aload_n (M := MX7_use) (k := 0) rfl dX7_use_22 (pc' := 23) rfl, ev_getR (M := MX7_use) (f := 275) (kk := 9) f_8_54 rfl rfl rfl dX7_use_23 (pc' := 26) rfl, ev_iconst (M := MX7_use) (v := (nI 0)) rfl dX7_use_26 (pc' := 27) rfl, ev_iald (M := MX7_use) dX7_use_27 (pc' := 28) rfl, ev_iast (M := MX7_use) dX7_use_28 (pc' := 29) rfl, ev_aload_n (M := MX7_use) (k := 0) rfl dX7_use_29 (pc' := 30) rfl, ev_getR (M := MX7_use) (f := 275) (kk := 9) f_8_54 rfl rfl rfl dX7_use_30 (pc' := 33) rfl, ev_iconst (M := MX7_use) (v := (nI 0)) rfl dX7_use_33 (pc' := 34) rfl, ev_iload_n (M := MX7_use) (k := 1) rfl dX7_use_34 (pc' := 35) rfl, ev_iast (M := MX7_use) dX7_use_35 (pc' := 36) rfl, ev_vret (M := MX7_use) rfl dX7_use_36, uX7_use, lI_some, lR_ref, lR_null, lD_some, lget_cons, ldel_cons, ldel_nil, evR_v, evR_0, evR_x, vrf_s, vrf_n, Value.category, Nat.reduceEqDiff, Nat.reduceAdd, Nat.reduceSub, Nat.reduceMul, Nat.reduceLeDiff, reduceIte, if_true, if_false, or_self, or_false, false_or, or_true, true_or, and_self, and_true, true_and, and_false, false_and, not_true_eq_false, not_false_eq_true, List.length_cons, List.length_nil, Nat.zero_le, Nat.add_eq_zero_iff, Nat.succ_ne_zero, Nat.zero_add, Nat.add_zero, nle_t, nle_f, nlt_t, nlt_f, neq_t, neq_f, i_lt0, i_le0, i_0le, i_0lt, i_eq0, i_lt, i_le, i_eq, nI_add, i_sub, i_cl, i_m1a, i_m1b, i_m1c, i_m1d, i_m1e, i_am1, i_ite0, cq hc, tK_sAs, tR_sAs, tl_sAs, sAs_tA, sA_sAs, m1, r15, k15, l15]
    exact hQ
  exact Call_of (key _ ⟨rfl, rfl⟩)
end MFR
