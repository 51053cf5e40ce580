/-! DedupVault$Shelf: a container that is opened, a chunk that is stored -/
section SHN
variable {d s : Nat} {ba ca us : Nat → Nat} {cb : Nat → List Nat} {bl cs : List Nat} {co : Nat → List Nat} {op hi re st : Nat} {T : TS}
theorem SH.notin (h : SH T s ba ca cb us bl co op cs hi re st) : op + 1 ∉ bl := fun q => by
  have := (h.2.2.1 _ q).2
  omega
theorem SH.lens (h : SH T s ba ca cb us bl co op cs hi re st) : bl.length ≤ 1500 ∧ cs.length ≤ 3 ∧ st < 1000000 := ⟨h.2.2.2.2.2.1, h.2.2.2.2.2.2.1, h.2.2.2.2.2.2.2.1⟩
theorem boxO.ext {T : TS} {ba ba' ca ca' us us' : Nat → Nat} {cb cb' : Nat → List Nat} {k : Nat} {ns : List Nat} (h : boxO T ba ca cb us k ns) (e0 : ba' k = ba k) (e1 : ∀ n ∈ ns, ca' n = ca n ∧ cb' n = cb n ∧ us' n = us n) : boxO T ba' ca' cb' us' k ns := by
  obtain ⟨⟨h1, h2, h3⟩, h4, h5, h6, h7, h8, h9⟩ := h
  have em : ns.map ca' = ns.map ca := List.map_congr_left (fun n hn => (e1 n hn).1)
  have es : byS cb' ns = byS cb ns := by
    unfold byS
    rw [List.map_congr_left (fun n hn => by rw [(e1 n hn).2.1])]
  refine ⟨⟨by rw [e0]; exact h1, by rw [e0]; exact h2, by rw [e0, em]; exact h3⟩, by rw [e0]; exact h4, by rw [e0, es]; exact h5, h6, by rw [es]; exact h7, h8, fun n hn => ?_⟩
  obtain ⟨a1, a2, a3⟩ := e1 n hn
  rw [a1, a2, a3, e0]
  exact h9 n hn
theorem mem_up {α : Type} {f : Nat → α} {a b : Nat} {v : α} (h : b ≠ a) : up1 f a v b = f b := up1_nea h
theorem map_up {f : Nat → Nat} {xs : List Nat} {a v : Nat} (h : a ∉ xs) : xs.map (up1 f a v) = xs.map f := List.map_congr_left (fun n hn => up1_nea (fun e => h (e ▸ hn)))
theorem C_openFit {p r : Nat} {bs : List Nat} (h : SH T s ba ca cb us bl co op cs hi re st) (hp : pcs T p r bs) (hf : byS cb (co op) + bs.length ≤ 128) : Call (d + 3) 58 [.ref s, .ref p] T (.inl (some (.ref (ba op)))) T := by
  obtain ⟨⟨h1, h2, h3, h4, -⟩, -, hb, ho, -⟩ := h
  obtain ⟨⟨q1, q2, q3⟩, q4, q5, q6, q7, q8, -⟩ := (hb op ho).1
  have hp1 := hp.1
  have c := C_X1_fits (d := d) q1 q5 q7 hp
  rw [if_pos hf] at c
  refine Call_of ?_
  simp (disch := omega) only [ev_aload_n (M := MX4_openFor) (k := 0) rfl dX4_openFor_0 (pc' := 1) rfl, ev_getR (M := MX4_openFor) (f := 162) (kk := 6) f_5_26 rfl rfl rfl dX4_openFor_1 (pc' := 4) rfl, ev_aload_n (M := MX4_openFor) (k := 1) rfl dX4_openFor_4 (pc' := 5) rfl, ev_cV1 (M := MX4_openFor) (kk := 3) dX4_openFor_5 c_5_110 mX1_fits rfl rfl (by decide) rfl (pc' := 8) rfl, ev_if_ne (M := MX4_openFor) (t := 43) dX4_openFor_8 (by decide) (pc' := 11) rfl, ev_aload_n (M := MX4_openFor) (k := 0) rfl dX4_openFor_11 (pc' := 12) rfl, ev_new (M := MX4_openFor) (c := 2) k_5_21 (by decide) dX4_openFor_12 (pc' := 15) rfl, ev_dupI (M := MX4_openFor) dX4_openFor_15 (pc' := 16) rfl, ev_dupR (M := MX4_openFor) dX4_openFor_15 (pc' := 16) rfl, ev_aload_n (M := MX4_openFor) (k := 0) rfl dX4_openFor_16 (pc' := 17) rfl, ev_getR (M := MX4_openFor) (f := 162) (kk := 6) f_5_26 rfl rfl rfl dX4_openFor_17 (pc' := 20) rfl, ev_cV0 (M := MX4_openFor) (kk := 3) dX4_openFor_20 c_5_48 mX1_number rfl rfl (by decide) rfl (pc' := 23) rfl, ev_iconst (M := MX4_openFor) (v := (nI 1)) rfl dX4_openFor_23 (pc' := 24) rfl, ev_iadd (M := MX4_openFor) dX4_openFor_24 (pc' := 25) rfl, ev_cI1 (M := MX4_openFor) dX4_openFor_25 c_5_23 mX1_init rfl rfl (pc' := 28) rfl, ev_putR (M := MX4_openFor) (f := 162) (kk := 6) f_5_26 rfl rfl rfl rfl dX4_openFor_28 (pc' := 31) rfl, ev_putN (M := MX4_openFor) (f := 162) (kk := 6) f_5_26 rfl rfl rfl rfl dX4_openFor_28 (pc' := 31) rfl, ev_aload_n (M := MX4_openFor) (k := 0) rfl dX4_openFor_31 (pc' := 32) rfl, ev_getR (M := MX4_openFor) (f := 160) (kk := 6) f_5_12 rfl rfl rfl dX4_openFor_32 (pc' := 35) rfl, ev_aload_n (M := MX4_openFor) (k := 0) rfl dX4_openFor_35 (pc' := 36) rfl, ev_getR (M := MX4_openFor) (f := 162) (kk := 6) f_5_26 rfl rfl rfl dX4_openFor_36 (pc' := 39) rfl, ev_cL1 (M := MX4_openFor) dX4_openFor_39 c_5_30 mJx4a65c_add_9ea2d rfl rfl rfl (pc' := 42) rfl, ev_popI (M := MX4_openFor) dX4_openFor_42 (pc' := 43) rfl, ev_popR (M := MX4_openFor) dX4_openFor_42 (pc' := 43) rfl, ev_aload_n (M := MX4_openFor) (k := 0) rfl dX4_openFor_43 (pc' := 44) rfl, ev_getR (M := MX4_openFor) (f := 162) (kk := 6) f_5_26 rfl rfl rfl dX4_openFor_44 (pc' := 47) rfl, ev_aret (M := MX4_openFor) rfl dX4_openFor_47, ev_aretN (M := MX4_openFor) rfl dX4_openFor_47, ev_aretO (M := MX4_openFor) rfl dX4_openFor_47, uX4_openFor, lI_some, lJ_some, lR_ref, lR_null, lD_some, lget_cons, ldel_cons, ldel_nil, evR_v, evR_0, evR_x, vrf_s, vrf_n, Value.category, Nat.reduceEqDiff, Nat.reduceAdd, Nat.reduceSub, Nat.reduceMul, Nat.reduceLeDiff, reduceIte, if_true, if_false, or_self, or_false, false_or, or_true, true_or, and_self, and_true, true_and, and_false, false_and, not_true_eq_false, not_false_eq_true, List.length_cons, List.length_nil, Nat.zero_le, Nat.add_eq_zero_iff, Nat.succ_ne_zero, Nat.zero_add, Nat.add_zero, nle_t, nle_f, nlt_t, nlt_f, neq_t, neq_f, i_lt0, i_le0, i_0le, i_0lt, i_eq0, i_lt, i_le, i_eq, nI_add, i_sub, i_cl, i_m1a, i_m1b, i_m1c, i_m1d, i_m1e, i_am1, i_ite0, h1, h4, q1, hp1, cq c]
theorem C_openNew {p r : Nat} {bs : List Nat} (hw : wf T) (h : SH T s ba ca cb us bl co op cs hi re st) (hp : pcs T p r bs) (hf : ¬ byS cb (co op) + bs.length ≤ 128) (hop : op + 1 < 1000000) (hbl : bl.length < 1500) (hcs : ∀ k ∈ cs, k ≤ op) : CallQ (d + 3) 58 [.ref s, .ref p] T (fun q T' => q = .inl (some (.ref (tn T))) ∧ SH T' s (up1 ba (op + 1) (tn T)) ca cb us (bl ++ [op + 1]) (up1 co (op + 1) []) (op + 1) cs hi re st ∧ fr (fun a => a = s ∨ a = s + 1) 3 2256 T T' ∧ tc T' (tn T + 1) = 0) := by
  have hh := h
  obtain ⟨⟨h1, h2, h3, h4, h5, h6, h7⟩, ⟨l1, l2⟩, hb, ho, hcc, z1, z2, z3⟩ := h
  obtain ⟨⟨q1, q2, q3⟩, q4, q5, q6, q7, q8, -⟩ := (hb op ho).1
  have hp1 := hp.1
  have c := C_X1_fits (d := d) q1 q5 q7 hp
  rw [if_neg hf] at c
  obtain ⟨n1, n2, n3, n4, n5, n6⟩ := newBox_is (k := op + 1) (T := T) (ca := ca) hw
  have ls := hw.lt h1
  have ls1 := hw.lt l1.1
  have b0 : cell (newBox (op + 1) T) s = cell T s := n6.ce h1 (fun q => q)
  have b1 : cell (newBox (op + 1) T) (s + 1) = cell T (s + 1) := n6.ce l1.1 (fun q => q)
  have u1 : tK (newBox (op + 1) T) s = 6 := by rw [ce_K b0]; exact h1
  have u2 : tR (newBox (op + 1) T) 160 s = some (s + 1) := by rw [ce_R b0]; exact h2
  have W6 := n6.wd (W' := fun a => a = s ∨ a = s + 1) (Nat.le_refl _) (Nat.le_refl _) (fun _ _ q => q.elim)
  have f2 := W6.th (fr_sR (W := fun a => a = s ∨ a = s + 1) (f := 162) (a := s) (v := some (tn T)) n6.ok (Or.inl rfl))
  have l1' : lis (sR 162 s (some (tn T)) (newBox (op + 1) T)) (s + 1) (bl.map ba) := l1.of ((ce_sR (by omega)).trans b1)
  obtain ⟨m1, m2⟩ := lis_ch (ys := bl.map ba ++ [tn T]) f2.ok l1' (by rw [List.length_map]; exact hbl) (by rw [List.length_append]; rfl)
  have F := f2.th (m2.wd (W' := fun a => a = s ∨ a = s + 1) (Nat.le_refl _) (Nat.le_refl _) (fun a _ e => Or.inr e))
  have lo := hw.lt q1
  have g1 : tK (sR 162 s (some (tn T)) (newBox (op + 1) T)) s = 6 := u1
  have g2 : tR (sR 162 s (some (tn T)) (newBox (op + 1) T)) 160 s = some (s + 1) := by rw [tR_sR, up2_e, if_neg (by omega)]; exact u2
  have g3 : tR (sR 162 s (some (tn T)) (newBox (op + 1) T)) 162 s = some (tn T) := by rw [tR_sR, up2_e, if_pos ⟨rfl, rfl⟩]
  have g4 := l1'.1
  have g5 : tK (sR 162 s (some (tn T)) (newBox (op + 1) T)) (tn T) = 3 := n1.1
  have T3K : ∀ a, tK (sL (s + 1) (bl.map ba ++ [tn T]) (fit (s + 1) (sR 162 s (some (tn T)) (newBox (op + 1) T)))) a = tK (newBox (op + 1) T) a := fun a => by rw [tK_sL, fit_K, tK_sR]
  have T3I : ∀ f a, tI (sL (s + 1) (bl.map ba ++ [tn T]) (fit (s + 1) (sR 162 s (some (tn T)) (newBox (op + 1) T)))) f a = tI (newBox (op + 1) T) f a := fun f a => by rw [tI_sL, fit_I, tI_sR]
  have T3R : ∀ f a, tR (sL (s + 1) (bl.map ba ++ [tn T]) (fit (s + 1) (sR 162 s (some (tn T)) (newBox (op + 1) T)))) f a = tR (sR 162 s (some (tn T)) (newBox (op + 1) T)) f a := fun f a => by rw [tR_sL, fit_R]
  have cn : ∀ a, tn T ≤ a → cell (sL (s + 1) (bl.map ba ++ [tn T]) (fit (s + 1) (sR 162 s (some (tn T)) (newBox (op + 1) T)))) a = cell (newBox (op + 1) T) a := fun a ha => by
    rw [ce_sL (by omega), ce_fit (by omega), ce_sR (by omega)]
  have co1 := cn (tn T) (Nat.le_refl _)
  have co2 := cn (tn T + 1) (by omega)
  have key : ∀ Q : Post, Q (.inl (some (.ref (tn T)))) (sL (s + 1) (bl.map ba ++ [tn T]) (fit (s + 1) (sR 162 s (some (tn T)) (newBox (op + 1) T)))) → CallQ (d + 3) 58 [.ref s, .ref p] T Q := by
    intro Q hQ
    have n11 := n1.1
    clear hf hop hbl hcs hh hb hcc z1 z2 z3 q6 q7 q8 n2 n3 n4 n5 n6 W6 f2 m1 m2 F T3K T3I T3R cn co1 co2 h5 h6 h7
    simp (disch := omega) only [ev_aload_n (M := MX4_openFor) (k := 0) rfl dX4_openFor_0 (pc' := 1) rfl, ev_getR (M := MX4_openFor) (f := 162) (kk := 6) f_5_26 rfl rfl rfl dX4_openFor_1 (pc' := 4) rfl, ev_aload_n (M := MX4_openFor) (k := 1) rfl dX4_openFor_4 (pc' := 5) rfl, ev_cV1 (M := MX4_openFor) (kk := 3) dX4_openFor_5 c_5_110 mX1_fits rfl rfl (by decide) rfl (pc' := 8) rfl, ev_if_ne (M := MX4_openFor) (t := 43) dX4_openFor_8 (by decide) (pc' := 11) rfl, ev_aload_n (M := MX4_openFor) (k := 0) rfl dX4_openFor_11 (pc' := 12) rfl, ev_new (M := MX4_openFor) (c := 2) k_5_21 (by decide) dX4_openFor_12 (pc' := 15) rfl, ev_dupI (M := MX4_openFor) dX4_openFor_15 (pc' := 16) rfl, ev_dupR (M := MX4_openFor) dX4_openFor_15 (pc' := 16) rfl, ev_aload_n (M := MX4_openFor) (k := 0) rfl dX4_openFor_16 (pc' := 17) rfl, ev_getR (M := MX4_openFor) (f := 162) (kk := 6) f_5_26 rfl rfl rfl dX4_openFor_17 (pc' := 20) rfl, ev_cV0 (M := MX4_openFor) (kk := 3) dX4_openFor_20 c_5_48 mX1_number rfl rfl (by decide) rfl (pc' := 23) rfl, ev_iconst (M := MX4_openFor) (v := (nI 1)) rfl dX4_openFor_23 (pc' := 24) rfl, ev_iadd (M := MX4_openFor) dX4_openFor_24 (pc' := 25) rfl, ev_cI1 (M := MX4_openFor) dX4_openFor_25 c_5_23 mX1_init rfl rfl (pc' := 28) rfl, ev_putR (M := MX4_openFor) (f := 162) (kk := 6) f_5_26 rfl rfl rfl rfl dX4_openFor_28 (pc' := 31) rfl, ev_putN (M := MX4_openFor) (f := 162) (kk := 6) f_5_26 rfl rfl rfl rfl dX4_openFor_28 (pc' := 31) rfl, ev_aload_n (M := MX4_openFor) (k := 0) rfl dX4_openFor_31 (pc' := 32) rfl, ev_getR (M := MX4_openFor) (f := 160) (kk := 6) f_5_12 rfl rfl rfl dX4_openFor_32 (pc' := 35) rfl, ev_aload_n (M := MX4_openFor) (k := 0) rfl dX4_openFor_35 (pc' := 36) rfl, ev_getR (M := MX4_openFor) (f := 162) (kk := 6) f_5_26 rfl rfl rfl dX4_openFor_36 (pc' := 39) rfl, ev_cL1 (M := MX4_openFor) dX4_openFor_39 c_5_30 mJx4a65c_add_9ea2d rfl rfl rfl (pc' := 42) rfl, ev_popI (M := MX4_openFor) dX4_openFor_42 (pc' := 43) rfl, ev_popR (M := MX4_openFor) dX4_openFor_42 (pc' := 43) rfl, ev_aload_n (M := MX4_openFor) (k := 0) rfl dX4_openFor_43 (pc' := 44) rfl, ev_getR (M := MX4_openFor) (f := 162) (kk := 6) f_5_26 rfl rfl rfl dX4_openFor_44 (pc' := 47) rfl, ev_aret (M := MX4_openFor) rfl dX4_openFor_47, ev_aretN (M := MX4_openFor) rfl dX4_openFor_47, ev_aretO (M := MX4_openFor) rfl dX4_openFor_47, uX4_openFor, ev_aload_n (M := MX1_number) (k := 0) rfl dX1_number_0 (pc' := 1) rfl, ev_getI (M := MX1_number) (f := 64) (kk := 3) f_2_9 rfl rfl rfl dX1_number_1 (pc' := 4) rfl, ev_iret (M := MX1_number) rfl dX1_number_4, uX1_number, lI_some, lJ_some, lR_ref, lR_null, lD_some, lget_cons, ldel_cons, ldel_nil, evR_v, evR_0, evR_x, vrf_s, vrf_n, Value.category, Nat.reduceEqDiff, Nat.reduceAdd, Nat.reduceSub, Nat.reduceMul, Nat.reduceLeDiff, reduceIte, if_true, if_false, or_self, or_false, false_or, or_true, true_or, and_self, and_true, true_and, and_false, false_and, not_true_eq_false, not_false_eq_true, List.length_cons, List.length_nil, Nat.zero_le, Nat.add_eq_zero_iff, Nat.succ_ne_zero, Nat.zero_add, Nat.add_zero, nle_t, nle_f, nlt_t, nlt_f, neq_t, neq_f, i_lt0, i_le0, i_0le, i_0lt, i_eq0, i_lt, i_le, i_eq, nI_add, i_sub, i_cl, i_m1a, i_m1b, i_m1c, i_m1d, i_m1e, i_am1, i_ite0, tn_sI, tu_sI, tK_sI, tI_sI, tR_sI, tA_sI, tl_sI, tJ_sI, tL_sI, tc_sI, tn_sR, tu_sR, tK_sR, tI_sR, tR_sR, tA_sR, tl_sR, tJ_sR, tL_sR, tc_sR, tn_sA, tu_sA, tK_sA, tI_sA, tR_sA, tA_sA, tl_sA, tJ_sA, tL_sA, tc_sA, tn_sJ, tu_sJ, tK_sJ, tI_sJ, tR_sJ, tA_sJ, tl_sJ, tJ_sJ, tL_sJ, tc_sJ, tn_nO, tu_nO, tK_nO, tI_nO, tR_nO, tA_nO, tl_nO, tJ_nO, tL_nO, tc_nO, tn_nA, tu_nA, tK_nA, tI_nA, tR_nA, tA_nA, tl_nA, tJ_nA, tL_nA, tc_nA, tn_nX, tu_nX, tK_nX, tI_nX, tR_nX, tA_nX, tl_nX, tJ_nX, tL_nX, tc_nX, tn_sL, tu_sL, tK_sL, tI_sL, tR_sL, tA_sL, tl_sL, tJ_sL, tL_sL, tc_sL, tn_nL, tu_nL, tK_nL, tI_nL, tR_nL, tA_nL, tl_nL, tJ_nL, tL_nL, tc_nL, tn_gL, tu_gL, tK_gL, tI_gL, tR_gL, tA_gL, tl_gL, tJ_gL, tL_gL, tc_gL, up1_e, h1, h4, q1, q4, hp1, cq c, cq C_X1_init, u1, u2, up2_e, g4, g5, n11, c_ladd l1', fit_K, fit_R]
    exact hQ
  refine key _ ⟨rfl, ?_⟩
  refine ⟨?_, F.by (by omega) (by omega), ?_⟩
  · have hnk : ∀ k, k ≤ op → up1 ba (op + 1) (tn T) k = ba k := fun k hk => up1_nea (by omega)
    have hupn : up1 ba (op + 1) (tn T) (op + 1) = tn T := by rw [up1_e, if_pos rfl]
    have em : (bl ++ [op + 1]).map (up1 ba (op + 1) (tn T)) = bl.map ba ++ [tn T] := by
      rw [List.map_append, map_up hh.notin]
      show _ ++ [up1 ba (op + 1) (tn T) (op + 1)] = _
      rw [hupn]
    have ecs : cs.map (up1 ba (op + 1) (tn T)) = cs.map ba := map_up (fun q => by have := hcs _ q; omega)
    have fc : ∀ {a : Nat}, tK T a ≠ 0 → a ≠ s → a ≠ s + 1 → cell (sL (s + 1) (bl.map ba ++ [tn T]) (fit (s + 1) (sR 162 s (some (tn T)) (newBox (op + 1) T)))) a = cell T a := fun ha n1 n2 => F.2.2.2.2.2 _ ha (fun e => e.elim n1 n2)
    obtain ⟨s1, s2, s3⟩ := hh.ks
    refine ⟨⟨by rw [T3K]; exact u1, by rw [T3R]; exact g2, ?_, ?_, by rw [T3I, ce_I b0]; exact h5, by rw [T3I, ce_I b0]; exact h6, by rw [T3I, ce_I b0]; exact h7⟩, ⟨by rw [em]; exact m1, ?_⟩, fun k hk => ?_, List.mem_append_right _ (List.mem_singleton.mpr rfl), fun k hk => ?_, by rw [List.length_append]; show bl.length + 1 ≤ 1500; omega, z2, z3⟩
    · rw [T3R, tR_sR, up2_e, if_neg (by omega), ce_R b0]; exact h3
    · rw [T3R, hupn]; exact g3
    · rw [ecs]
      exact l2.of (fc (by rw [s3]; decide) (by omega) (by omega))
    · rcases List.mem_append.mp hk with hk | hk
      · have hko := (hb k hk).2
        obtain ⟨a1, a2, -⟩ := hh.kb hk
        refine ⟨?_, by omega⟩
        rw [mem_up (show k ≠ op + 1 by omega)]
        have bo := (hb k hk).1.of (T' := (sL (s + 1) (bl.map ba ++ [tn T]) (fit (s + 1) (sR 162 s (some (tn T)) (newBox (op + 1) T))))) (fc (by rw [a1]; decide) (neK a1 s1 (by decide)) (neK a1 s2 (by decide))) (fc (by rw [a2]; decide) (neK a2 s1 (by decide)) (fun e => neK a1 s1 (by decide) (by omega))) (fun n hn => ?_)
        · exact bo.ext (hnk k hko) (fun n _ => ⟨rfl, rfl, rfl⟩)
        · obtain ⟨d1, d2, d3, d4, -⟩ := hh.kn hk hn
          exact ⟨fc (by rw [d1]; decide) (neK d1 s1 (by decide)) (neK d1 s2 (by decide)), fc (by rw [d2]; decide) (neK d2 s1 (by decide)) (neK d2 s2 (by decide)), fc (by rw [d3]; decide) (neK d3 s1 (by decide)) (neK d3 s2 (by decide)), fc (by rw [d4]; decide) (neK d4 s1 (by decide)) (neK d4 s2 (by decide))⟩
      · rw [List.mem_singleton] at hk
        subst hk
        refine ⟨?_, Nat.le_refl _⟩
        rw [up1_e, if_pos rfl]
        refine ⟨⟨?_, ?_, ?_⟩, ?_, ?_, Nat.zero_le _, Nat.zero_le _, hop, fun n hn => nomatch hn⟩
        · rw [hupn, ce_K co1]; exact n1.1
        · rw [hupn, ce_R co1]; exact n1.2.1
        · rw [hupn]; exact n1.2.2.of co2
        · rw [hupn, ce_I co1]; exact n2
        · rw [hupn, ce_I co1]; exact n3
    · have hk2 := hcs k hk
      obtain ⟨a1, a2, a3⟩ := hcc k hk
      have e9 := fc (a := ba k) (by rw [a1]; decide) (neK a1 s1 (by decide)) (neK a1 s2 (by decide))
      rw [hnk k hk2, ce_K e9, ce_I e9]
      exact ⟨a1, a2, a3⟩
  · rw [ce_c co2]; exact n4
end SHN
