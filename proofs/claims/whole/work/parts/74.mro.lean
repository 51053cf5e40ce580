/-! the reference: rows put and dropped -/
section MRO
variable {d m : Nat} {dr kl : List Nat} {vf vn : Nat → Nat} {vb ve : Nat → List Nat} {vp : Nat → Option Nat} {nx : Nat → Nat} {rw : List Nat} {bx sf : Nat → Nat} {cb : Nat → List Nat} {ud st op : Nat} {cs : List Nat} {hi re : Nat} {T T' : TS}
theorem mDr.of (h : mDr T m dr) (e0 : tI T' 256 m = tI T 256 m) (e1 : tA T' (m + 1) = tA T (m + 1)) : mDr T' m dr := by
  unfold mDr
  rw [e0, e1]
  exact h
theorem mVe.of (h : mVe T m kl vf vn vb ve vp) (e1 : ∀ i, 2 ≤ i → i ≤ 8 → tA T' (m + i) = tA T (m + i)) : mVe T' m kl vf vn vb ve vp := by
  unfold mVe
  rw [e1 2 (by omega) (by omega), e1 3 (by omega) (by omega), e1 4 (by omega) (by omega), e1 5 (by omega) (by omega), e1 6 (by omega) (by omega), e1 7 (by omega) (by omega), e1 8 (by omega) (by omega)]
  exact h
theorem mRo.of (h : mRo T m rw bx sf cb ud) (e0 : tI T' 266 m = tI T 266 m) (e1 : ∀ i, 10 ≤ i → i ≤ 14 → tA T' (m + i) = tA T (m + i)) : mRo T' m rw bx sf cb ud := by
  unfold mRo
  rw [e0, e1 10 (by omega) (by omega), e1 11 (by omega) (by omega), e1 12 (by omega) (by omega), e1 13 (by omega) (by omega), e1 14 (by omega) (by omega)]
  exact h
theorem mRo.udw {ud' : Nat} (h : mRo T m rw bx sf cb ud) (hu : ud ≤ ud') : mRo T m rw bx sf cb ud' := by
  obtain ⟨h1, h2, h3, h4⟩ := h
  refine ⟨h1, h2, h3, fun n hn => ?_⟩
  obtain ⟨b1, b2, b3, b4⟩ := h4 n hn
  exact ⟨b1, b2, by omega, b4⟩
theorem mCa.of (h : mCa T m cs) (e1 : tA T' (m + 15) = tA T (m + 15)) : mCa T' m cs := by
  unfold mCa
  rw [e1]
  exact h
/-- a row's number is put at the end -/
theorem mRo.put {n op' s : Nat} {bs : List Nat} {ud' : Nat} (h : mRo T m rw bx sf cb ud) (hn : n ∉ rw) (hn2 : n < 1000000) (ho : op' < 1000000) (hl : rw.length < 7690) (hb : bs.length ≤ 32) (hs : s + bs.length ≤ ud') (hu : ud ≤ ud') (e0 : tI T' 266 m = nI (rw.length + 1)) (e1 : ∀ j, tA T' (m + 10) j = if j = rw.length then nI n else tA T (m + 10) j) (e2 : ∀ j, tA T' (m + 11) j = if j = rw.length then nI s else tA T (m + 11) j) (e3 : ∀ j, tA T' (m + 12) j = if j = rw.length then nI bs.length else tA T (m + 12) j) (e4 : ∀ j, tA T' (m + 13) j = if j = rw.length then nI op' else tA T (m + 13) j) (e5 : ∀ j, j < ud → tA T' (m + 14) j = tA T (m + 14) j) (e6 : ∀ j, j < bs.length → tA T' (m + 14) (s + j) = by8 (bs.getD j 0) ∧ bs.getD j 0 < 256) : mRo T' m (rw ++ [n]) (up1 bx n op') (up1 sf n s) (up1 cb n bs) ud' := by
  obtain ⟨h1, h2, h3, h4⟩ := h
  have hlen : (rw ++ [n]).length = rw.length + 1 := by simp
  refine ⟨by rw [hlen]; exact e0, by omega, fun i hi => ?_, fun k hk => ?_⟩
  · rw [hlen] at hi
    rw [getD_app1 _ _ _ hi, e1, e2, e3, e4]
    by_cases c : i = rw.length
    · rw [if_pos c, if_pos c, if_pos c, if_pos c, if_pos c, up1_e, up1_e, up1_e, if_pos rfl, if_pos rfl, if_pos rfl]
      exact ⟨rfl, rfl, rfl, rfl⟩
    · have hm := gD_mem (xs := rw) (k := i) (by omega)
      have hne : rw.getD i 0 ≠ n := fun q => hn (q ▸ hm)
      rw [if_neg c, if_neg c, if_neg c, if_neg c, if_neg c, up1_e, up1_e, up1_e, if_neg hne, if_neg hne, if_neg hne]
      exact h3 i (by omega)
  · rcases List.mem_append.mp hk with hk | hk
    · have hne : k ≠ n := fun q => hn (q ▸ hk)
      rw [up1_e, up1_e, up1_e, if_neg hne, if_neg hne, if_neg hne]
      obtain ⟨b1, b2, b3, b4, b5⟩ := h4 k hk
      refine ⟨b1, b2, by omega, fun j hj => ?_, b5⟩
      rw [e5 _ (by omega)]
      exact b4 j hj
    · rw [List.mem_singleton] at hk
      subst hk
      rw [up1_e, up1_e, up1_e, if_pos rfl, if_pos rfl, if_pos rfl]
      exact ⟨hn2, ho, hs, e6, hb⟩
theorem getD_era {xs : List Nat} {p j : Nat} (h : p < xs.length) : (xs.eraseIdx p).getD j 0 = if j < p then xs.getD j 0 else xs.getD (j + 1) 0 := by
  rw [List.getD_eq_getElem?_getD, List.getElem?_eraseIdx]
  split <;> rw [List.getD_eq_getElem?_getD]
theorem mRo.drop {p : Nat} (h : mRo T m rw bx sf cb ud) (hp : p < rw.length) (e0 : tI T' 266 m = nI (rw.length - 1)) (e1 : ∀ r, 10 ≤ r → r ≤ 13 → ∀ j, j < rw.length - 1 → tA T' (m + r) j = if j < p then tA T (m + r) j else tA T (m + r) (j + 1)) (e5 : tA T' (m + 14) = tA T (m + 14)) : mRo T' m (rw.eraseIdx p) bx sf cb ud := by
  obtain ⟨h1, h2, h3, h4⟩ := h
  have hlen : (rw.eraseIdx p).length = rw.length - 1 := List.length_eraseIdx_of_lt hp
  refine ⟨by rw [hlen]; exact e0, by omega, fun i hi => ?_, fun k hk => ?_⟩
  · rw [hlen] at hi
    rw [getD_era hp, e1 10 (by omega) (by omega) i hi, e1 11 (by omega) (by omega) i hi, e1 12 (by omega) (by omega) i hi, e1 13 (by omega) (by omega) i hi]
    by_cases c : i < p
    · rw [if_pos c, if_pos c, if_pos c, if_pos c, if_pos c]
      exact h3 i (by omega)
    · rw [if_neg c, if_neg c, if_neg c, if_neg c, if_neg c]
      exact h3 (i + 1) (by omega)
  · rw [e5]
    exact h4 k (List.mem_of_mem_eraseIdx hk)
/-- where a chunk of so many bytes goes -/
def opR (rw : List Nat) (bx : Nat → Nat) (cb : Nat → List Nat) (op l : Nat) : Nat := if bIn rw bx cb op + l ≤ 128 then op else op + 1
def putT (m l n s k o : Nat) (T : TS) : TS := sI 266 m (nI (l + 1)) (sA (m + 13) l (nI o) (sA (m + 12) l (nI k) (sA (m + 11) l (nI s) (sA (m + 10) l (nI n) (sI 274 m (nI o) T)))))
theorem sI_id {f a : Nat} {v : Int32} (h : tI T f a = v) : sI f a v T = T := by
  have : up2 (tI T) f a v = tI T := by
    funext x y
    rw [up2_e]
    split
    · rename_i q
      rw [q.1, q.2, h]
    · rfl
  unfold sI
  rw [this]
  rfl
theorem C_putRow {n s k : Nat} (h : MR T m dr kl vf vn vb ve vp nx rw bx sf cb ud st op cs hi re) (hl : rw.length < 7690) (hk : k ≤ 128) : Call (d + 2) 145 [.ref m, .int (nI n), .int (nI s), .int (nI k)] T (.inl none) (putT m rw.length n s k (opR rw bx cb op k) T) := by
  have hb := h.bI (c := op)
  have hop := h.2.2.2.2.2.2.2.2.2.1
  have c := C_bytesIn (d := d) (c := op) hop h
  obtain ⟨⟨m1, ⟨-, -, -, -, -, -, -, -, -, r10, r11, r12, r13, -⟩, ⟨-, -, -, -, -, -, -, -, -, k10, k11, k12, k13, -⟩, ⟨-, -, -, -, -, -, -, -, -, l10, l11, l12, l13, -⟩⟩, -, -, -, ⟨c1, -⟩, -, ⟨-, -, o1, -⟩, -⟩ := h
  refine Call_of ?_
  unfold opR putT
  by_cases e : bIn rw bx cb op + k ≤ 128
  · rw [if_pos e, sI_id o1]
    simp (disch := omega) only [ev_aload_n (M := MX7_putRow) (k := 0) rfl dX7_putRow_0 (pc' := 1) rfl, ev_aload_n (M := MX7_putRow) (k := 0) rfl dX7_putRow_1 (pc' := 2) rfl, ev_getI (M := MX7_putRow) (f := 274) (kk := 9) f_8_83 rfl rfl rfl dX7_putRow_2 (pc' := 5) rfl, ev_cV1 (M := MX7_putRow) (kk := 9) dX7_putRow_5 c_8_86 mX7_bytesIn rfl rfl (by decide) rfl (pc' := 8) rfl, ev_iload_n (M := MX7_putRow) (k := 3) rfl dX7_putRow_8 (pc' := 9) rfl, ev_iadd (M := MX7_putRow) dX7_putRow_9 (pc' := 10) rfl, ev_sipush (M := MX7_putRow) (v := (nI 128)) rfl dX7_putRow_10 (pc' := 13) rfl, ev_icmp_le (M := MX7_putRow) (t := 26) dX7_putRow_13 (by decide) (pc' := 16) rfl, ev_aload_n (M := MX7_putRow) (k := 0) rfl dX7_putRow_16 (pc' := 17) rfl, ev_dupI (M := MX7_putRow) dX7_putRow_17 (pc' := 18) rfl, ev_dupR (M := MX7_putRow) dX7_putRow_17 (pc' := 18) rfl, ev_getI (M := MX7_putRow) (f := 274) (kk := 9) f_8_83 rfl rfl rfl dX7_putRow_18 (pc' := 21) rfl, ev_iconst (M := MX7_putRow) (v := (nI 1)) rfl dX7_putRow_21 (pc' := 22) rfl, ev_iadd (M := MX7_putRow) dX7_putRow_22 (pc' := 23) rfl, ev_putI (M := MX7_putRow) (f := 274) (kk := 9) f_8_83 rfl rfl rfl rfl dX7_putRow_23 (pc' := 26) rfl, ev_aload_n (M := MX7_putRow) (k := 0) rfl dX7_putRow_26 (pc' := 27) rfl, ev_getR (M := MX7_putRow) (f := 268) (kk := 9) f_8_37 rfl rfl rfl dX7_putRow_27 (pc' := 30) rfl, ev_aload_n (M := MX7_putRow) (k := 0) rfl dX7_putRow_30 (pc' := 31) rfl, ev_getI (M := MX7_putRow) (f := 266) (kk := 9) f_8_80 rfl rfl rfl dX7_putRow_31 (pc' := 34) rfl, ev_iload_n (M := MX7_putRow) (k := 1) rfl dX7_putRow_34 (pc' := 35) rfl, ev_iast (M := MX7_putRow) dX7_putRow_35 (pc' := 36) rfl, ev_aload_n (M := MX7_putRow) (k := 0) rfl dX7_putRow_36 (pc' := 37) rfl, ev_getR (M := MX7_putRow) (f := 269) (kk := 9) f_8_40 rfl rfl rfl dX7_putRow_37 (pc' := 40) rfl, ev_aload_n (M := MX7_putRow) (k := 0) rfl dX7_putRow_40 (pc' := 41) rfl, ev_getI (M := MX7_putRow) (f := 266) (kk := 9) f_8_80 rfl rfl rfl dX7_putRow_41 (pc' := 44) rfl, ev_iload_n (M := MX7_putRow) (k := 2) rfl dX7_putRow_44 (pc' := 45) rfl, ev_iast (M := MX7_putRow) dX7_putRow_45 (pc' := 46) rfl, ev_aload_n (M := MX7_putRow) (k := 0) rfl dX7_putRow_46 (pc' := 47) rfl, ev_getR (M := MX7_putRow) (f := 270) (kk := 9) f_8_43 rfl rfl rfl dX7_putRow_47 (pc' := 50) rfl, ev_aload_n (M := MX7_putRow) (k := 0) rfl dX7_putRow_50 (pc' := 51) rfl, ev_getI (M := MX7_putRow) (f := 266) (kk := 9) f_8_80 rfl rfl rfl dX7_putRow_51 (pc' := 54) rfl, ev_iload_n (M := MX7_putRow) (k := 3) rfl dX7_putRow_54 (pc' := 55) rfl, ev_iast (M := MX7_putRow) dX7_putRow_55 (pc' := 56) rfl, ev_aload_n (M := MX7_putRow) (k := 0) rfl dX7_putRow_56 (pc' := 57) rfl, ev_getR (M := MX7_putRow) (f := 271) (kk := 9) f_8_46 rfl rfl rfl dX7_putRow_57 (pc' := 60) rfl, ev_aload_n (M := MX7_putRow) (k := 0) rfl dX7_putRow_60 (pc' := 61) rfl, ev_getI (M := MX7_putRow) (f := 266) (kk := 9) f_8_80 rfl rfl rfl dX7_putRow_61 (pc' := 64) rfl, ev_aload_n (M := MX7_putRow) (k := 0) rfl dX7_putRow_64 (pc' := 65) rfl, ev_getI (M := MX7_putRow) (f := 274) (kk := 9) f_8_83 rfl rfl rfl dX7_putRow_65 (pc' := 68) rfl, ev_iast (M := MX7_putRow) dX7_putRow_68 (pc' := 69) rfl, ev_aload_n (M := MX7_putRow) (k := 0) rfl dX7_putRow_69 (pc' := 70) rfl, ev_dupI (M := MX7_putRow) dX7_putRow_70 (pc' := 71) rfl, ev_dupR (M := MX7_putRow) dX7_putRow_70 (pc' := 71) rfl, ev_getI (M := MX7_putRow) (f := 266) (kk := 9) f_8_80 rfl rfl rfl dX7_putRow_71 (pc' := 74) rfl, ev_iconst (M := MX7_putRow) (v := (nI 1)) rfl dX7_putRow_74 (pc' := 75) rfl, ev_iadd (M := MX7_putRow) dX7_putRow_75 (pc' := 76) rfl, ev_putI (M := MX7_putRow) (f := 266) (kk := 9) f_8_80 rfl rfl rfl rfl dX7_putRow_76 (pc' := 79) rfl, ev_vret (M := MX7_putRow) rfl dX7_putRow_79, uX7_putRow, lI_some, lR_ref, lR_null, lD_some, lget_cons, ldel_cons, ldel_nil, evR_v, evR_0, evR_x, vrf_s, vrf_n, Value.category, Nat.reduceEqDiff, Nat.reduceAdd, Nat.reduceSub, Nat.reduceMul, Nat.reduceLeDiff, reduceIte, if_true, if_false, or_self, or_false, false_or, or_true, true_or, and_self, and_true, true_and, and_false, false_and, not_true_eq_false, not_false_eq_true, List.length_cons, List.length_nil, Nat.zero_le, Nat.add_eq_zero_iff, Nat.succ_ne_zero, Nat.zero_add, Nat.add_zero, nle_t, nle_f, nlt_t, nlt_f, neq_t, neq_f, i_lt0, i_le0, i_0le, i_0lt, i_eq0, i_lt, i_le, i_eq, nI_add, i_sub, i_cl, i_m1a, i_m1b, i_m1c, i_m1d, i_m1e, i_am1, i_ite0, cq c, m1, o1, tK_sA, tR_sA, tI_sA, tl_sA, c1, r10, r11, r12, r13, k10, k11, k12, k13, l10, l11, l12, l13]
  · rw [if_neg e]
    have g1 : tI (sI 274 m (nI (op + 1)) T) 266 m = nI rw.length := by rw [tI_sI, up2_e, if_neg (by omega)]; exact c1
    have g2 : tI (sI 274 m (nI (op + 1)) T) 274 m = nI (op + 1) := by rw [tI_sI, up2_e, if_pos ⟨rfl, rfl⟩]
    simp (disch := omega) only [ev_aload_n (M := MX7_putRow) (k := 0) rfl dX7_putRow_0 (pc' := 1) rfl, ev_aload_n (M := MX7_putRow) (k := 0) rfl dX7_putRow_1 (pc' := 2) rfl, ev_getI (M := MX7_putRow) (f := 274) (kk := 9) f_8_83 rfl rfl rfl dX7_putRow_2 (pc' := 5) rfl, ev_cV1 (M := MX7_putRow) (kk := 9) dX7_putRow_5 c_8_86 mX7_bytesIn rfl rfl (by decide) rfl (pc' := 8) rfl, ev_iload_n (M := MX7_putRow) (k := 3) rfl dX7_putRow_8 (pc' := 9) rfl, ev_iadd (M := MX7_putRow) dX7_putRow_9 (pc' := 10) rfl, ev_sipush (M := MX7_putRow) (v := (nI 128)) rfl dX7_putRow_10 (pc' := 13) rfl, ev_icmp_le (M := MX7_putRow) (t := 26) dX7_putRow_13 (by decide) (pc' := 16) rfl, ev_aload_n (M := MX7_putRow) (k := 0) rfl dX7_putRow_16 (pc' := 17) rfl, ev_dupI (M := MX7_putRow) dX7_putRow_17 (pc' := 18) rfl, ev_dupR (M := MX7_putRow) dX7_putRow_17 (pc' := 18) rfl, ev_getI (M := MX7_putRow) (f := 274) (kk := 9) f_8_83 rfl rfl rfl dX7_putRow_18 (pc' := 21) rfl, ev_iconst (M := MX7_putRow) (v := (nI 1)) rfl dX7_putRow_21 (pc' := 22) rfl, ev_iadd (M := MX7_putRow) dX7_putRow_22 (pc' := 23) rfl, ev_putI (M := MX7_putRow) (f := 274) (kk := 9) f_8_83 rfl rfl rfl rfl dX7_putRow_23 (pc' := 26) rfl, ev_aload_n (M := MX7_putRow) (k := 0) rfl dX7_putRow_26 (pc' := 27) rfl, ev_getR (M := MX7_putRow) (f := 268) (kk := 9) f_8_37 rfl rfl rfl dX7_putRow_27 (pc' := 30) rfl, ev_aload_n (M := MX7_putRow) (k := 0) rfl dX7_putRow_30 (pc' := 31) rfl, ev_getI (M := MX7_putRow) (f := 266) (kk := 9) f_8_80 rfl rfl rfl dX7_putRow_31 (pc' := 34) rfl, ev_iload_n (M := MX7_putRow) (k := 1) rfl dX7_putRow_34 (pc' := 35) rfl, ev_iast (M := MX7_putRow) dX7_putRow_35 (pc' := 36) rfl, ev_aload_n (M := MX7_putRow) (k := 0) rfl dX7_putRow_36 (pc' := 37) rfl, ev_getR (M := MX7_putRow) (f := 269) (kk := 9) f_8_40 rfl rfl rfl dX7_putRow_37 (pc' := 40) rfl, ev_aload_n (M := MX7_putRow) (k := 0) rfl dX7_putRow_40 (pc' := 41) rfl, ev_getI (M := MX7_putRow) (f := 266) (kk := 9) f_8_80 rfl rfl rfl dX7_putRow_41 (pc' := 44) rfl, ev_iload_n (M := MX7_putRow) (k := 2) rfl dX7_putRow_44 (pc' := 45) rfl, ev_iast (M := MX7_putRow) dX7_putRow_45 (pc' := 46) rfl, ev_aload_n (M := MX7_putRow) (k := 0) rfl dX7_putRow_46 (pc' := 47) rfl, ev_getR (M := MX7_putRow) (f := 270) (kk := 9) f_8_43 rfl rfl rfl dX7_putRow_47 (pc' := 50) rfl, ev_aload_n (M := MX7_putRow) (k := 0) rfl dX7_putRow_50 (pc' := 51) rfl, ev_getI (M := MX7_putRow) (f := 266) (kk := 9) f_8_80 rfl rfl rfl dX7_putRow_51 (pc' := 54) rfl, ev_iload_n (M := MX7_putRow) (k := 3) rfl dX7_putRow_54 (pc' := 55) rfl, ev_iast (M := MX7_putRow) dX7_putRow_55 (pc' := 56) rfl, ev_aload_n (M := MX7_putRow) (k := 0) rfl dX7_putRow_56 (pc' := 57) rfl, ev_getR (M := MX7_putRow) (f := 271) (kk := 9) f_8_46 rfl rfl rfl dX7_putRow_57 (pc' := 60) rfl, ev_aload_n (M := MX7_putRow) (k := 0) rfl dX7_putRow_60 (pc' := 61) rfl, ev_getI (M := MX7_putRow) (f := 266) (kk := 9) f_8_80 rfl rfl rfl dX7_putRow_61 (pc' := 64) rfl, ev_aload_n (M := MX7_putRow) (k := 0) rfl dX7_putRow_64 (pc' := 65) rfl, ev_getI (M := MX7_putRow) (f := 274) (kk := 9) f_8_83 rfl rfl rfl dX7_putRow_65 (pc' := 68) rfl, ev_iast (M := MX7_putRow) dX7_putRow_68 (pc' := 69) rfl, ev_aload_n (M := MX7_putRow) (k := 0) rfl dX7_putRow_69 (pc' := 70) rfl, ev_dupI (M := MX7_putRow) dX7_putRow_70 (pc' := 71) rfl, ev_dupR (M := MX7_putRow) dX7_putRow_70 (pc' := 71) rfl, ev_getI (M := MX7_putRow) (f := 266) (kk := 9) f_8_80 rfl rfl rfl dX7_putRow_71 (pc' := 74) rfl, ev_iconst (M := MX7_putRow) (v := (nI 1)) rfl dX7_putRow_74 (pc' := 75) rfl, ev_iadd (M := MX7_putRow) dX7_putRow_75 (pc' := 76) rfl, ev_putI (M := MX7_putRow) (f := 266) (kk := 9) f_8_80 rfl rfl rfl rfl dX7_putRow_76 (pc' := 79) rfl, ev_vret (M := MX7_putRow) rfl dX7_putRow_79, uX7_putRow, lI_some, lR_ref, lR_null, lD_some, lget_cons, ldel_cons, ldel_nil, evR_v, evR_0, evR_x, vrf_s, vrf_n, Value.category, Nat.reduceEqDiff, Nat.reduceAdd, Nat.reduceSub, Nat.reduceMul, Nat.reduceLeDiff, reduceIte, if_true, if_false, or_self, or_false, false_or, or_true, true_or, and_self, and_true, true_and, and_false, false_and, not_true_eq_false, not_false_eq_true, List.length_cons, List.length_nil, Nat.zero_le, Nat.add_eq_zero_iff, Nat.succ_ne_zero, Nat.zero_add, Nat.add_zero, nle_t, nle_f, nlt_t, nlt_f, neq_t, neq_f, i_lt0, i_le0, i_0le, i_0lt, i_eq0, i_lt, i_le, i_eq, nI_add, i_sub, i_cl, i_m1a, i_m1b, i_m1c, i_m1d, i_m1e, i_am1, i_ite0, cq c, m1, o1, tK_sA, tR_sA, tI_sA, tl_sA, tK_sI, tR_sI, tl_sI, g1, g2, r10, r11, r12, r13, k10, k11, k12, k13, l10, l11, l12, l13]
theorem putT_ms {l n s k o : Nat} : ms m T (putT m l n s k o T) := by
  unfold putT
  exact ((((ms.sI.tr (ms.sA (by omega))).tr (ms.sA (by omega))).tr (ms.sA (by omega))).tr (ms.sA (by omega))).tr ms.sI
theorem putT_I {l n s k o f : Nat} (h1 : f ≠ 266) (h2 : f ≠ 274) : tI (putT m l n s k o T) f m = tI T f m := by
  show up2 (up2 (tI T) 274 m (nI o)) 266 m (nI (l + 1)) f m = _
  rw [up2_e, if_neg (fun q => h1 q.1), up2_e, if_neg (fun q => h2 q.1)]
theorem putT_266 {l n s k o : Nat} : tI (putT m l n s k o T) 266 m = nI (l + 1) := by
  show up2 (up2 (tI T) 274 m (nI o)) 266 m (nI (l + 1)) 266 m = _
  rw [up2_e, if_pos ⟨rfl, rfl⟩]
theorem putT_274 {l n s k o : Nat} : tI (putT m l n s k o T) 274 m = nI o := by
  show up2 (up2 (tI T) 274 m (nI o)) 266 m (nI (l + 1)) 274 m = _
  rw [up2_e, if_neg (by omega), up2_e, if_pos ⟨rfl, rfl⟩]
theorem putT_A {l n s k o r : Nat} (hr : r < 10 ∨ 13 < r) : tA (putT m l n s k o T) (m + r) = tA T (m + r) := by
  funext j
  show up2 (up2 (up2 (up2 (tA T) (m + 10) l (nI n)) (m + 11) l (nI s)) (m + 12) l (nI k)) (m + 13) l (nI o) (m + r) j = _
  rw [up2_e, if_neg (by omega), up2_e, if_neg (by omega), up2_e, if_neg (by omega), up2_e, if_neg (by omega)]
theorem putT_10 {l n s k o : Nat} (j : Nat) : tA (putT m l n s k o T) (m + 10) j = if j = l then nI n else tA T (m + 10) j := by
  show up2 (up2 (up2 (up2 (tA T) (m + 10) l (nI n)) (m + 11) l (nI s)) (m + 12) l (nI k)) (m + 13) l (nI o) (m + 10) j = _
  rw [up2_e, if_neg (by omega), up2_e, if_neg (by omega), up2_e, if_neg (by omega), up2_e]
  by_cases c : j = l
  · rw [if_pos ⟨rfl, c⟩, if_pos c]
  · rw [if_neg (fun q => c q.2), if_neg c]
theorem putT_11 {l n s k o : Nat} (j : Nat) : tA (putT m l n s k o T) (m + 11) j = if j = l then nI s else tA T (m + 11) j := by
  show up2 (up2 (up2 (up2 (tA T) (m + 10) l (nI n)) (m + 11) l (nI s)) (m + 12) l (nI k)) (m + 13) l (nI o) (m + 11) j = _
  rw [up2_e, if_neg (by omega), up2_e, if_neg (by omega), up2_e]
  by_cases c : j = l
  · rw [if_pos ⟨rfl, c⟩, if_pos c]
  · rw [if_neg (fun q => c q.2), if_neg c, up2_e, if_neg (by omega)]
theorem putT_12 {l n s k o : Nat} (j : Nat) : tA (putT m l n s k o T) (m + 12) j = if j = l then nI k else tA T (m + 12) j := by
  show up2 (up2 (up2 (up2 (tA T) (m + 10) l (nI n)) (m + 11) l (nI s)) (m + 12) l (nI k)) (m + 13) l (nI o) (m + 12) j = _
  rw [up2_e, if_neg (by omega), up2_e]
  by_cases c : j = l
  · rw [if_pos ⟨rfl, c⟩, if_pos c]
  · rw [if_neg (fun q => c q.2), if_neg c, up2_e, if_neg (by omega), up2_e, if_neg (by omega)]
theorem putT_13 {l n s k o : Nat} (j : Nat) : tA (putT m l n s k o T) (m + 13) j = if j = l then nI o else tA T (m + 13) j := by
  show up2 (up2 (up2 (up2 (tA T) (m + 10) l (nI n)) (m + 11) l (nI s)) (m + 12) l (nI k)) (m + 13) l (nI o) (m + 13) j = _
  rw [up2_e]
  by_cases c : j = l
  · rw [if_pos ⟨rfl, c⟩, if_pos c]
  · rw [if_neg (fun q => c q.2), if_neg c, up2_e, if_neg (by omega), up2_e, if_neg (by omega), up2_e, if_neg (by omega)]
/-- a chunk that has a row already is put at the end (its row was dropped) -/
theorem C_putOld {n : Nat} (h : MR T m dr kl vf vn vb ve vp nx rw bx sf cb ud st op cs hi re) (hl : rw.length < 7690) (hn : n ∉ rw) (hn2 : n < 1000000) (hop : op + 1 < 1000000) (hk : (cb n).length ≤ 32) (hs : sf n + (cb n).length ≤ ud) (hd : ∀ j, j < (cb n).length → tA T (m + 14) (sf n + j) = by8 ((cb n).getD j 0) ∧ (cb n).getD j 0 < 256) : ∃ T', Call (d + 2) 145 [.ref m, .int (nI n), .int (nI (sf n)), .int (nI (cb n).length)] T (.inl none) T' ∧ MR T' m dr kl vf vn vb ve vp nx (rw ++ [n]) (up1 bx n (opR rw bx cb op (cb n).length)) sf cb ud st (opR rw bx cb op (cb n).length) cs hi re ∧ tI T' 278 m = tI T 278 m ∧ ms m T T' ∧ tA T' (m + 14) = tA T (m + 14) := by
  have c := C_putRow (d := d) (n := n) (s := sf n) (k := (cb n).length) h hl (by omega)
  have ho : opR rw bx cb op (cb n).length < 1000000 := by unfold opR; split <;> omega
  refine ⟨_, c, ?_, putT_I (by decide) (by decide), putT_ms, putT_A (Or.inr (by omega))⟩
  obtain ⟨h1, h2, h3, h4, h5, h6, ⟨c1, c2, c3, c4, c5⟩, b1, b2, b3, b⟩ := h
  have h5' := h5.put (T' := putT m rw.length n (sf n) (cb n).length (opR rw bx cb op (cb n).length) T) (n := n) (op' := opR rw bx cb op (cb n).length) (s := sf n) (bs := cb n) (ud' := ud) hn hn2 ho hl hk hs (Nat.le_refl _) putT_266 putT_10 putT_11 putT_12 putT_13 (fun j _ => by rw [putT_A (Or.inr (by omega))]) (fun j hj => by rw [putT_A (Or.inr (by omega))]; exact hd j hj)
  have u1 : up1 sf n (sf n) = sf := by funext x; rw [up1_e]; split <;> simp_all
  have u2 : up1 cb n (cb n) = cb := by funext x; rw [up1_e]; split <;> simp_all
  rw [u1, u2] at h5'
  refine ⟨h1.ms putT_ms, h2.of (putT_I (by decide) (by decide)) (putT_A (Or.inl (by omega))), h3.of (fun i _ _ => putT_A (Or.inl (by omega))), ?_, h5', h6.of (putT_A (Or.inr (by omega))), ⟨?_, ?_, putT_274, ?_, ?_⟩, b1, b2, ho, b⟩
  · rw [putT_A (Or.inl (by omega))]; exact h4
  · rw [putT_I (by decide) (by decide)]; exact c1
  · rw [putT_I (by decide) (by decide)]; exact c2
  · rw [putT_I (by decide) (by decide)]; exact c4
  · rw [putT_I (by decide) (by decide)]; exact c5
theorem C_dropRow {p : Nat} (h : MR T m dr kl vf vn vb ve vp nx rw bx sf cb ud st op cs hi re) (hp : p < rw.length) : CallQ (d + 1) 146 [.ref m, .int (nI p)] T (fun q T' => q = .inl none ∧ MR T' m dr kl vf vn vb ve vp nx (rw.eraseIdx p) bx sf cb ud st op cs hi re ∧ tI T' 278 m = tI T 278 m ∧ ms m T T' ∧ tA T' (m + 14) = tA T (m + 14)) := by
  have h0 := h
  obtain ⟨⟨m1, ⟨-, -, -, -, -, -, -, -, -, r10, r11, r12, r13, -⟩, ⟨-, -, -, -, -, -, -, -, -, k10, k11, k12, k13, -⟩, ⟨-, -, -, -, -, -, -, -, -, l10, l11, l12, l13, -⟩⟩, -, -, -, ⟨c1, c2, -⟩, -⟩ := h
  have o1 : tI (sI 266 m (nI (rw.length - 1)) T) 266 m = nI (rw.length - 1) := by rw [tI_sI, up2_e, if_pos ⟨rfl, rfl⟩]
  have o2 : ∀ f, f ≠ 266 → tI (sI 266 m (nI (rw.length - 1)) T) f m = tI T f m := fun f hf => by rw [tI_sI, up2_e, if_neg (fun q => hf q.1)]
  have o3 : tA (sI 266 m (nI (rw.length - 1)) T) = tA T := rfl
  have o4 : ms m T (sI 266 m (nI (rw.length - 1)) T) := ms.sI
  simp (disch := omega) only [ev_aload_n (M := MX7_dropRow) (k := 0) rfl dX7_dropRow_0 (pc' := 1) rfl, ev_dupI (M := MX7_dropRow) dX7_dropRow_1 (pc' := 2) rfl, ev_dupR (M := MX7_dropRow) dX7_dropRow_1 (pc' := 2) rfl, ev_getI (M := MX7_dropRow) (f := 266) (kk := 9) f_8_80 rfl rfl rfl dX7_dropRow_2 (pc' := 5) rfl, ev_iconst (M := MX7_dropRow) (v := (nI 1)) rfl dX7_dropRow_5 (pc' := 6) rfl, ev_isub (M := MX7_dropRow) dX7_dropRow_6 (pc' := 7) rfl, ev_putI (M := MX7_dropRow) (f := 266) (kk := 9) f_8_80 rfl rfl rfl rfl dX7_dropRow_7 (pc' := 10) rfl, ev_iload_n (M := MX7_dropRow) (k := 1) rfl dX7_dropRow_10 (pc' := 11) rfl, ev_istore_n (M := MX7_dropRow) (k := 2) rfl dX7_dropRow_11 (by decide) (pc' := 12) rfl, ev_aload_n (M := MX7_dropRow) (k := 0) rfl dX7_dropRow_13 (pc' := 14) rfl, ev_getI (M := MX7_dropRow) (f := 266) (kk := 9) f_8_80 rfl rfl rfl dX7_dropRow_14 (pc' := 17) rfl, ev_icmp_ge (M := MX7_dropRow) (t := 82) dX7_dropRow_17 (by decide) (pc' := 20) rfl, ev_aload_n (M := MX7_dropRow) (k := 0) rfl dX7_dropRow_20 (pc' := 21) rfl, ev_getR (M := MX7_dropRow) (f := 268) (kk := 9) f_8_37 rfl rfl rfl dX7_dropRow_21 (pc' := 24) rfl, ev_iload_n (M := MX7_dropRow) (k := 2) rfl dX7_dropRow_24 (pc' := 25) rfl, ev_aload_n (M := MX7_dropRow) (k := 0) rfl dX7_dropRow_25 (pc' := 26) rfl, ev_getR (M := MX7_dropRow) (f := 268) (kk := 9) f_8_37 rfl rfl rfl dX7_dropRow_26 (pc' := 29) rfl, ev_iload_n (M := MX7_dropRow) (k := 2) rfl dX7_dropRow_29 (pc' := 30) rfl, ev_iconst (M := MX7_dropRow) (v := (nI 1)) rfl dX7_dropRow_30 (pc' := 31) rfl, ev_iadd (M := MX7_dropRow) dX7_dropRow_31 (pc' := 32) rfl, ev_iald (M := MX7_dropRow) dX7_dropRow_32 (pc' := 33) rfl, ev_iast (M := MX7_dropRow) dX7_dropRow_33 (pc' := 34) rfl, ev_aload_n (M := MX7_dropRow) (k := 0) rfl dX7_dropRow_34 (pc' := 35) rfl, ev_getR (M := MX7_dropRow) (f := 269) (kk := 9) f_8_40 rfl rfl rfl dX7_dropRow_35 (pc' := 38) rfl, ev_iload_n (M := MX7_dropRow) (k := 2) rfl dX7_dropRow_38 (pc' := 39) rfl, ev_aload_n (M := MX7_dropRow) (k := 0) rfl dX7_dropRow_39 (pc' := 40) rfl, ev_getR (M := MX7_dropRow) (f := 269) (kk := 9) f_8_40 rfl rfl rfl dX7_dropRow_40 (pc' := 43) rfl, ev_iload_n (M := MX7_dropRow) (k := 2) rfl dX7_dropRow_43 (pc' := 44) rfl, ev_iconst (M := MX7_dropRow) (v := (nI 1)) rfl dX7_dropRow_44 (pc' := 45) rfl, ev_iadd (M := MX7_dropRow) dX7_dropRow_45 (pc' := 46) rfl, ev_iald (M := MX7_dropRow) dX7_dropRow_46 (pc' := 47) rfl, ev_iast (M := MX7_dropRow) dX7_dropRow_47 (pc' := 48) rfl, ev_aload_n (M := MX7_dropRow) (k := 0) rfl dX7_dropRow_48 (pc' := 49) rfl, ev_getR (M := MX7_dropRow) (f := 270) (kk := 9) f_8_43 rfl rfl rfl dX7_dropRow_49 (pc' := 52) rfl, ev_iload_n (M := MX7_dropRow) (k := 2) rfl dX7_dropRow_52 (pc' := 53) rfl, ev_aload_n (M := MX7_dropRow) (k := 0) rfl dX7_dropRow_53 (pc' := 54) rfl, ev_getR (M := MX7_dropRow) (f := 270) (kk := 9) f_8_43 rfl rfl rfl dX7_dropRow_54 (pc' := 57) rfl, ev_iload_n (M := MX7_dropRow) (k := 2) rfl dX7_dropRow_57 (pc' := 58) rfl, ev_iconst (M := MX7_dropRow) (v := (nI 1)) rfl dX7_dropRow_58 (pc' := 59) rfl, ev_iadd (M := MX7_dropRow) dX7_dropRow_59 (pc' := 60) rfl, ev_iald (M := MX7_dropRow) dX7_dropRow_60 (pc' := 61) rfl, ev_iast (M := MX7_dropRow) dX7_dropRow_61 (pc' := 62) rfl, ev_aload_n (M := MX7_dropRow) (k := 0) rfl dX7_dropRow_62 (pc' := 63) rfl, ev_getR (M := MX7_dropRow) (f := 271) (kk := 9) f_8_46 rfl rfl rfl dX7_dropRow_63 (pc' := 66) rfl, ev_iload_n (M := MX7_dropRow) (k := 2) rfl dX7_dropRow_66 (pc' := 67) rfl, ev_aload_n (M := MX7_dropRow) (k := 0) rfl dX7_dropRow_67 (pc' := 68) rfl, ev_getR (M := MX7_dropRow) (f := 271) (kk := 9) f_8_46 rfl rfl rfl dX7_dropRow_68 (pc' := 71) rfl, ev_iload_n (M := MX7_dropRow) (k := 2) rfl dX7_dropRow_71 (pc' := 72) rfl, ev_iconst (M := MX7_dropRow) (v := (nI 1)) rfl dX7_dropRow_72 (pc' := 73) rfl, ev_iadd (M := MX7_dropRow) dX7_dropRow_73 (pc' := 74) rfl, ev_iald (M := MX7_dropRow) dX7_dropRow_74 (pc' := 75) rfl, ev_iast (M := MX7_dropRow) dX7_dropRow_75 (pc' := 76) rfl, ev_iinc (M := MX7_dropRow) (v := (nI 1)) rfl dX7_dropRow_76 (by decide) (pc' := 79) rfl, ev_goto (M := MX7_dropRow) (pc' := 12) dX7_dropRow_79 (by decide), ev_vret (M := MX7_dropRow) rfl dX7_dropRow_82, uX7_dropRow, lI_some, lR_ref, lR_null, lD_some, lget_cons, ldel_cons, ldel_nil, evR_v, evR_0, evR_x, vrf_s, vrf_n, Value.category, Nat.reduceEqDiff, Nat.reduceAdd, Nat.reduceSub, Nat.reduceMul, Nat.reduceLeDiff, reduceIte, if_true, if_false, or_self, or_false, false_or, or_true, true_or, and_self, and_true, true_and, and_false, false_and, not_true_eq_false, not_false_eq_true, List.length_cons, List.length_nil, Nat.zero_le, Nat.add_eq_zero_iff, Nat.succ_ne_zero, Nat.zero_add, Nat.add_zero, nle_t, nle_f, nlt_t, nlt_f, neq_t, neq_f, i_lt0, i_le0, i_0le, i_0lt, i_eq0, i_lt, i_le, i_eq, nI_add, i_sub, i_cl, i_m1a, i_m1b, i_m1c, i_m1d, i_m1e, i_am1, i_ite0, m1, c1]
  have m1' : tK (sI 266 m (nI (rw.length - 1)) T) m = 9 := m1
  generalize sI 266 m (nI (rw.length - 1)) T = T0 at *
  refine lpS (fun k => [(2, .int (nI (p + k))), (0, .ref m), (1, .int (nI p))]) (fun k T1 => ms m T0 T1 ∧ (∀ f, tI T1 f m = tI T0 f m) ∧ (∀ r, r < 10 ∨ 13 < r → tA T1 (m + r) = tA T0 (m + r)) ∧ ∀ r, 10 ≤ r → r ≤ 13 → ∀ j, tA T1 (m + r) j = if p ≤ j ∧ j < p + k then tA T0 (m + r) (j + 1) else tA T0 (m + r) j) (rw.length - 1 - p) ?_ ?_ T0 ⟨ms.rf, fun _ => rfl, fun _ _ => rfl, fun r _ _ j => by rw [if_neg (by omega)]⟩
  · rintro k T1 hk ⟨q1, q2, q3, q4⟩
    obtain ⟨v0, hv0⟩ : ∃ v, tA T1 (m + 10) (p + k + 1) = v := ⟨_, rfl⟩
    obtain ⟨v1, hv1⟩ : ∃ v, tA T1 (m + 11) (p + k + 1) = v := ⟨_, rfl⟩
    obtain ⟨v2, hv2⟩ : ∃ v, tA T1 (m + 12) (p + k + 1) = v := ⟨_, rfl⟩
    obtain ⟨v3, hv3⟩ : ∃ v, tA T1 (m + 13) (p + k + 1) = v := ⟨_, rfl⟩
    refine ⟨sA (m + 13) (p + k) v3 (sA (m + 12) (p + k) v2 (sA (m + 11) (p + k) v1 (sA (m + 10) (p + k) v0 T1))), ⟨?_, q2, fun r hr => ?_, fun r hr1 hr2 j => ?_⟩, fun hq => ?_⟩
    · exact (((q1.tr (ms.sA (by omega))).tr (ms.sA (by omega))).tr (ms.sA (by omega))).tr (ms.sA (by omega))
    · rw [← q3 r hr]
      funext j
      show up2 (up2 (up2 (up2 (tA T1) (m + 10) (p + k) v0) (m + 11) (p + k) v1) (m + 12) (p + k) v2) (m + 13) (p + k) v3 (m + r) j = _
      rw [up2_e, if_neg (by omega), up2_e, if_neg (by omega), up2_e, if_neg (by omega), up2_e, if_neg (by omega)]
    · show up2 (up2 (up2 (up2 (tA T1) (m + 10) (p + k) v0) (m + 11) (p + k) v1) (m + 12) (p + k) v2) (m + 13) (p + k) v3 (m + r) j = _
      by_cases c : j = p + k
      · subst c
        rw [if_pos (by omega)]
        have hr : r = 10 ∨ r = 11 ∨ r = 12 ∨ r = 13 := by omega
        rcases hr with rfl | rfl | rfl | rfl
        · rw [up2_e, if_neg (by omega), up2_e, if_neg (by omega), up2_e, if_neg (by omega), up2_e, if_pos ⟨rfl, rfl⟩, ← hv0, q4 10 (by omega) (by omega), if_neg (by omega)]
        · rw [up2_e, if_neg (by omega), up2_e, if_neg (by omega), up2_e, if_pos ⟨rfl, rfl⟩, ← hv1, q4 11 (by omega) (by omega), if_neg (by omega)]
        · rw [up2_e, if_neg (by omega), up2_e, if_pos ⟨rfl, rfl⟩, ← hv2, q4 12 (by omega) (by omega), if_neg (by omega)]
        · rw [up2_e, if_pos ⟨rfl, rfl⟩, ← hv3, q4 13 (by omega) (by omega), if_neg (by omega)]
      · rw [up2_e, if_neg (fun q => c q.2), up2_e, if_neg (fun q => c q.2), up2_e, if_neg (fun q => c q.2), up2_e, if_neg (fun q => c q.2), q4 r hr1 hr2]
        by_cases c2 : p ≤ j ∧ j < p + k
        · rw [if_pos c2, if_pos (by omega)]
        · rw [if_neg c2, if_neg (by omega)]
    · obtain ⟨z1, z2, z3, z4, z5, z6⟩ := o4.tr q1
      have n1 : tK T1 m = 9 := by rw [z3]; exact m1
      have n2 : tI T1 266 m = nI (rw.length - 1) := (q2 266).trans o1
      rw [← z3] at k10 k11 k12 k13
      rw [← z4] at r10 r11 r12 r13
      rw [← z5] at l10 l11 l12 l13
      have g1 : (m + 11 = m + 10) = False := eq_false (by omega)
      have g2 : (m + 12 = m + 11) = False := eq_false (by omega)
      have g3 : (m + 12 = m + 10) = False := eq_false (by omega)
      have g4 : (m + 13 = m + 12) = False := eq_false (by omega)
      have g5 : (m + 13 = m + 11) = False := eq_false (by omega)
      have g6 : (m + 13 = m + 10) = False := eq_false (by omega)
      clear z3 z4 z5 z6 q1 q2 q3 q4 o1 o2 o3 o4 h0
      rw [ev_iload_n (M := MX7_dropRow) (k := 2) rfl dX7_dropRow_12 (pc' := 13) rfl]
      simp (disch := omega) only [ev_aload_n (M := MX7_dropRow) (k := 0) rfl dX7_dropRow_0 (pc' := 1) rfl, ev_dupI (M := MX7_dropRow) dX7_dropRow_1 (pc' := 2) rfl, ev_dupR (M := MX7_dropRow) dX7_dropRow_1 (pc' := 2) rfl, ev_getI (M := MX7_dropRow) (f := 266) (kk := 9) f_8_80 rfl rfl rfl dX7_dropRow_2 (pc' := 5) rfl, ev_iconst (M := MX7_dropRow) (v := (nI 1)) rfl dX7_dropRow_5 (pc' := 6) rfl, ev_isub (M := MX7_dropRow) dX7_dropRow_6 (pc' := 7) rfl, ev_putI (M := MX7_dropRow) (f := 266) (kk := 9) f_8_80 rfl rfl rfl rfl dX7_dropRow_7 (pc' := 10) rfl, ev_iload_n (M := MX7_dropRow) (k := 1) rfl dX7_dropRow_10 (pc' := 11) rfl, ev_istore_n (M := MX7_dropRow) (k := 2) rfl dX7_dropRow_11 (by decide) (pc' := 12) rfl, ev_aload_n (M := MX7_dropRow) (k := 0) rfl dX7_dropRow_13 (pc' := 14) rfl, ev_getI (M := MX7_dropRow) (f := 266) (kk := 9) f_8_80 rfl rfl rfl dX7_dropRow_14 (pc' := 17) rfl, ev_icmp_ge (M := MX7_dropRow) (t := 82) dX7_dropRow_17 (by decide) (pc' := 20) rfl, ev_aload_n (M := MX7_dropRow) (k := 0) rfl dX7_dropRow_20 (pc' := 21) rfl, ev_getR (M := MX7_dropRow) (f := 268) (kk := 9) f_8_37 rfl rfl rfl dX7_dropRow_21 (pc' := 24) rfl, ev_iload_n (M := MX7_dropRow) (k := 2) rfl dX7_dropRow_24 (pc' := 25) rfl, ev_aload_n (M := MX7_dropRow) (k := 0) rfl dX7_dropRow_25 (pc' := 26) rfl, ev_getR (M := MX7_dropRow) (f := 268) (kk := 9) f_8_37 rfl rfl rfl dX7_dropRow_26 (pc' := 29) rfl, ev_iload_n (M := MX7_dropRow) (k := 2) rfl dX7_dropRow_29 (pc' := 30) rfl, ev_iconst (M := MX7_dropRow) (v := (nI 1)) rfl dX7_dropRow_30 (pc' := 31) rfl, ev_iadd (M := MX7_dropRow) dX7_dropRow_31 (pc' := 32) rfl, ev_iald (M := MX7_dropRow) dX7_dropRow_32 (pc' := 33) rfl, ev_iast (M := MX7_dropRow) dX7_dropRow_33 (pc' := 34) rfl, ev_aload_n (M := MX7_dropRow) (k := 0) rfl dX7_dropRow_34 (pc' := 35) rfl, ev_getR (M := MX7_dropRow) (f := 269) (kk := 9) f_8_40 rfl rfl rfl dX7_dropRow_35 (pc' := 38) rfl, ev_iload_n (M := MX7_dropRow) (k := 2) rfl dX7_dropRow_38 (pc' := 39) rfl, ev_aload_n (M := MX7_dropRow) (k := 0) rfl dX7_dropRow_39 (pc' := 40) rfl, ev_getR (M := MX7_dropRow) (f := 269) (kk := 9) f_8_40 rfl rfl rfl dX7_dropRow_40 (pc' := 43) rfl, ev_iload_n (M := MX7_dropRow) (k := 2) rfl dX7_dropRow_43 (pc' := 44) rfl, ev_iconst (M := MX7_dropRow) (v := (nI 1)) rfl dX7_dropRow_44 (pc' := 45) rfl, ev_iadd (M := MX7_dropRow) dX7_dropRow_45 (pc' := 46) rfl, ev_iald (M := MX7_dropRow) dX7_dropRow_46 (pc' := 47) rfl, ev_iast (M := MX7_dropRow) dX7_dropRow_47 (pc' := 48) rfl, ev_aload_n (M := MX7_dropRow) (k := 0) rfl dX7_dropRow_48 (pc' := 49) rfl, ev_getR (M := MX7_dropRow) (f := 270) (kk := 9) f_8_43 rfl rfl rfl dX7_dropRow_49 (pc' := 52) rfl, ev_iload_n (M := MX7_dropRow) (k := 2) rfl dX7_dropRow_52 (pc' := 53) rfl, ev_aload_n (M := MX7_dropRow) (k := 0) rfl dX7_dropRow_53 (pc' := 54) rfl, ev_getR (M := MX7_dropRow) (f := 270) (kk := 9) f_8_43 rfl rfl rfl dX7_dropRow_54 (pc' := 57) rfl, ev_iload_n (M := MX7_dropRow) (k := 2) rfl dX7_dropRow_57 (pc' := 58) rfl, ev_iconst (M := MX7_dropRow) (v := (nI 1)) rfl dX7_dropRow_58 (pc' := 59) rfl, ev_iadd (M := MX7_dropRow) dX7_dropRow_59 (pc' := 60) rfl, ev_iald (M := MX7_dropRow) dX7_dropRow_60 (pc' := 61) rfl, ev_iast (M := MX7_dropRow) dX7_dropRow_61 (pc' := 62) rfl, ev_aload_n (M := MX7_dropRow) (k := 0) rfl dX7_dropRow_62 (pc' := 63) rfl, ev_getR (M := MX7_dropRow) (f := 271) (kk := 9) f_8_46 rfl rfl rfl dX7_dropRow_63 (pc' := 66) rfl, ev_iload_n (M := MX7_dropRow) (k := 2) rfl dX7_dropRow_66 (pc' := 67) rfl, ev_aload_n (M := MX7_dropRow) (k := 0) rfl dX7_dropRow_67 (pc' := 68) rfl, ev_getR (M := MX7_dropRow) (f := 271) (kk := 9) f_8_46 rfl rfl rfl dX7_dropRow_68 (pc' := 71) rfl, ev_iload_n (M := MX7_dropRow) (k := 2) rfl dX7_dropRow_71 (pc' := 72) rfl, ev_iconst (M := MX7_dropRow) (v := (nI 1)) rfl dX7_dropRow_72 (pc' := 73) rfl, ev_iadd (M := MX7_dropRow) dX7_dropRow_73 (pc' := 74) rfl, ev_iald (M := MX7_dropRow) dX7_dropRow_74 (pc' := 75) rfl, ev_iast (M := MX7_dropRow) dX7_dropRow_75 (pc' := 76) rfl, ev_iinc (M := MX7_dropRow) (v := (nI 1)) rfl dX7_dropRow_76 (by decide) (pc' := 79) rfl, ev_goto (M := MX7_dropRow) (pc' := 12) dX7_dropRow_79 (by decide), ev_vret (M := MX7_dropRow) rfl dX7_dropRow_82, lI_some, lR_ref, lR_null, lD_some, lget_cons, ldel_cons, ldel_nil, evR_v, evR_0, evR_x, vrf_s, vrf_n, Value.category, Nat.reduceEqDiff, Nat.reduceAdd, Nat.reduceSub, Nat.reduceMul, Nat.reduceLeDiff, reduceIte, if_true, if_false, or_self, or_false, false_or, or_true, true_or, and_self, and_true, true_and, and_false, false_and, not_true_eq_false, not_false_eq_true, List.length_cons, List.length_nil, Nat.zero_le, Nat.add_eq_zero_iff, Nat.succ_ne_zero, Nat.zero_add, Nat.add_zero, nle_t, nle_f, nlt_t, nlt_f, neq_t, neq_f, i_lt0, i_le0, i_0le, i_0lt, i_eq0, i_lt, i_le, i_eq, nI_add, i_sub, i_cl, i_m1a, i_m1b, i_m1c, i_m1d, i_m1e, i_am1, i_ite0, tK_sA, tR_sA, tI_sA, tl_sA, tA_sA, up2_e, g1, g2, g3, g4, g5, g6, n1, n2, r10, r11, r12, r13, k10, k11, k12, k13, l10, l11, l12, l13, hv0, hv1, hv2, hv3]
      exact hq
  · rintro T1 ⟨q1, q2, q3, q4⟩
    have hs := o4.tr q1
    have n1 : tK T1 m = 9 := by rw [hs.2.2.1]; exact m1
    have n2 : tI T1 266 m = nI (rw.length - 1) := (q2 266).trans o1
    rw [ev_iload_n (M := MX7_dropRow) (k := 2) rfl dX7_dropRow_12 (pc' := 13) rfl]
    simp (disch := omega) only [ev_aload_n (M := MX7_dropRow) (k := 0) rfl dX7_dropRow_0 (pc' := 1) rfl, ev_dupI (M := MX7_dropRow) dX7_dropRow_1 (pc' := 2) rfl, ev_dupR (M := MX7_dropRow) dX7_dropRow_1 (pc' := 2) rfl, ev_getI (M := MX7_dropRow) (f := 266) (kk := 9) f_8_80 rfl rfl rfl dX7_dropRow_2 (pc' := 5) rfl, ev_iconst (M := MX7_dropRow) (v := (nI 1)) rfl dX7_dropRow_5 (pc' := 6) rfl, ev_isub (M := MX7_dropRow) dX7_dropRow_6 (pc' := 7) rfl, ev_putI (M := MX7_dropRow) (f := 266) (kk := 9) f_8_80 rfl rfl rfl rfl dX7_dropRow_7 (pc' := 10) rfl, ev_iload_n (M := MX7_dropRow) (k := 1) rfl dX7_dropRow_10 (pc' := 11) rfl, ev_istore_n (M := MX7_dropRow) (k := 2) rfl dX7_dropRow_11 (by decide) (pc' := 12) rfl, ev_aload_n (M := MX7_dropRow) (k := 0) rfl dX7_dropRow_13 (pc' := 14) rfl, ev_getI (M := MX7_dropRow) (f := 266) (kk := 9) f_8_80 rfl rfl rfl dX7_dropRow_14 (pc' := 17) rfl, ev_icmp_ge (M := MX7_dropRow) (t := 82) dX7_dropRow_17 (by decide) (pc' := 20) rfl, ev_aload_n (M := MX7_dropRow) (k := 0) rfl dX7_dropRow_20 (pc' := 21) rfl, ev_getR (M := MX7_dropRow) (f := 268) (kk := 9) f_8_37 rfl rfl rfl dX7_dropRow_21 (pc' := 24) rfl, ev_iload_n (M := MX7_dropRow) (k := 2) rfl dX7_dropRow_24 (pc' := 25) rfl, ev_aload_n (M := MX7_dropRow) (k := 0) rfl dX7_dropRow_25 (pc' := 26) rfl, ev_getR (M := MX7_dropRow) (f := 268) (kk := 9) f_8_37 rfl rfl rfl dX7_dropRow_26 (pc' := 29) rfl, ev_iload_n (M := MX7_dropRow) (k := 2) rfl dX7_dropRow_29 (pc' := 30) rfl, ev_iconst (M := MX7_dropRow) (v := (nI 1)) rfl dX7_dropRow_30 (pc' := 31) rfl, ev_iadd (M := MX7_dropRow) dX7_dropRow_31 (pc' := 32) rfl, ev_iald (M := MX7_dropRow) dX7_dropRow_32 (pc' := 33) rfl, ev_iast (M := MX7_dropRow) dX7_dropRow_33 (pc' := 34) rfl, ev_aload_n (M := MX7_dropRow) (k := 0) rfl dX7_dropRow_34 (pc' := 35) rfl, ev_getR (M := MX7_dropRow) (f := 269) (kk := 9) f_8_40 rfl rfl rfl dX7_dropRow_35 (pc' := 38) rfl, ev_iload_n (M := MX7_dropRow) (k := 2) rfl dX7_dropRow_38 (pc' := 39) rfl, ev_aload_n (M := MX7_dropRow) (k := 0) rfl dX7_dropRow_39 (pc' := 40) rfl, ev_getR (M := MX7_dropRow) (f := 269) (kk := 9) f_8_40 rfl rfl rfl dX7_dropRow_40 (pc' := 43) rfl, ev_iload_n (M := MX7_dropRow) (k := 2) rfl dX7_dropRow_43 (pc' := 44) rfl, ev_iconst (M := MX7_dropRow) (v := (nI 1)) rfl dX7_dropRow_44 (pc' := 45) rfl, ev_iadd (M := MX7_dropRow) dX7_dropRow_45 (pc' := 46) rfl, ev_iald (M := MX7_dropRow) dX7_dropRow_46 (pc' := 47) rfl, ev_iast (M := MX7_dropRow) dX7_dropRow_47 (pc' := 48) rfl, ev_aload_n (M := MX7_dropRow) (k := 0) rfl dX7_dropRow_48 (pc' := 49) rfl, ev_getR (M := MX7_dropRow) (f := 270) (kk := 9) f_8_43 rfl rfl rfl dX7_dropRow_49 (pc' := 52) rfl, ev_iload_n (M := MX7_dropRow) (k := 2) rfl dX7_dropRow_52 (pc' := 53) rfl, ev_aload_n (M := MX7_dropRow) (k := 0) rfl dX7_dropRow_53 (pc' := 54) rfl, ev_getR (M := MX7_dropRow) (f := 270) (kk := 9) f_8_43 rfl rfl rfl dX7_dropRow_54 (pc' := 57) rfl, ev_iload_n (M := MX7_dropRow) (k := 2) rfl dX7_dropRow_57 (pc' := 58) rfl, ev_iconst (M := MX7_dropRow) (v := (nI 1)) rfl dX7_dropRow_58 (pc' := 59) rfl, ev_iadd (M := MX7_dropRow) dX7_dropRow_59 (pc' := 60) rfl, ev_iald (M := MX7_dropRow) dX7_dropRow_60 (pc' := 61) rfl, ev_iast (M := MX7_dropRow) dX7_dropRow_61 (pc' := 62) rfl, ev_aload_n (M := MX7_dropRow) (k := 0) rfl dX7_dropRow_62 (pc' := 63) rfl, ev_getR (M := MX7_dropRow) (f := 271) (kk := 9) f_8_46 rfl rfl rfl dX7_dropRow_63 (pc' := 66) rfl, ev_iload_n (M := MX7_dropRow) (k := 2) rfl dX7_dropRow_66 (pc' := 67) rfl, ev_aload_n (M := MX7_dropRow) (k := 0) rfl dX7_dropRow_67 (pc' := 68) rfl, ev_getR (M := MX7_dropRow) (f := 271) (kk := 9) f_8_46 rfl rfl rfl dX7_dropRow_68 (pc' := 71) rfl, ev_iload_n (M := MX7_dropRow) (k := 2) rfl dX7_dropRow_71 (pc' := 72) rfl, ev_iconst (M := MX7_dropRow) (v := (nI 1)) rfl dX7_dropRow_72 (pc' := 73) rfl, ev_iadd (M := MX7_dropRow) dX7_dropRow_73 (pc' := 74) rfl, ev_iald (M := MX7_dropRow) dX7_dropRow_74 (pc' := 75) rfl, ev_iast (M := MX7_dropRow) dX7_dropRow_75 (pc' := 76) rfl, ev_iinc (M := MX7_dropRow) (v := (nI 1)) rfl dX7_dropRow_76 (by decide) (pc' := 79) rfl, ev_goto (M := MX7_dropRow) (pc' := 12) dX7_dropRow_79 (by decide), ev_vret (M := MX7_dropRow) rfl dX7_dropRow_82, lI_some, lR_ref, lR_null, lD_some, lget_cons, ldel_cons, ldel_nil, evR_v, evR_0, evR_x, vrf_s, vrf_n, Value.category, Nat.reduceEqDiff, Nat.reduceAdd, Nat.reduceSub, Nat.reduceMul, Nat.reduceLeDiff, reduceIte, if_true, if_false, or_self, or_false, false_or, or_true, true_or, and_self, and_true, true_and, and_false, false_and, not_true_eq_false, not_false_eq_true, List.length_cons, List.length_nil, Nat.zero_le, Nat.add_eq_zero_iff, Nat.succ_ne_zero, Nat.zero_add, Nat.add_zero, nle_t, nle_f, nlt_t, nlt_f, neq_t, neq_f, i_lt0, i_le0, i_0le, i_0lt, i_eq0, i_lt, i_le, i_eq, nI_add, i_sub, i_cl, i_m1a, i_m1b, i_m1c, i_m1d, i_m1e, i_am1, i_ite0, n1, n2]
    have eA : ∀ r, r < 10 ∨ 13 < r → tA T1 (m + r) = tA T (m + r) := fun r hr => by rw [q3 r hr, o3]
    have eI : ∀ f, f ≠ 266 → tI T1 f m = tI T f m := fun f hf => (q2 f).trans (o2 f hf)
    refine ⟨?_, eI 278 (by decide), hs, eA 14 (Or.inr (by omega))⟩
    obtain ⟨h1, h2, h3, h4, h5, h6, ⟨c1, c2, c3, c4, c5⟩, b⟩ := h0
    refine ⟨h1.ms hs, h2.of (eI 256 (by decide)) (eA 1 (Or.inl (by omega))), h3.of (fun i _ _ => eA i (Or.inl (by omega))), by rw [eA 9 (Or.inl (by omega))]; exact h4, ?_, h6.of (eA 15 (Or.inr (by omega))), ⟨by rw [eI 267 (by decide)]; exact c1, by rw [eI 272 (by decide)]; exact c2, by rw [eI 274 (by decide)]; exact c3, by rw [eI 276 (by decide)]; exact c4, by rw [eI 277 (by decide)]; exact c5⟩, b⟩
    refine h5.drop hp n2 (fun r hr1 hr2 j hj => ?_) (eA 14 (Or.inr (by omega)))
    rw [q4 r hr1 hr2, o3]
    by_cases c : j < p
    · rw [if_pos c, if_neg (by omega)]
    · rw [if_neg c, if_pos (by omega)]
theorem MR.caw {cs' : List Nat} {g : Nat → Int32} (h : MR T m dr kl vf vn vb ve vp nx rw bx sf cb ud st op cs hi re) (hl : cs'.length ≤ 3) (hg : ∀ j, j < 3 → g j = caV cs' j) (hc : ∀ k ∈ cs', k < 1000000) : MR (sAs (m + 15) g T) m dr kl vf vn vb ve vp nx rw bx sf cb ud st op cs' hi re := by
  obtain ⟨h1, h2, h3, h4, h5, h6, h7, b1, b2, b3, b4, b5, b6, b7⟩ := h
  have e : ∀ i, i ≠ 15 → tA (sAs (m + 15) g T) (m + i) = tA T (m + i) := fun i hi => by
    show up1 _ _ _ _ = _
    rw [up1_e, if_neg (by omega)]
  refine ⟨h1.ms (ms.sAs (by omega)), h2.of rfl (e 1 (by omega)), h3.of (fun i _ _ => e i (by omega)), by rw [e 9 (by omega)]; exact h4, h5.of rfl (fun i _ _ => e i (by omega)), ⟨hl, fun i hi => ?_⟩, h7, b1, b2, b3, b4, b5, hc, b7⟩
  rw [sAs_tA, hg i hi]
  rfl
end MRO
