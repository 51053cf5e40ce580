/-! DedupVault$Shelf: what it changes -/
/-- a counter that runs down to -1: j is one more -/
def iv (j : Nat) : Int32 := if j = 0 then -1 else nI (j - 1)
theorem iv_dec (i : Nat) : nI i + (-1) = iv i := by
  unfold iv
  by_cases h : i = 0
  · subst h; decide
  · rw [if_neg h]; exact i_am1 (by omega)
theorem iv_sub (i : Nat) : nI i - nI 1 = iv i := by
  unfold iv
  by_cases h : i = 0
  · subst h; decide
  · rw [if_neg h]; exact pk_sub (by omega)
theorem iv_neg {j : Nat} (h : j < 2147483648) : (iv j < 0) = (j = 0) := by
  unfold iv
  by_cases e : j = 0
  · rw [if_pos e]; exact propext ⟨fun _ => e, fun _ => by decide⟩
  · rw [if_neg e]; exact propext ⟨fun q => absurd q (nI_pos (by omega)), fun q => absurd q e⟩
theorem iv_pos {j : Nat} (h : 1 ≤ j) : iv j = nI (j - 1) := by
  unfold iv
  rw [if_neg (by omega)]
theorem boxO.of {T T' : TS} {ba ca us : Nat → Nat} {cb : Nat → List Nat} {k : Nat} {ns : List Nat} (h : boxO T ba ca cb us k ns) (e0 : cell T' (ba k) = cell T (ba k)) (e1 : cell T' (ba k + 1) = cell T (ba k + 1)) (e : ∀ n ∈ ns, cell T' (ca n) = cell T (ca n) ∧ cell T' (ca n + 1) = cell T (ca n + 1) ∧ cell T' (ca n + 2) = cell T (ca n + 2) ∧ cell T' (ca n + 3) = cell T (ca n + 3)) : boxO T' ba ca cb us k ns := by
  obtain ⟨⟨h1, h2, h3⟩, h4, h5, h6, h7, h8, h9⟩ := h
  refine ⟨⟨by rw [ce_K e0]; exact h1, by rw [ce_R e0]; exact h2, h3.of e1⟩, by rw [ce_I e0]; exact h4, by rw [ce_I e0]; exact h5, h6, h7, h8, fun n hn => ?_⟩
  obtain ⟨q0, q1, q2, q3⟩ := e n hn
  exact ⟨(h9 n hn).1.of q0 q1 q2 q3, by rw [ce_R q0]; exact (h9 n hn).2⟩
/-- where a shelf lies -/
def shD (s : Nat) (ba ca : Nat → Nat) (bl cs : List Nat) (co : Nat → List Nat) (a : Nat) : Prop := a = s ∨ a = s + 1 ∨ a = s + 2 ∨ (∃ k ∈ cs, a = ba k) ∨ ∃ k ∈ bl, a = ba k ∨ a = ba k + 1 ∨ ∃ n ∈ co k, a = ca n ∨ a = ca n + 1 ∨ a = ca n + 2 ∨ a = ca n + 3
/-- what of a shelf changes -/
def shM (s : Nat) (ba ca : Nat → Nat) (bl : List Nat) (co : Nat → List Nat) (a : Nat) : Prop := a = s ∨ a = s + 1 ∨ a = s + 2 ∨ ∃ k ∈ bl, a = ba k ∨ a = ba k + 1 ∨ ∃ n ∈ co k, a = ca n
theorem SH.of {T T' : TS} {s : Nat} {ba ca us : Nat → Nat} {cb : Nat → List Nat} {bl cs : List Nat} {co : Nat → List Nat} {op hi re st : Nat} (h : SH T s ba ca cb us bl co op cs hi re st) (e : ∀ a, shD s ba ca bl cs co a → cell T' a = cell T a) : SH T' s ba ca cb us bl co op cs hi re st := by
  obtain ⟨⟨h1, h2, h3, h4, h5, h6, h7⟩, ⟨l1, l2⟩, hb, ho, hc, hz⟩ := h
  have e0 := e s (Or.inl rfl)
  have e1 := e (s + 1) (Or.inr (Or.inl rfl))
  have e2 := e (s + 2) (Or.inr (Or.inr (Or.inl rfl)))
  refine ⟨⟨by rw [ce_K e0]; exact h1, by rw [ce_R e0]; exact h2, by rw [ce_R e0]; exact h3, by rw [ce_R e0]; exact h4, by rw [ce_I e0]; exact h5, by rw [ce_I e0]; exact h6, by rw [ce_I e0]; exact h7⟩, ⟨l1.of e1, l2.of e2⟩, fun k hk => ?_, ho, fun k hk => ?_, hz⟩
  · have w : ∀ a, (a = ba k ∨ a = ba k + 1 ∨ ∃ n ∈ co k, a = ca n ∨ a = ca n + 1 ∨ a = ca n + 2 ∨ a = ca n + 3) → cell T' a = cell T a := fun a ha => e a (Or.inr (Or.inr (Or.inr (Or.inr ⟨k, hk, ha⟩))))
    exact ⟨(hb k hk).1.of (w _ (Or.inl rfl)) (w _ (Or.inr (Or.inl rfl))) (fun n hn => ⟨w _ (Or.inr (Or.inr ⟨n, hn, Or.inl rfl⟩)), w _ (Or.inr (Or.inr ⟨n, hn, Or.inr (Or.inl rfl)⟩)), w _ (Or.inr (Or.inr ⟨n, hn, Or.inr (Or.inr (Or.inl rfl))⟩)), w _ (Or.inr (Or.inr ⟨n, hn, Or.inr (Or.inr (Or.inr rfl))⟩))⟩), (hb k hk).2⟩
  · have w := e (ba k) (Or.inr (Or.inr (Or.inr (Or.inl ⟨k, hk, rfl⟩))))
    rw [ce_K w, ce_I w]
    exact hc k hk
section SHM
variable {d s : Nat} {ba ca us : Nat → Nat} {cb : Nat → List Nat} {bl cs : List Nat} {co : Nat → List Nat} {op hi re st : Nat} {T : TS}
/-- the kinds -/
theorem SH.kb (h : SH T s ba ca cb us bl co op cs hi re st) {k : Nat} (hk : k ∈ bl) : tK T (ba k) = 3 ∧ tK T (ba k + 1) = 23 ∧ tI T 64 (ba k) = nI k ∧ k < 1000000 := by
  obtain ⟨⟨q1, q2, q3⟩, q4, -, -, -, q5, -⟩ := (h.2.2.1 k hk).1
  exact ⟨q1, q3.1, q4, q5⟩
theorem SH.kn (h : SH T s ba ca cb us bl co op cs hi re st) {k n : Nat} (hk : k ∈ bl) (hn : n ∈ co k) : tK T (ca n) = 2 ∧ tK T (ca n + 1) = 5 ∧ tK T (ca n + 2) = 20 ∧ tK T (ca n + 3) = 4 ∧ tI T 32 (ca n) = nI n ∧ n < 1000000 ∧ tR T 34 (ca n) = some (ba k) := by
  obtain ⟨-, -, -, -, -, -, q⟩ := (h.2.2.1 k hk).1
  obtain ⟨⟨q1, q2, q3, q4, q5, q6, -⟩, q7⟩ := q n hn
  obtain ⟨r1, r2, r3, r4, f, xs, cap, -, r5, -⟩ := q5
  exact ⟨q1, r5.1, r5.2.2.2.1, r1, q2, q6, q7⟩
theorem SH.bi (h : SH T s ba ca cb us bl co op cs hi re st) {k k' : Nat} (hk : k ∈ bl) (hk' : k' ∈ bl) (e : ba k = ba k') : k = k' := by
  obtain ⟨-, -, a1, a2⟩ := h.kb hk
  obtain ⟨-, -, b1, b2⟩ := h.kb hk'
  rw [e, b1] at a1
  exact ((nI_eq (by omega) (by omega)).mp a1).symm
theorem SH.ni (h : SH T s ba ca cb us bl co op cs hi re st) {k k' n n' : Nat} (hk : k ∈ bl) (hn : n ∈ co k) (hk' : k' ∈ bl) (hn' : n' ∈ co k') (e : ca n = ca n') : n = n' ∧ k = k' := by
  obtain ⟨-, -, -, -, a1, a2, a3⟩ := h.kn hk hn
  obtain ⟨-, -, -, -, b1, b2, b3⟩ := h.kn hk' hn'
  rw [e, b1] at a1
  rw [e, b3] at a3
  exact ⟨((nI_eq (by omega) (by omega)).mp a1).symm, (h.bi hk' hk (Option.some.inj a3)).symm⟩
theorem SH.ks (h : SH T s ba ca cb us bl co op cs hi re st) : tK T s = 6 ∧ tK T (s + 1) = 23 ∧ tK T (s + 2) = 23 := ⟨h.1.1, h.2.1.1.1, h.2.1.2.1⟩
theorem SH.kd (h : SH T s ba ca cb us bl co op cs hi re st) {a : Nat} (ha : shD s ba ca bl cs co a) : tK T a ≠ 0 := by
  rcases ha with rfl | rfl | rfl | ⟨k, hk, rfl⟩ | ⟨k, hk, rfl | rfl | ⟨n, hn, rfl | rfl | rfl | rfl⟩⟩
  · rw [h.ks.1]; decide
  · rw [h.ks.2.1]; decide
  · rw [h.ks.2.2]; decide
  · rw [(h.2.2.2.2.1 k hk).1]; decide
  · rw [(h.kb hk).1]; decide
  · rw [(h.kb hk).2.1]; decide
  · rw [(h.kn hk hn).1]; decide
  · rw [(h.kn hk hn).2.1]; decide
  · rw [(h.kn hk hn).2.2.1]; decide
  · rw [(h.kn hk hn).2.2.2.1]; decide
/-- only the cache's list changes -/
theorem SH.cache {T' : TS} {cs' : List Nat} (h : SH T s ba ca cb us bl co op cs hi re st) (hl : lok T' (s + 2) (cs'.map ba)) (hc : cs'.length ≤ 3) (hq : ∀ k ∈ cs', tK T (ba k) = 3 ∧ tI T 64 (ba k) = nI k ∧ k < 1000000) (he : ∀ a, tK T a ≠ 0 → a ≠ s + 2 → cell T' a = cell T a) : SH T' s ba ca cb us bl co op cs' hi re st := by
  obtain ⟨s1, s2, s3⟩ := h.ks
  have hn : ∀ {k}, k ∈ bl → cell T' (ba k) = cell T (ba k) ∧ cell T' (ba k + 1) = cell T (ba k + 1) := by
    intro k hk
    obtain ⟨a1, a2, -⟩ := h.kb hk
    refine ⟨he _ (by rw [a1]; decide) (neK a1 s3 (by decide)), he _ (by rw [a2]; decide) (fun e => ?_)⟩
    have : ba k = s + 1 := by omega
    exact neK a1 s2 (by decide) this
  have e0 : cell T' s = cell T s := he s (by rw [s1]; decide) (by omega)
  have e1 : cell T' (s + 1) = cell T (s + 1) := he _ (by rw [s2]; decide) (by omega)
  have hh := h
  obtain ⟨⟨h1, h2, h3, h4, h5, h6, h7⟩, ⟨l1, l2⟩, hb, ho, hcc, z1, z2, z3⟩ := h
  refine ⟨⟨by rw [ce_K e0]; exact h1, by rw [ce_R e0]; exact h2, by rw [ce_R e0]; exact h3, by rw [ce_R e0]; exact h4, by rw [ce_I e0]; exact h5, by rw [ce_I e0]; exact h6, by rw [ce_I e0]; exact h7⟩, ⟨l1.of e1, hl⟩, fun k hk => ⟨(hb k hk).1.of (hn hk).1 (hn hk).2 (fun n hnn => ?_), (hb k hk).2⟩, ho, fun k hk => ?_, z1, hc, z3⟩
  · obtain ⟨b1, b2, b3, b4, -⟩ := hh.kn hk hnn
    exact ⟨he _ (by rw [b1]; decide) (neK b1 s3 (by decide)), he _ (by rw [b2]; decide) (neK b2 s3 (by decide)), he _ (by rw [b3]; decide) (neK b3 s3 (by decide)), he _ (by rw [b4]; decide) (neK b4 s3 (by decide))⟩
  · obtain ⟨a1, a2, a3⟩ := hq k hk
    have e := he (ba k) (by rw [a1]; decide) (neK a1 s3 (by decide))
    rw [ce_K e, ce_I e]
    exact ⟨a1, a2, a3⟩
theorem C_leaveCache {b : Nat} (hw : wf T) (h : SH T s ba ca cb us bl co op cs hi re st) (hb : tK T (ba b) = 3 ∧ tI T 64 (ba b) = nI b ∧ b < 1000000) : CallQ (d + 2) 60 [.ref s, .ref (ba b)] T (fun q T' => q = .inl none ∧ SH T' s ba ca cb us bl co op (cs.filter (fun k => decide (k ≠ b))) hi re st ∧ fr (fun a => a = s + 2) 0 0 T T') := by
  have hh := h
  obtain ⟨⟨h1, h2, h3, h4, h5, h6, h7⟩, ⟨l1, l2⟩, hbx, ho, hcc, z1, z2, z3⟩ := h
  have lk := l2.1
  simp (disch := omega) only [ev_aload_n (M := MX4_leaveCache) (k := 0) rfl dX4_leaveCache_0 (pc' := 1) rfl, ev_getR (M := MX4_leaveCache) (f := 161) (kk := 6) f_5_18 rfl rfl rfl dX4_leaveCache_1 (pc' := 4) rfl, ev_cL0 (M := MX4_leaveCache) dX4_leaveCache_4 c_5_44 mJx4a65c_size_8abf5 rfl rfl rfl (pc' := 7) rfl, ev_iconst (M := MX4_leaveCache) (v := (nI 1)) rfl dX4_leaveCache_7 (pc' := 8) rfl, ev_isub (M := MX4_leaveCache) dX4_leaveCache_8 (pc' := 9) rfl, ev_istore_n (M := MX4_leaveCache) (k := 2) rfl dX4_leaveCache_9 (by decide) (pc' := 10) rfl, ev_if_lt (M := MX4_leaveCache) (t := 41) dX4_leaveCache_11 (by decide) (pc' := 14) rfl, ev_aload_n (M := MX4_leaveCache) (k := 0) rfl dX4_leaveCache_14 (pc' := 15) rfl, ev_getR (M := MX4_leaveCache) (f := 161) (kk := 6) f_5_18 rfl rfl rfl dX4_leaveCache_15 (pc' := 18) rfl, ev_iload_n (M := MX4_leaveCache) (k := 2) rfl dX4_leaveCache_18 (pc' := 19) rfl, ev_cL1 (M := MX4_leaveCache) dX4_leaveCache_19 c_5_55 mJx4a65c_get_915e3 rfl rfl rfl (pc' := 22) rfl, ev_aload_n (M := MX4_leaveCache) (k := 1) rfl dX4_leaveCache_22 (pc' := 23) rfl, ev_acmp_ne (M := MX4_leaveCache) (t := 35) dX4_leaveCache_23 (by decide) (pc' := 26) rfl, ev_acmp_neN (M := MX4_leaveCache) (t := 35) dX4_leaveCache_23 (by decide), ev_aload_n (M := MX4_leaveCache) (k := 0) rfl dX4_leaveCache_26 (pc' := 27) rfl, ev_getR (M := MX4_leaveCache) (f := 161) (kk := 6) f_5_18 rfl rfl rfl dX4_leaveCache_27 (pc' := 30) rfl, ev_iload_n (M := MX4_leaveCache) (k := 2) rfl dX4_leaveCache_30 (pc' := 31) rfl, ev_cL1 (M := MX4_leaveCache) dX4_leaveCache_31 c_5_120 mJx4a65c_remove_915e3 rfl rfl rfl (pc' := 34) rfl, ev_popI (M := MX4_leaveCache) dX4_leaveCache_34 (pc' := 35) rfl, ev_popR (M := MX4_leaveCache) dX4_leaveCache_34 (pc' := 35) rfl, ev_iinc (M := MX4_leaveCache) (v := (-1)) rfl dX4_leaveCache_35 (by decide) (pc' := 38) rfl, ev_goto (M := MX4_leaveCache) (pc' := 10) dX4_leaveCache_38 (by decide), ev_vret (M := MX4_leaveCache) rfl dX4_leaveCache_41, uX4_leaveCache, lI_some, lJ_some, lR_ref, lR_null, lD_some, lget_cons, ldel_cons, ldel_nil, evR_v, evR_0, evR_x, vrf_s, vrf_n, Value.category, Nat.reduceEqDiff, Nat.reduceAdd, Nat.reduceSub, Nat.reduceMul, Nat.reduceLeDiff, reduceIte, if_true, if_false, or_self, or_false, false_or, or_true, true_or, and_self, and_true, true_and, and_false, false_and, not_true_eq_false, not_false_eq_true, List.length_cons, List.length_nil, Nat.zero_le, Nat.add_eq_zero_iff, Nat.succ_ne_zero, Nat.zero_add, Nat.add_zero, nle_t, nle_f, nlt_t, nlt_f, neq_t, neq_f, i_lt0, i_le0, i_0le, i_0lt, i_eq0, i_lt, i_le, i_eq, nI_add, i_sub, i_cl, i_m1a, i_m1b, i_m1c, i_m1d, i_m1e, i_am1, i_ite0, h1, h3, lk, c_lsizem l2.is, iv_sub]
  refine lpS (fun m => [(2, .int (iv (cs.length - m))), (0, .ref s), (1, .ref (ba b))]) (fun m T' => lok T' (s + 2) ((cs.take (cs.length - m) ++ (cs.drop (cs.length - m)).filter (fun k => decide (k ≠ b))).map ba) ∧ fr (fun a => a = s + 2) 0 0 T T') cs.length ?_ ?_ T ⟨by simpa using l2, fr.rf hw⟩
  · rintro m T1 hm ⟨q1, q2⟩
    obtain ⟨j, hj⟩ : ∃ j, cs.length - m = j + 1 := ⟨cs.length - m - 1, by omega⟩
    have hj2 : cs.length - (m + 1) = j := by omega
    rw [hj] at q1
    rw [hj, hj2]
    have hjl : j < cs.length := by omega
    have e0 : cell T1 s = cell T s := q2.ce h1 (by omega)
    have g1 : tK T1 s = 6 := by rw [ce_K e0]; exact h1
    have g2 : tR T1 161 s = some (s + 2) := by rw [ce_R e0]; exact h3
    have gl := q1.1
    have hlen : (cs.take (j + 1) ++ (cs.drop (j + 1)).filter (fun k => decide (k ≠ b))).length ≥ j + 1 := by
      rw [List.length_append, List.length_take]; omega
    have hget : (cs.take (j + 1) ++ (cs.drop (j + 1)).filter (fun k => decide (k ≠ b))).getD j 0 = cs.getD j 0 := by
      rw [List.getD_eq_getElem?_getD, List.getD_eq_getElem?_getD, List.getElem?_append_left (by rw [List.length_take]; omega), List.getElem?_take, if_pos (by omega)]
    have hdrop : cs.drop j = cs.getD j 0 :: cs.drop (j + 1) := by
      rw [List.drop_eq_getElem_cons hjl, List.getD_eq_getElem?_getD, List.getElem?_eq_getElem hjl]
      rfl
    have hiv : iv (j + 1) = nI j := iv_pos (by omega)
    have hcj := hcc _ (gD_mem hjl)
    by_cases e : cs.getD j 0 = b
    · have hE : (cs.take (j + 1) ++ (cs.drop (j + 1)).filter (fun k => decide (k ≠ b))).eraseIdx j = cs.take j ++ (cs.drop j).filter (fun k => decide (k ≠ b)) := by
        rw [List.eraseIdx_append_of_lt_length (by rw [List.length_take]; omega), hdrop, e, List.filter_cons_of_neg (by simp)]
        congr 1
        rw [take_s hjl, List.eraseIdx_append_of_length_le (by rw [List.length_take]; omega), List.length_take, show j - min j cs.length = 0 by omega]
        simp
      have k1 := lok_erase (k := j) q1
      have k2 := fr_sL (W := fun a => a = s + 2) (a := s + 2) (xs := ((cs.take (j + 1) ++ (cs.drop (j + 1)).filter (fun k => decide (k ≠ b))).map ba).eraseIdx j) q2.ok rfl
      refine ⟨_, ⟨?_, q2.th k2⟩, fun hq => ?_⟩
      · rw [era_map] at k1
        rw [hE] at k1
        rw [era_map, hE]
        exact k1
      · rw [ev_iload_n (M := MX4_leaveCache) (k := 2) rfl dX4_leaveCache_10 (pc' := 11) rfl]
        simp (disch := omega) only [ev_aload_n (M := MX4_leaveCache) (k := 0) rfl dX4_leaveCache_0 (pc' := 1) rfl, ev_getR (M := MX4_leaveCache) (f := 161) (kk := 6) f_5_18 rfl rfl rfl dX4_leaveCache_1 (pc' := 4) rfl, ev_cL0 (M := MX4_leaveCache) dX4_leaveCache_4 c_5_44 mJx4a65c_size_8abf5 rfl rfl rfl (pc' := 7) rfl, ev_iconst (M := MX4_leaveCache) (v := (nI 1)) rfl dX4_leaveCache_7 (pc' := 8) rfl, ev_isub (M := MX4_leaveCache) dX4_leaveCache_8 (pc' := 9) rfl, ev_istore_n (M := MX4_leaveCache) (k := 2) rfl dX4_leaveCache_9 (by decide) (pc' := 10) rfl, ev_if_lt (M := MX4_leaveCache) (t := 41) dX4_leaveCache_11 (by decide) (pc' := 14) rfl, ev_aload_n (M := MX4_leaveCache) (k := 0) rfl dX4_leaveCache_14 (pc' := 15) rfl, ev_getR (M := MX4_leaveCache) (f := 161) (kk := 6) f_5_18 rfl rfl rfl dX4_leaveCache_15 (pc' := 18) rfl, ev_iload_n (M := MX4_leaveCache) (k := 2) rfl dX4_leaveCache_18 (pc' := 19) rfl, ev_cL1 (M := MX4_leaveCache) dX4_leaveCache_19 c_5_55 mJx4a65c_get_915e3 rfl rfl rfl (pc' := 22) rfl, ev_aload_n (M := MX4_leaveCache) (k := 1) rfl dX4_leaveCache_22 (pc' := 23) rfl, ev_acmp_ne (M := MX4_leaveCache) (t := 35) dX4_leaveCache_23 (by decide) (pc' := 26) rfl, ev_acmp_neN (M := MX4_leaveCache) (t := 35) dX4_leaveCache_23 (by decide), ev_aload_n (M := MX4_leaveCache) (k := 0) rfl dX4_leaveCache_26 (pc' := 27) rfl, ev_getR (M := MX4_leaveCache) (f := 161) (kk := 6) f_5_18 rfl rfl rfl dX4_leaveCache_27 (pc' := 30) rfl, ev_iload_n (M := MX4_leaveCache) (k := 2) rfl dX4_leaveCache_30 (pc' := 31) rfl, ev_cL1 (M := MX4_leaveCache) dX4_leaveCache_31 c_5_120 mJx4a65c_remove_915e3 rfl rfl rfl (pc' := 34) rfl, ev_popI (M := MX4_leaveCache) dX4_leaveCache_34 (pc' := 35) rfl, ev_popR (M := MX4_leaveCache) dX4_leaveCache_34 (pc' := 35) rfl, ev_iinc (M := MX4_leaveCache) (v := (-1)) rfl dX4_leaveCache_35 (by decide) (pc' := 38) rfl, ev_goto (M := MX4_leaveCache) (pc' := 10) dX4_leaveCache_38 (by decide), ev_vret (M := MX4_leaveCache) rfl dX4_leaveCache_41, lI_some, lJ_some, lR_ref, lR_null, lD_some, lget_cons, ldel_cons, ldel_nil, evR_v, evR_0, evR_x, vrf_s, vrf_n, Value.category, Nat.reduceEqDiff, Nat.reduceAdd, Nat.reduceSub, Nat.reduceMul, Nat.reduceLeDiff, reduceIte, if_true, if_false, or_self, or_false, false_or, or_true, true_or, and_self, and_true, true_and, and_false, false_and, not_true_eq_false, not_false_eq_true, List.length_cons, List.length_nil, Nat.zero_le, Nat.add_eq_zero_iff, Nat.succ_ne_zero, Nat.zero_add, Nat.add_zero, nle_t, nle_f, nlt_t, nlt_f, neq_t, neq_f, i_lt0, i_le0, i_0le, i_0lt, i_eq0, i_lt, i_le, i_eq, nI_add, i_sub, i_cl, i_m1a, i_m1b, i_m1c, i_m1d, i_m1e, i_am1, i_ite0, iv_neg, hiv, g1, g2, gl, c_lgetm q1.is, c_lremm q1.is, hget, e, iv_dec]
        rw [era_map] at hq
        exact hq
    · have hne : ¬ ba (cs.getD j 0) = ba b := fun e2 => e (by
        have a1 := hcj.2.1
        rw [e2, hb.2.1] at a1
        exact ((nI_eq (by omega) (by omega)).mp a1).symm)
      refine ⟨T1, ⟨?_, q2⟩, fun hq => ?_⟩
      · rw [hdrop, List.filter_cons_of_pos (by simpa using e)]
        rw [take_s hjl, List.append_assoc] at q1
        exact q1
      · rw [ev_iload_n (M := MX4_leaveCache) (k := 2) rfl dX4_leaveCache_10 (pc' := 11) rfl]
        simp (disch := omega) only [ev_aload_n (M := MX4_leaveCache) (k := 0) rfl dX4_leaveCache_0 (pc' := 1) rfl, ev_getR (M := MX4_leaveCache) (f := 161) (kk := 6) f_5_18 rfl rfl rfl dX4_leaveCache_1 (pc' := 4) rfl, ev_cL0 (M := MX4_leaveCache) dX4_leaveCache_4 c_5_44 mJx4a65c_size_8abf5 rfl rfl rfl (pc' := 7) rfl, ev_iconst (M := MX4_leaveCache) (v := (nI 1)) rfl dX4_leaveCache_7 (pc' := 8) rfl, ev_isub (M := MX4_leaveCache) dX4_leaveCache_8 (pc' := 9) rfl, ev_istore_n (M := MX4_leaveCache) (k := 2) rfl dX4_leaveCache_9 (by decide) (pc' := 10) rfl, ev_if_lt (M := MX4_leaveCache) (t := 41) dX4_leaveCache_11 (by decide) (pc' := 14) rfl, ev_aload_n (M := MX4_leaveCache) (k := 0) rfl dX4_leaveCache_14 (pc' := 15) rfl, ev_getR (M := MX4_leaveCache) (f := 161) (kk := 6) f_5_18 rfl rfl rfl dX4_leaveCache_15 (pc' := 18) rfl, ev_iload_n (M := MX4_leaveCache) (k := 2) rfl dX4_leaveCache_18 (pc' := 19) rfl, ev_cL1 (M := MX4_leaveCache) dX4_leaveCache_19 c_5_55 mJx4a65c_get_915e3 rfl rfl rfl (pc' := 22) rfl, ev_aload_n (M := MX4_leaveCache) (k := 1) rfl dX4_leaveCache_22 (pc' := 23) rfl, ev_acmp_ne (M := MX4_leaveCache) (t := 35) dX4_leaveCache_23 (by decide) (pc' := 26) rfl, ev_acmp_neN (M := MX4_leaveCache) (t := 35) dX4_leaveCache_23 (by decide), ev_aload_n (M := MX4_leaveCache) (k := 0) rfl dX4_leaveCache_26 (pc' := 27) rfl, ev_getR (M := MX4_leaveCache) (f := 161) (kk := 6) f_5_18 rfl rfl rfl dX4_leaveCache_27 (pc' := 30) rfl, ev_iload_n (M := MX4_leaveCache) (k := 2) rfl dX4_leaveCache_30 (pc' := 31) rfl, ev_cL1 (M := MX4_leaveCache) dX4_leaveCache_31 c_5_120 mJx4a65c_remove_915e3 rfl rfl rfl (pc' := 34) rfl, ev_popI (M := MX4_leaveCache) dX4_leaveCache_34 (pc' := 35) rfl, ev_popR (M := MX4_leaveCache) dX4_leaveCache_34 (pc' := 35) rfl, ev_iinc (M := MX4_leaveCache) (v := (-1)) rfl dX4_leaveCache_35 (by decide) (pc' := 38) rfl, ev_goto (M := MX4_leaveCache) (pc' := 10) dX4_leaveCache_38 (by decide), ev_vret (M := MX4_leaveCache) rfl dX4_leaveCache_41, lI_some, lJ_some, lR_ref, lR_null, lD_some, lget_cons, ldel_cons, ldel_nil, evR_v, evR_0, evR_x, vrf_s, vrf_n, Value.category, Nat.reduceEqDiff, Nat.reduceAdd, Nat.reduceSub, Nat.reduceMul, Nat.reduceLeDiff, reduceIte, if_true, if_false, or_self, or_false, false_or, or_true, true_or, and_self, and_true, true_and, and_false, false_and, not_true_eq_false, not_false_eq_true, List.length_cons, List.length_nil, Nat.zero_le, Nat.add_eq_zero_iff, Nat.succ_ne_zero, Nat.zero_add, Nat.add_zero, nle_t, nle_f, nlt_t, nlt_f, neq_t, neq_f, i_lt0, i_le0, i_0le, i_0lt, i_eq0, i_lt, i_le, i_eq, nI_add, i_sub, i_cl, i_m1a, i_m1b, i_m1c, i_m1d, i_m1e, i_am1, i_ite0, iv_neg, hiv, g1, g2, gl, c_lgetm q1.is, hget, hne, iv_dec]
        exact hq
  · rintro T1 ⟨q1, q2⟩
    rw [Nat.sub_self] at q1 ⊢
    have e0 : cell T1 s = cell T s := q2.ce h1 (by omega)
    rw [ev_iload_n (M := MX4_leaveCache) (k := 2) rfl dX4_leaveCache_10 (pc' := 11) rfl]
    simp (disch := omega) only [ev_aload_n (M := MX4_leaveCache) (k := 0) rfl dX4_leaveCache_0 (pc' := 1) rfl, ev_getR (M := MX4_leaveCache) (f := 161) (kk := 6) f_5_18 rfl rfl rfl dX4_leaveCache_1 (pc' := 4) rfl, ev_cL0 (M := MX4_leaveCache) dX4_leaveCache_4 c_5_44 mJx4a65c_size_8abf5 rfl rfl rfl (pc' := 7) rfl, ev_iconst (M := MX4_leaveCache) (v := (nI 1)) rfl dX4_leaveCache_7 (pc' := 8) rfl, ev_isub (M := MX4_leaveCache) dX4_leaveCache_8 (pc' := 9) rfl, ev_istore_n (M := MX4_leaveCache) (k := 2) rfl dX4_leaveCache_9 (by decide) (pc' := 10) rfl, ev_if_lt (M := MX4_leaveCache) (t := 41) dX4_leaveCache_11 (by decide) (pc' := 14) rfl, ev_aload_n (M := MX4_leaveCache) (k := 0) rfl dX4_leaveCache_14 (pc' := 15) rfl, ev_getR (M := MX4_leaveCache) (f := 161) (kk := 6) f_5_18 rfl rfl rfl dX4_leaveCache_15 (pc' := 18) rfl, ev_iload_n (M := MX4_leaveCache) (k := 2) rfl dX4_leaveCache_18 (pc' := 19) rfl, ev_cL1 (M := MX4_leaveCache) dX4_leaveCache_19 c_5_55 mJx4a65c_get_915e3 rfl rfl rfl (pc' := 22) rfl, ev_aload_n (M := MX4_leaveCache) (k := 1) rfl dX4_leaveCache_22 (pc' := 23) rfl, ev_acmp_ne (M := MX4_leaveCache) (t := 35) dX4_leaveCache_23 (by decide) (pc' := 26) rfl, ev_acmp_neN (M := MX4_leaveCache) (t := 35) dX4_leaveCache_23 (by decide), ev_aload_n (M := MX4_leaveCache) (k := 0) rfl dX4_leaveCache_26 (pc' := 27) rfl, ev_getR (M := MX4_leaveCache) (f := 161) (kk := 6) f_5_18 rfl rfl rfl dX4_leaveCache_27 (pc' := 30) rfl, ev_iload_n (M := MX4_leaveCache) (k := 2) rfl dX4_leaveCache_30 (pc' := 31) rfl, ev_cL1 (M := MX4_leaveCache) dX4_leaveCache_31 c_5_120 mJx4a65c_remove_915e3 rfl rfl rfl (pc' := 34) rfl, ev_popI (M := MX4_leaveCache) dX4_leaveCache_34 (pc' := 35) rfl, ev_popR (M := MX4_leaveCache) dX4_leaveCache_34 (pc' := 35) rfl, ev_iinc (M := MX4_leaveCache) (v := (-1)) rfl dX4_leaveCache_35 (by decide) (pc' := 38) rfl, ev_goto (M := MX4_leaveCache) (pc' := 10) dX4_leaveCache_38 (by decide), ev_vret (M := MX4_leaveCache) rfl dX4_leaveCache_41, lI_some, lJ_some, lR_ref, lR_null, lD_some, lget_cons, ldel_cons, ldel_nil, evR_v, evR_0, evR_x, vrf_s, vrf_n, Value.category, Nat.reduceEqDiff, Nat.reduceAdd, Nat.reduceSub, Nat.reduceMul, Nat.reduceLeDiff, reduceIte, if_true, if_false, or_self, or_false, false_or, or_true, true_or, and_self, and_true, true_and, and_false, false_and, not_true_eq_false, not_false_eq_true, List.length_cons, List.length_nil, Nat.zero_le, Nat.add_eq_zero_iff, Nat.succ_ne_zero, Nat.zero_add, Nat.add_zero, nle_t, nle_f, nlt_t, nlt_f, neq_t, neq_f, i_lt0, i_le0, i_0le, i_0lt, i_eq0, i_lt, i_le, i_eq, nI_add, i_sub, i_cl, i_m1a, i_m1b, i_m1c, i_m1d, i_m1e, i_am1, i_ite0, iv_neg]
    have lf : (cs.filter (fun k => decide (k ≠ b))).length ≤ 3 := Nat.le_trans (List.length_filter_le _ _) z2
    exact ⟨hh.cache (by simpa using q1) lf (fun k hk => hcc k (List.mem_filter.mp hk).1) (fun a ha hn => q2.2.2.2.2.2 a ha hn), q2⟩
/-- a short list with one more -/
theorem lok_ch3 {T : TS} {a : Nat} {xs ys : List Nat} (hw : wf T) (h : lok T a xs) (hlen : xs.length ≤ 3) (hy : ys.length = xs.length + 1) : lok (sL a ys (fit a T)) a ys ∧ fr (fun x => x = a) 1 10 T (sL a ys (fit a T)) := by
  obtain ⟨k1, k2, k3, k4⟩ := lok_ch hw h (by omega) hy
  refine ⟨k1, k4.by ?_ ?_⟩
  all_goals
    obtain ⟨h1, h2, h3, h4⟩ := h
    have ec : tc (sL a ys (fit a T)) a = tc (fit a T) a := rfl
    rw [ec, fit_c, h2]
    by_cases e : xs.length = tc T a
    · rw [if_pos e]
      rcases h3 with q | q | q | q | q | q | q | q | q <;> first | omega | (rw [q]; decide)
    · rw [if_neg e]
      omega
def useC (b : Nat) (cs : List Nat) : List Nat := (b :: cs.filter (fun k => decide (k ≠ b))).take 3
theorem C_use {b : Nat} (hw : wf T) (h : SH T s ba ca cb us bl co op cs hi re st) (hb : tK T (ba b) = 3 ∧ tI T 64 (ba b) = nI b ∧ b < 1000000) : CallQ (d + 3) 59 [.ref s, .ref (ba b)] T (fun q T' => q = .inl none ∧ SH T' s ba ca cb us bl co op (useC b cs) hi re st ∧ fr (fun a => a = s + 2) 1 10 T T') := by
  obtain ⟨_, T1, hc, rfl, g1, g2⟩ := C_leaveCache (d := d) hw h hb
  have hh := h
  obtain ⟨h1, h2, h3⟩ := h.ks
  have r1 : tR T 161 s = some (s + 2) := h.1.2.2.1
  have eb : cell T1 (ba b) = cell T (ba b) := g2.ce hb.1 (neK hb.1 h3 (by decide))
  have hb1 : tK T1 (ba b) = 3 := by rw [ce_K eb]; exact hb.1
  have e64 : tI T1 64 (ba b) = nI b := by rw [ce_I eb]; exact hb.2.1
  have u1 : tK T1 s = 6 := g1.1.1
  have u2 : tR T1 161 s = some (s + 2) := g1.1.2.2.1
  have L1 := g1.2.1.2
  have lk := L1.1
  have lf : (cs.filter (fun k => decide (k ≠ b))).length ≤ 3 := g1.2.2.2.2.2.2.1
  obtain ⟨k1, k4⟩ := lok_ch3 (ys := (b :: cs.filter (fun k => decide (k ≠ b))).map ba) g2.ok L1 (by rw [List.length_map]; exact lf) (by simp)
  have u3 : tK (sL (s + 2) ((b :: cs.filter (fun k => decide (k ≠ b))).map ba) (fit (s + 2) T1)) s = 6 := by rw [tK_sL, fit_K]; exact u1
  have u4 : tR (sL (s + 2) ((b :: cs.filter (fun k => decide (k ≠ b))).map ba) (fit (s + 2) T1)) 161 s = some (s + 2) := by rw [tR_sL, fit_R]; exact u2
  have lk2 := k1.1
  have hcb : ∀ k ∈ b :: cs.filter (fun k => decide (k ≠ b)), tK T1 (ba k) = 3 ∧ tI T1 64 (ba k) = nI k ∧ k < 1000000 := by
    intro k hk
    rcases List.mem_cons.mp hk with rfl | hk
    · exact ⟨hb1, e64, hb.2.2⟩
    · exact g1.2.2.2.2.1 k hk
  have lb : 2 ≤ tK T1 (ba b) := by omega
  have lb9 : tK T1 (ba b) ≤ 9 := by omega
  have F := g2.th k4
  have hins : List.insertIdx (List.map ba (List.filter (fun k => decide (k ≠ b)) cs)) 0 (ba b) = List.map ba (b :: List.filter (fun k => decide (k ≠ b)) cs) := rfl
  have uK : tK T (ba b) = 3 := hb.1
  simp (disch := omega) only [ev_aload_n (M := MX4_use) (k := 0) rfl dX4_use_0 (pc' := 1) rfl, ev_aload_n (M := MX4_use) (k := 1) rfl dX4_use_1 (pc' := 2) rfl, ev_cV1 (M := MX4_use) (kk := 6) dX4_use_2 c_5_114 mX4_leaveCache rfl rfl (by decide) rfl (pc' := 5) rfl, ev_aload_n (M := MX4_use) (k := 0) rfl dX4_use_5 (pc' := 6) rfl, ev_getR (M := MX4_use) (f := 161) (kk := 6) f_5_18 rfl rfl rfl dX4_use_6 (pc' := 9) rfl, ev_iconst (M := MX4_use) (v := (nI 0)) rfl dX4_use_9 (pc' := 10) rfl, ev_aload_n (M := MX4_use) (k := 1) rfl dX4_use_10 (pc' := 11) rfl, ev_cL2 (M := MX4_use) dX4_use_11 c_5_117 mJx4a65c_add_7a177 rfl rfl rfl (pc' := 14) rfl, ev_aload_n (M := MX4_use) (k := 0) rfl dX4_use_14 (pc' := 15) rfl, ev_getR (M := MX4_use) (f := 161) (kk := 6) f_5_18 rfl rfl rfl dX4_use_15 (pc' := 18) rfl, ev_iconst (M := MX4_use) (v := (nI 3)) rfl dX4_use_21 (pc' := 22) rfl, ev_icmp_le (M := MX4_use) (t := 42) dX4_use_22 (by decide) (pc' := 25) rfl, ev_getR (M := MX4_use) (f := 161) (kk := 6) f_5_18 rfl rfl rfl dX4_use_26 (pc' := 29) rfl, ev_aload_n (M := MX4_use) (k := 0) rfl dX4_use_29 (pc' := 30) rfl, ev_getR (M := MX4_use) (f := 161) (kk := 6) f_5_18 rfl rfl rfl dX4_use_30 (pc' := 33) rfl, ev_cL0 (M := MX4_use) dX4_use_33 c_5_44 mJx4a65c_size_8abf5 rfl rfl rfl (pc' := 36) rfl, ev_iconst (M := MX4_use) (v := (nI 1)) rfl dX4_use_36 (pc' := 37) rfl, ev_isub (M := MX4_use) dX4_use_37 (pc' := 38) rfl, ev_cL1 (M := MX4_use) dX4_use_38 c_5_120 mJx4a65c_remove_915e3 rfl rfl rfl (pc' := 41) rfl, ev_popI (M := MX4_use) dX4_use_41 (pc' := 42) rfl, ev_popR (M := MX4_use) dX4_use_41 (pc' := 42) rfl, ev_vret (M := MX4_use) rfl dX4_use_42, uX4_use, lI_some, lJ_some, lR_ref, lR_null, lD_some, lget_cons, ldel_cons, ldel_nil, evR_v, evR_0, evR_x, vrf_s, vrf_n, Value.category, Nat.reduceEqDiff, Nat.reduceAdd, Nat.reduceSub, Nat.reduceMul, Nat.reduceLeDiff, reduceIte, if_true, if_false, or_self, or_false, false_or, or_true, true_or, and_self, and_true, true_and, and_false, false_and, not_true_eq_false, not_false_eq_true, List.length_cons, List.length_nil, Nat.zero_le, Nat.add_eq_zero_iff, Nat.succ_ne_zero, Nat.zero_add, Nat.add_zero, nle_t, nle_f, nlt_t, nlt_f, neq_t, neq_f, i_lt0, i_le0, i_0le, i_0lt, i_eq0, i_lt, i_le, i_eq, nI_add, i_sub, i_cl, i_m1a, i_m1b, i_m1c, i_m1d, i_m1e, i_am1, i_ite0, h1, r1, cq hc, u1, u2, lk, c_laddAt L1.is, hins]
  simp (disch := omega) only [ev_aload_n (M := MX4_use) (k := 0) rfl dX4_use_0 (pc' := 1) rfl, ev_aload_n (M := MX4_use) (k := 1) rfl dX4_use_1 (pc' := 2) rfl, ev_cV1 (M := MX4_use) (kk := 6) dX4_use_2 c_5_114 mX4_leaveCache rfl rfl (by decide) rfl (pc' := 5) rfl, ev_aload_n (M := MX4_use) (k := 0) rfl dX4_use_5 (pc' := 6) rfl, ev_getR (M := MX4_use) (f := 161) (kk := 6) f_5_18 rfl rfl rfl dX4_use_6 (pc' := 9) rfl, ev_iconst (M := MX4_use) (v := (nI 0)) rfl dX4_use_9 (pc' := 10) rfl, ev_aload_n (M := MX4_use) (k := 1) rfl dX4_use_10 (pc' := 11) rfl, ev_cL2 (M := MX4_use) dX4_use_11 c_5_117 mJx4a65c_add_7a177 rfl rfl rfl (pc' := 14) rfl, ev_aload_n (M := MX4_use) (k := 0) rfl dX4_use_14 (pc' := 15) rfl, ev_getR (M := MX4_use) (f := 161) (kk := 6) f_5_18 rfl rfl rfl dX4_use_15 (pc' := 18) rfl, ev_cL0 (M := MX4_use) dX4_use_18 c_5_44 mJx4a65c_size_8abf5 rfl rfl rfl (pc' := 21) rfl, ev_iconst (M := MX4_use) (v := (nI 3)) rfl dX4_use_21 (pc' := 22) rfl, ev_icmp_le (M := MX4_use) (t := 42) dX4_use_22 (by decide) (pc' := 25) rfl, ev_aload_n (M := MX4_use) (k := 0) rfl dX4_use_25 (pc' := 26) rfl, ev_getR (M := MX4_use) (f := 161) (kk := 6) f_5_18 rfl rfl rfl dX4_use_26 (pc' := 29) rfl, ev_aload_n (M := MX4_use) (k := 0) rfl dX4_use_29 (pc' := 30) rfl, ev_getR (M := MX4_use) (f := 161) (kk := 6) f_5_18 rfl rfl rfl dX4_use_30 (pc' := 33) rfl, ev_cL0 (M := MX4_use) dX4_use_33 c_5_44 mJx4a65c_size_8abf5 rfl rfl rfl (pc' := 36) rfl, ev_iconst (M := MX4_use) (v := (nI 1)) rfl dX4_use_36 (pc' := 37) rfl, ev_isub (M := MX4_use) dX4_use_37 (pc' := 38) rfl, ev_cL1 (M := MX4_use) dX4_use_38 c_5_120 mJx4a65c_remove_915e3 rfl rfl rfl (pc' := 41) rfl, ev_popI (M := MX4_use) dX4_use_41 (pc' := 42) rfl, ev_popR (M := MX4_use) dX4_use_41 (pc' := 42) rfl, ev_vret (M := MX4_use) rfl dX4_use_42, lI_some, lJ_some, lR_ref, lR_null, lD_some, lget_cons, ldel_cons, ldel_nil, evR_v, evR_0, evR_x, vrf_s, vrf_n, Value.category, Nat.reduceEqDiff, Nat.reduceAdd, Nat.reduceSub, Nat.reduceMul, Nat.reduceLeDiff, reduceIte, if_true, if_false, or_self, or_false, false_or, or_true, true_or, and_self, and_true, true_and, and_false, false_and, not_true_eq_false, not_false_eq_true, List.length_cons, List.length_nil, Nat.zero_le, Nat.add_eq_zero_iff, Nat.succ_ne_zero, Nat.zero_add, Nat.add_zero, nle_t, nle_f, nlt_t, nlt_f, neq_t, neq_f, i_lt0, i_le0, i_0le, i_0lt, i_eq0, i_lt, i_le, i_eq, nI_add, i_sub, i_cl, i_m1a, i_m1b, i_m1c, i_m1d, i_m1e, i_am1, i_ite0, u3, u4, lk2, c_lsizem k1.is]
  by_cases e : (b :: cs.filter (fun k => decide (k ≠ b))).length ≤ 3
  · have e' : (cs.filter (fun k => decide (k ≠ b))).length + 1 ≤ 3 := e
    have eu : useC b cs = b :: cs.filter (fun k => decide (k ≠ b)) := List.take_of_length_le e
    rw [eu]
    rw [if_pos (by omega)]
    exact ⟨g1.cache k1 e hcb (fun a ha hn => k4.2.2.2.2.2 a ha hn), F⟩
  · have e' : ¬ (cs.filter (fun k => decide (k ≠ b))).length + 1 ≤ 3 := e
    have e4 : (cs.filter (fun k => decide (k ≠ b))).length = 3 := by omega
    have eu : useC b cs = (b :: cs.filter (fun k => decide (k ≠ b))).eraseIdx 3 := by
      unfold useC
      rw [List.eraseIdx_eq_take_drop_succ, List.drop_of_length_le (by rw [List.length_cons]; omega), List.append_nil]
    have k5 := lok_erase (k := 3) k1
    have k6 := fr_sL (W := fun a => a = s + 2) (a := s + 2) (xs := ((b :: cs.filter (fun k => decide (k ≠ b))).map ba).eraseIdx 3) k4.ok rfl
    rw [eu]
    simp (disch := omega) only [ev_aload_n (M := MX4_use) (k := 0) rfl dX4_use_0 (pc' := 1) rfl, ev_aload_n (M := MX4_use) (k := 1) rfl dX4_use_1 (pc' := 2) rfl, ev_cV1 (M := MX4_use) (kk := 6) dX4_use_2 c_5_114 mX4_leaveCache rfl rfl (by decide) rfl (pc' := 5) rfl, ev_aload_n (M := MX4_use) (k := 0) rfl dX4_use_5 (pc' := 6) rfl, ev_getR (M := MX4_use) (f := 161) (kk := 6) f_5_18 rfl rfl rfl dX4_use_6 (pc' := 9) rfl, ev_iconst (M := MX4_use) (v := (nI 0)) rfl dX4_use_9 (pc' := 10) rfl, ev_aload_n (M := MX4_use) (k := 1) rfl dX4_use_10 (pc' := 11) rfl, ev_cL2 (M := MX4_use) dX4_use_11 c_5_117 mJx4a65c_add_7a177 rfl rfl rfl (pc' := 14) rfl, ev_aload_n (M := MX4_use) (k := 0) rfl dX4_use_14 (pc' := 15) rfl, ev_getR (M := MX4_use) (f := 161) (kk := 6) f_5_18 rfl rfl rfl dX4_use_15 (pc' := 18) rfl, ev_cL0 (M := MX4_use) dX4_use_18 c_5_44 mJx4a65c_size_8abf5 rfl rfl rfl (pc' := 21) rfl, ev_iconst (M := MX4_use) (v := (nI 3)) rfl dX4_use_21 (pc' := 22) rfl, ev_icmp_le (M := MX4_use) (t := 42) dX4_use_22 (by decide) (pc' := 25) rfl, ev_aload_n (M := MX4_use) (k := 0) rfl dX4_use_25 (pc' := 26) rfl, ev_getR (M := MX4_use) (f := 161) (kk := 6) f_5_18 rfl rfl rfl dX4_use_26 (pc' := 29) rfl, ev_aload_n (M := MX4_use) (k := 0) rfl dX4_use_29 (pc' := 30) rfl, ev_getR (M := MX4_use) (f := 161) (kk := 6) f_5_18 rfl rfl rfl dX4_use_30 (pc' := 33) rfl, ev_cL0 (M := MX4_use) dX4_use_33 c_5_44 mJx4a65c_size_8abf5 rfl rfl rfl (pc' := 36) rfl, ev_iconst (M := MX4_use) (v := (nI 1)) rfl dX4_use_36 (pc' := 37) rfl, ev_isub (M := MX4_use) dX4_use_37 (pc' := 38) rfl, ev_cL1 (M := MX4_use) dX4_use_38 c_5_120 mJx4a65c_remove_915e3 rfl rfl rfl (pc' := 41) rfl, ev_popI (M := MX4_use) dX4_use_41 (pc' := 42) rfl, ev_popR (M := MX4_use) dX4_use_41 (pc' := 42) rfl, ev_vret (M := MX4_use) rfl dX4_use_42, lI_some, lJ_some, lR_ref, lR_null, lD_some, lget_cons, ldel_cons, ldel_nil, evR_v, evR_0, evR_x, vrf_s, vrf_n, Value.category, Nat.reduceEqDiff, Nat.reduceAdd, Nat.reduceSub, Nat.reduceMul, Nat.reduceLeDiff, reduceIte, if_true, if_false, or_self, or_false, false_or, or_true, true_or, and_self, and_true, true_and, and_false, false_and, not_true_eq_false, not_false_eq_true, List.length_cons, List.length_nil, Nat.zero_le, Nat.add_eq_zero_iff, Nat.succ_ne_zero, Nat.zero_add, Nat.add_zero, nle_t, nle_f, nlt_t, nlt_f, neq_t, neq_f, i_lt0, i_le0, i_0le, i_0lt, i_eq0, i_lt, i_le, i_eq, nI_add, i_sub, i_cl, i_m1a, i_m1b, i_m1c, i_m1d, i_m1e, i_am1, i_ite0, u3, u4, lk2, c_lsizem k1.is, e4, c_lremm k1.is]
    rw [era_map] at k5 k6
    have l5 : ((b :: cs.filter (fun k => decide (k ≠ b))).eraseIdx 3).length ≤ 3 := by
      rw [← eu]
      unfold useC
      rw [List.length_take]
      omega
    have F2 := F.th k6
    exact ⟨g1.cache k5 l5 (fun k hk => hcb k (List.mem_of_mem_eraseIdx hk)) (fun a ha hn => (k4.th k6).2.2.2.2.2 a ha hn), F2⟩
end SHM
