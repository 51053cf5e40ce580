/-! DedupVault$Shelf: openFor, storeNew -/
section SHS
variable {d s : Nat} {ba ca us : Nat → Nat} {cb : Nat → List Nat} {bl cs : List Nat} {co : Nat → List Nat} {op hi re st : Nat} {T : TS}
def opF (cb : Nat → List Nat) (co : Nat → List Nat) (op m : Nat) : Nat := if byS cb (co op) + m ≤ 128 then op else op + 1
def blF (cb : Nat → List Nat) (co : Nat → List Nat) (op m : Nat) (bl : List Nat) : List Nat := if byS cb (co op) + m ≤ 128 then bl else bl ++ [op + 1]
def coF (cb : Nat → List Nat) (co : Nat → List Nat) (op m : Nat) : Nat → List Nat := if byS cb (co op) + m ≤ 128 then co else up1 co (op + 1) []
/-- what was made, set off against the open list's room and the containers opened -/
def am (n u : Nat) (T T' : TS) (b b' op op' : Nat) : Prop := tn T' + gcl (tc T (b + 1)) + 11 * op ≤ tn T + n + gcl (tc T' (b' + 1)) + 11 * op' ∧ tu T' + gsl (tc T (b + 1)) + 2740 * op ≤ tu T + u + gsl (tc T' (b' + 1)) + 2740 * op'
theorem am.tr {n u n' u' : Nat} {T T' T'' : TS} {b b' b'' o o' o'' : Nat} (h : am n u T T' b b' o o') (h' : am n' u' T' T'' b' b'' o' o'') : am (n + n') (u + u') T T'' b b'' o o'' := by
  obtain ⟨h1, h2⟩ := h
  obtain ⟨h3, h4⟩ := h'
  constructor <;> omega
theorem am.by {n u n' u' : Nat} {T T' : TS} {b b' o o' : Nat} (h : am n u T T' b b' o o') (h1 : n ≤ n') (h2 : u ≤ u') : am n' u' T T' b b' o o' := by
  obtain ⟨h3, h4⟩ := h
  constructor <;> omega
theorem am_fr {W : Nat → Prop} {n u : Nat} {T T' : TS} {b o : Nat} (h : fr W n u T T') (e : tc T' (b + 1) = tc T (b + 1)) : am n u T T' b b o o := by
  obtain ⟨-, h1, h2, h3, h4, -⟩ := h
  unfold am
  rw [e]
  constructor <;> omega
theorem C_openFor {p r : Nat} {bs : List Nat} (hw : wf T) (h : SH T s ba ca cb us bl co op cs hi re st) (hp : pcs T p r bs) (h128 : bs.length ≤ 128) (hop : op + 1 < 1000000) (hbl : bl.length < 1500) (hcs : ∀ k ∈ cs, k ≤ op) : CallQ (d + 3) 58 [.ref s, .ref p] T (fun q T' => ∃ ba1 : Nat → Nat, q = .inl (some (.ref (ba1 (opF cb co op bs.length)))) ∧ (∀ k, k ≤ op → ba1 k = ba k) ∧ SH T' s ba1 ca cb us (blF cb co op bs.length bl) (coF cb co op bs.length) (opF cb co op bs.length) cs hi re st ∧ byS cb (coF cb co op bs.length (opF cb co op bs.length)) + bs.length ≤ 128 ∧ fr (fun a => a = s ∨ a = s + 1) 3 2256 T T' ∧ am 0 0 T T' (ba op) (ba1 (opF cb co op bs.length)) op (opF cb co op bs.length) ∧ ∀ a, shM s ba1 ca (blF cb co op bs.length bl) (coF cb co op bs.length) a → shM s ba ca bl co a ∨ tn T ≤ a) := by
  unfold opF blF coF
  by_cases hf : byS cb (co op) + bs.length ≤ 128
  · simp only [if_pos hf]
    exact ⟨_, _, C_openFit h hp hf, ba, rfl, fun _ _ => rfl, h, hf, (fr.rf hw).by (by omega) (by omega), ⟨by omega, by omega⟩, fun a ha => Or.inl ha⟩
  · simp only [if_neg hf]
    refine CallQ.mono (C_openNew hw h hp hf hop hbl hcs) ?_
    rintro q T' ⟨rfl, g1, g2, g3⟩
    have e1 : up1 ba (op + 1) (tn T) (op + 1) = tn T := by rw [up1_e, if_pos rfl]
    have e2 : up1 co (op + 1) [] (op + 1) = [] := by rw [up1_e, if_pos rfl]
    refine ⟨up1 ba (op + 1) (tn T), by rw [e1], fun k hk => up1_nea (by omega), g1, ?_, g2, ?_, ?_⟩
    · rw [e2]; show 0 + bs.length ≤ 128; omega
    · rw [e1]
      unfold am
      rw [g3]
      have a1 := gcl_le (tc T (ba op + 1))
      have a2 := gsl_le (tc T (ba op + 1))
      obtain ⟨-, b1, b2, b3, b4, -⟩ := g2
      constructor <;> omega
    · rintro a (h1 | h1 | h1 | ⟨k, hk, hkk⟩)
      · exact Or.inl (Or.inl h1)
      · exact Or.inl (Or.inr (Or.inl h1))
      · exact Or.inl (Or.inr (Or.inr (Or.inl h1)))
      · rcases List.mem_append.mp hk with hk | hk
        · have hko := (h.2.2.1 k hk).2
          rw [up1_nea (show k ≠ op + 1 by omega), mem_up (show k ≠ op + 1 by omega)] at hkk
          exact Or.inl (Or.inr (Or.inr (Or.inr ⟨k, hk, hkk⟩)))
        · rw [List.mem_singleton] at hk
          subst hk
          rw [e1, e2] at hkk
          rcases hkk with q | q | ⟨n, hn, -⟩
          · exact Or.inr (by omega)
          · exact Or.inr (by omega)
          · nomatch hn
/-- the shelf in a state that differs at no old place -/
theorem SH.nw {T' : TS} {n u : Nat} {W : Nat → Prop} (h : SH T s ba ca cb us bl co op cs hi re st) (F : fr W n u T T') (hW : ∀ a, W a → ¬ shD s ba ca bl cs co a) : SH T' s ba ca cb us bl co op cs hi re st :=
  h.of (fun a ha => F.2.2.2.2.2 a (h.kd ha) (fun q => hW a q ha))
theorem SH.ext {ca' us' : Nat → Nat} {cb' : Nat → List Nat} (h : SH T s ba ca cb us bl co op cs hi re st) (e : ∀ k ∈ bl, ∀ n ∈ co k, ca' n = ca n ∧ cb' n = cb n ∧ us' n = us n) : SH T s ba ca' cb' us' bl co op cs hi re st := by
  obtain ⟨h1, h2, hbx, h4⟩ := h
  exact ⟨h1, h2, fun k hk => ⟨(hbx k hk).1.ext rfl (e k hk), (hbx k hk).2⟩, h4⟩
theorem C_storeNew {p r : Nat} (hw : wf T) (h : SH T s ba ca cb us bl co op cs hi re st) (hp : pcs T p r (cb st)) (hl1 : 1 ≤ (cb st).length) (h128 : (cb st).length ≤ 128) (hus : us st = 0) (hop : op + 1 < 1000000) (hbl : bl.length < 1500) (hst : st + 1 < 1000000) (hcs : ∀ k ∈ cs, k ≤ op) (hf : ∀ k ∈ bl, ∀ n ∈ co k, n < st) (hne : (co op).length ≤ byS cb (co op)) : CallQ (d + 5) 57 [.ref s, .ref p] T (fun q T' => ∃ ba1 ca1 : Nat → Nat, q = .inl (some (.ref (ca1 st))) ∧ (∀ k, k ≤ op → ba1 k = ba k) ∧ (∀ n, n ≠ st → ca1 n = ca n) ∧ SH T' s ba1 ca1 cb us (blF cb co op (cb st).length bl) (up1 (coF cb co op (cb st).length) (opF cb co op (cb st).length) (coF cb co op (cb st).length (opF cb co op (cb st).length) ++ [st])) (opF cb co op (cb st).length) cs hi re (st + 1) ∧ fr (shM s ba ca bl co) 15 2900 T T' ∧ am 4 (10 + (cb st).length) T T' (ba op) (ba1 (opF cb co op (cb st).length)) op (opF cb co op (cb st).length) ∧ ∀ a, shM s ba1 ca1 (blF cb co op (cb st).length bl) (up1 (coF cb co op (cb st).length) (opF cb co op (cb st).length) (coF cb co op (cb st).length (opF cb co op (cb st).length) ++ [st])) a → shM s ba ca bl co a ∨ tn T ≤ a) := by
  obtain ⟨_, T1, hc1, ba1, rfl, g0, g1, g2, g3, g4, g5⟩ := C_openFor (d := d + 1) hw h hp h128 hop hbl hcs
  have hfF : ∀ k ∈ blF cb co op (cb st).length bl, ∀ n ∈ coF cb co op (cb st).length k, n < st := by
    unfold blF coF
    split
    · exact hf
    · intro k hk n hn
      rcases List.mem_append.mp hk with hk | hk
      · have hk' : k ≠ op + 1 := fun e => h.notin (by rw [← e]; exact hk)
        rw [mem_up hk'] at hn
        exact hf k hk n hn
      · rw [List.mem_singleton] at hk
        subst hk
        rw [up1_e, if_pos rfl] at hn
        nomatch hn
  have hlF : (coF cb co op (cb st).length (opF cb co op (cb st).length)).length < 128 := by
    revert g2
    unfold coF opF
    split
    · intro g2; omega
    · intro _
      rw [up1_e, if_pos rfl]
      show 0 < 128
      omega
  generalize blF cb co op (cb st).length bl = bl1 at *
  generalize coF cb co op (cb st).length = co1 at *
  generalize opF cb co op (cb st).length = op1 at *
  have hh := h
  obtain ⟨s1, s2, s3⟩ := h.ks
  have lt1 : tn T ≤ tn T1 := g3.2.1
  obtain ⟨r1, r2, r3, r4, f0, xs0, cap0, r5, r6, r7⟩ := hp
  have hp1 : pcs T1 p r (cb st) := pcs.of ⟨r1, r2, r3, r4, f0, xs0, cap0, r5, r6, r7⟩ (g3.ce r1 (fun e => e.elim (neK r1 s1 (by decide)) (neK r1 s2 (by decide)))) (g3.ce r6.1 (fun e => e.elim (neK r6.1 s1 (by decide)) (neK r6.1 s2 (by decide)))) (g3.ce r6.2.2.2.1 (fun e => e.elim (neK r6.2.2.2.1 s1 (by decide)) (neK r6.2.2.2.1 s2 (by decide))))
  have k0 := g1.ks
  have w1 := g3.ok
  have F2 := fr_nO (W := fun _ => False) (c := 1) w1
  have k2 : SH (nO 1 T1) s ba1 ca cb us bl1 co1 op1 cs hi re st := g1.nw F2 (fun _ q => q.elim)
  have p2 : pcs (nO 1 T1) p r (cb st) := hp1.of (ce_nO (w1.ne (by rw [hp1.1]; decide) (Nat.le_refl _))) (ce_nO (w1.ne (by rw [hp1.2.2.2.2.choose_spec.choose_spec.choose_spec.2.1.1]; decide) (Nat.le_refl _))) (ce_nO (w1.ne (by rw [hp1.2.2.2.2.choose_spec.choose_spec.choose_spec.2.1.2.2.2.1]; decide) (Nat.le_refl _)))
  obtain ⟨_, T3, hc3, rfl, t3, p3, r3', f3⟩ := C_detached (d := d) F2.ok p2
  have tn2 : tn (nO 1 T1) = tn T1 + 1 := rfl
  rw [tn2] at t3 p3 r3' hc3
  have F3 := F2.th f3
  have k3 : SH T3 s ba1 ca cb us bl1 co1 op1 cs hi re st := k2.nw f3 (fun _ q => q.elim)
  have cK : tK T3 (tn T1) = 2 := by
    have e : tK (nO 1 T1) (tn T1) = 2 := by rw [tK_nO, up1_e, if_pos rfl]
    rw [ce_K (f3.ce e (fun q => q))]
    exact e
  have F4 := ((((F3.nw w1 (fr_sI (W := fun a => a = tn T1) (f := 32) (a := tn T1) (v := nI st) F3.ok rfl) (fun a e => Or.inr (by omega))).nw w1 (fr_sR (W := fun a => a = tn T1) (f := 33) (a := tn T1) (v := some (tn T1 + 3)) F3.ok rfl) (fun a e => Or.inr (by omega))).nw w1 (fr_sR (W := fun a => a = tn T1) (f := 34) (a := tn T1) (v := some (ba1 op1)) F3.ok rfl) (fun a e => Or.inr (by omega))).nw w1 (fr_sI (W := fun a => a = tn T1) (f := 35) (a := tn T1) (v := nI 0) F3.ok rfl) (fun a e => Or.inr (by omega)))
  obtain ⟨T4, hT4⟩ : ∃ T4, T4 = sI 35 (tn T1) (nI 0) (sR 34 (tn T1) (some (ba1 op1)) (sR 33 (tn T1) (some (tn T1 + 3)) (sI 32 (tn T1) (nI st) T3))) := ⟨_, rfl⟩
  rw [← hT4] at F4
  have k4 : SH T4 s ba1 ca cb us bl1 co1 op1 cs hi re st := g1.nw F4 (fun _ q => q.elim)
  have c4 : ∀ a, a ≠ tn T1 → cell T4 a = cell T3 a := fun a ha => by rw [hT4, ce_sI ha, ce_sR ha, ce_sR ha, ce_sI ha]
  have hchk : chk T4 (tn T1) st (cb st) 0 := by
    refine ⟨?_, ?_, ?_, ?_, p3.of (c4 _ (by omega)) (c4 _ (by omega)) (c4 _ (by omega)), by omega, by omega⟩
    · rw [hT4, tK_sI, tK_sR, tK_sR, tK_sI]; exact cK
    · rw [hT4, tI_sI, up2_e, if_neg (by omega), tI_sR, tI_sR, tI_sI, up2_e, if_pos ⟨rfl, rfl⟩]
    · rw [hT4, tR_sI, tR_sR, up2_e, if_neg (by omega), tR_sR, up2_e, if_pos ⟨rfl, rfl⟩]
    · rw [hT4, tI_sI, up2_e, if_pos ⟨rfl, rfl⟩]
  have ec : up1 ca st (tn T1) st = tn T1 := by rw [up1_e, if_pos rfl]
  have k4' : SH T4 s ba1 (up1 ca st (tn T1)) cb us bl1 co1 op1 cs hi re st := k4.ext (fun k hk n hn => ⟨up1_nea (by have := hfF k hk n hn; omega), rfl, rfl⟩)
  obtain ⟨k5, a1, a2, F5⟩ := SH_put (n := st) F4.ok k4' (by rw [ec, hus]; exact hchk) (fun k hk q => by have := hfF k hk st q; omega) g2 hlF
  rw [ec] at k5 a1 a2 F5
  obtain ⟨⟨q1, q2, q3⟩, q4, q5, q6, q7, q8, -⟩ := (k4.2.2.1 op1 k4.2.2.2.1).1
  have hput := C_X1_put (d := d + 2) q1 q2 q3 q5 hchk
  have em : (co1 op1).map (up1 ca st (tn T1)) = (co1 op1).map ca := map_up (fun q => by have := hfF op1 k4.2.2.2.1 st q; omega)
  rw [em] at k5 a1 a2 F5
  obtain ⟨T5, hT5⟩ : ∃ T5, T5 = putS (ba1 op1) (tn T1) (byS cb (co1 op1)) (cb st).length ((co1 op1).map ca) T4 := ⟨_, rfl⟩
  rw [← hT5] at k5 a1 a2 F5 hput
  have key : ∀ Q : Post, Q (.inl (some (.ref (tn T1)))) (sI 163 s (nI (st + 1)) T5) → CallQ (d + 5) 57 [.ref s, .ref p] T Q := by
    intro Q hQ
    have y1 : tK (nO 1 T1) s = 6 := k2.1.1
    have y2 : tI (nO 1 T1) 163 s = nI st := k2.1.2.2.2.2.1
    have y3 : tK T5 s = 6 := k5.1.1
    have y4 : tI T5 163 s = nI st := k5.1.2.2.2.2.1
    have y5 : tK T s = 6 := s1
    have y6 : tK (nO 1 T1) p = 4 := p2.1
    have y7 : tK T4 (ba1 op1) = 3 := q1
    have y8 := hT4.symm
    clear hlF hfF hne hf hcs hst hbl hop hus h128 hl1 k5 a1 a2 F5 hT5 em k4' hT4 F4 F3 F2 g5 g4 g3 g2 g1 q3 q4 q5 q6 q7 q8 hchk c4 hh h k0 k2 p2 k3 k4 p3 r3' f3 r7
    simp (disch := omega) only [ev_aload_n (M := MX4_storeNew) (k := 0) rfl dX4_storeNew_0 (pc' := 1) rfl, ev_aload_n (M := MX4_storeNew) (k := 1) rfl dX4_storeNew_1 (pc' := 2) rfl, ev_cV1 (M := MX4_storeNew) (kk := 6) dX4_storeNew_2 c_5_93 mX4_openFor rfl rfl (by decide) rfl (pc' := 5) rfl, ev_astore_n (M := MX4_storeNew) (k := 2) rfl dX4_storeNew_5 (by decide) (pc' := 6) rfl, ev_astore_nN (M := MX4_storeNew) (k := 2) rfl dX4_storeNew_5 (by decide) (pc' := 6) rfl, ev_new (M := MX4_storeNew) (c := 1) k_5_81 (by decide) dX4_storeNew_6 (pc' := 9) rfl, ev_dupI (M := MX4_storeNew) dX4_storeNew_9 (pc' := 10) rfl, ev_dupR (M := MX4_storeNew) dX4_storeNew_9 (pc' := 10) rfl, ev_aload_n (M := MX4_storeNew) (k := 0) rfl dX4_storeNew_10 (pc' := 11) rfl, ev_getI (M := MX4_storeNew) (f := 163) (kk := 6) f_5_34 rfl rfl rfl dX4_storeNew_11 (pc' := 14) rfl, ev_aload_n (M := MX4_storeNew) (k := 1) rfl dX4_storeNew_14 (pc' := 15) rfl, ev_cV0 (M := MX4_storeNew) (kk := 4) dX4_storeNew_15 c_5_97 mX2_detached rfl rfl (by decide) rfl (pc' := 18) rfl, ev_aload_n (M := MX4_storeNew) (k := 2) rfl dX4_storeNew_18 (pc' := 19) rfl, ev_cI3 (M := MX4_storeNew) dX4_storeNew_19 c_5_103 mX0_init rfl rfl (pc' := 22) rfl, ev_astore_n (M := MX4_storeNew) (k := 3) rfl dX4_storeNew_22 (by decide) (pc' := 23) rfl, ev_astore_nN (M := MX4_storeNew) (k := 3) rfl dX4_storeNew_22 (by decide) (pc' := 23) rfl, ev_aload_n (M := MX4_storeNew) (k := 2) rfl dX4_storeNew_23 (pc' := 24) rfl, ev_aload_n (M := MX4_storeNew) (k := 3) rfl dX4_storeNew_24 (pc' := 25) rfl, ev_cV1 (M := MX4_storeNew) (kk := 3) dX4_storeNew_25 c_5_106 mX1_put rfl rfl (by decide) rfl (pc' := 28) rfl, ev_aload_n (M := MX4_storeNew) (k := 0) rfl dX4_storeNew_28 (pc' := 29) rfl, ev_dupI (M := MX4_storeNew) dX4_storeNew_29 (pc' := 30) rfl, ev_dupR (M := MX4_storeNew) dX4_storeNew_29 (pc' := 30) rfl, ev_getI (M := MX4_storeNew) (f := 163) (kk := 6) f_5_34 rfl rfl rfl dX4_storeNew_30 (pc' := 33) rfl, ev_iconst (M := MX4_storeNew) (v := (nI 1)) rfl dX4_storeNew_33 (pc' := 34) rfl, ev_iadd (M := MX4_storeNew) dX4_storeNew_34 (pc' := 35) rfl, ev_putI (M := MX4_storeNew) (f := 163) (kk := 6) f_5_34 rfl rfl rfl rfl dX4_storeNew_35 (pc' := 38) rfl, ev_aload_n (M := MX4_storeNew) (k := 3) rfl dX4_storeNew_38 (pc' := 39) rfl, ev_aret (M := MX4_storeNew) rfl dX4_storeNew_39, ev_aretN (M := MX4_storeNew) rfl dX4_storeNew_39, ev_aretO (M := MX4_storeNew) rfl dX4_storeNew_39, uX4_storeNew, ev_aload_n (M := MX0_init) (k := 0) rfl dX0_init_0 (pc' := 1) rfl, ev_objInit (M := MX0_init) (mid := 0) c_1_1 dX0_init_1 (pc' := 4) rfl, ev_aload_n (M := MX0_init) (k := 0) rfl dX0_init_4 (pc' := 5) rfl, ev_iload_n (M := MX0_init) (k := 1) rfl dX0_init_5 (pc' := 6) rfl, ev_putI (M := MX0_init) (f := 32) (kk := 2) f_1_7 rfl rfl rfl rfl dX0_init_6 (pc' := 9) rfl, ev_aload_n (M := MX0_init) (k := 0) rfl dX0_init_9 (pc' := 10) rfl, ev_aload_n (M := MX0_init) (k := 2) rfl dX0_init_10 (pc' := 11) rfl, ev_putR (M := MX0_init) (f := 33) (kk := 2) f_1_13 rfl rfl rfl rfl dX0_init_11 (pc' := 14) rfl, ev_putN (M := MX0_init) (f := 33) (kk := 2) f_1_13 rfl rfl rfl rfl dX0_init_11 (pc' := 14) rfl, ev_aload_n (M := MX0_init) (k := 0) rfl dX0_init_14 (pc' := 15) rfl, ev_aload_n (M := MX0_init) (k := 3) rfl dX0_init_15 (pc' := 16) rfl, ev_putR (M := MX0_init) (f := 34) (kk := 2) f_1_17 rfl rfl rfl rfl dX0_init_16 (pc' := 19) rfl, ev_putN (M := MX0_init) (f := 34) (kk := 2) f_1_17 rfl rfl rfl rfl dX0_init_16 (pc' := 19) rfl, ev_aload_n (M := MX0_init) (k := 0) rfl dX0_init_19 (pc' := 20) rfl, ev_iconst (M := MX0_init) (v := (nI 0)) rfl dX0_init_20 (pc' := 21) rfl, ev_putI (M := MX0_init) (f := 35) (kk := 2) f_1_21 rfl rfl rfl rfl dX0_init_21 (pc' := 24) rfl, ev_vret (M := MX0_init) rfl dX0_init_24, uX0_init, lI_some, lJ_some, lR_ref, lR_null, lD_some, lget_cons, ldel_cons, ldel_nil, evR_v, evR_0, evR_x, vrf_s, vrf_n, Value.category, Nat.reduceEqDiff, Nat.reduceAdd, Nat.reduceSub, Nat.reduceMul, Nat.reduceLeDiff, reduceIte, if_true, if_false, or_self, or_false, false_or, or_true, true_or, and_self, and_true, true_and, and_false, false_and, not_true_eq_false, not_false_eq_true, List.length_cons, List.length_nil, Nat.zero_le, Nat.add_eq_zero_iff, Nat.succ_ne_zero, Nat.zero_add, Nat.add_zero, nle_t, nle_f, nlt_t, nlt_f, neq_t, neq_f, i_lt0, i_le0, i_0le, i_0lt, i_eq0, i_lt, i_le, i_eq, nI_add, i_sub, i_cl, i_m1a, i_m1b, i_m1c, i_m1d, i_m1e, i_am1, i_ite0, cq hc1, cq hc3, y1, y2, y3, y4, y5, y6, y7, y8, cK, tK_sI, tK_sR, cq hput]
    exact hQ
  refine key _ ⟨ba1, up1 ca st (tn T1), by rw [ec], g0, fun n hn => up1_nea hn, ?_, ?_, ?_, ?_⟩
  · refine k5.fld (T' := sI 163 s (nI (st + 1)) T5) ⟨rfl, fun _ => rfl, by rw [tI_sI, up2_e, if_pos ⟨rfl, rfl⟩], by rw [tI_sI, up2_e, if_neg (by omega)]; exact k5.1.2.2.2.2.2.1, by rw [tI_sI, up2_e, if_neg (by omega)]; exact k5.1.2.2.2.2.2.2⟩ (fun a ha => ce_sI ha) ⟨hst, k5.2.2.2.2.2.2.2.2⟩
  · have hdo : ∀ a, (a = ba1 op1 ∨ a = ba1 op1 + 1 ∨ a = tn T1) → shM s ba ca bl co a ∨ tn T ≤ a := by
      rintro a (q | q | q)
      · exact g5 a (Or.inr (Or.inr (Or.inr ⟨op1, g1.2.2.2.1, Or.inl q⟩)))
      · exact g5 a (Or.inr (Or.inr (Or.inr ⟨op1, g1.2.2.2.1, Or.inr (Or.inl q)⟩)))
      · exact Or.inr (by omega)
    have g3' := g3.wd (W' := shM s ba ca bl co) (Nat.le_refl _) (Nat.le_refl _) (fun a _ q => by rcases q with q | q; exact Or.inl q; exact Or.inr (Or.inl q))
    have G := (g3'.nw hw F4 (fun a q => q.elim)).nw hw F5 hdo
    have G2 := G.nw hw (fr_sI (W := fun a => a = s) (f := 163) (a := s) (v := nI (st + 1)) G.ok rfl) (fun a q => Or.inl (Or.inl q))
    have b1 := gcl_le (tc T5 (ba1 op1 + 1))
    have b2 := gsl_le (tc T5 (ba1 op1 + 1))
    exact G2.by (by omega) (by show 2256 + (4 + ((cb st).length + 6) + 0 + 0 + 0 + 0) + _ + 0 ≤ 2900; omega)
  · have e4 : cell T4 (ba1 op1 + 1) = cell T1 (ba1 op1 + 1) := F4.ce (k := 22) (g1.kb g1.2.2.2.1).2.1 (fun q => q)
    have m1 := am_fr (b := ba1 op1) (o := op1) F4 (ce_c e4)
    have m2 : am 0 0 T4 T5 (ba1 op1) (ba1 op1) op1 op1 := by
      obtain ⟨-, b1, b2, b3, b4, -⟩ := F5
      constructor <;> omega
    have m3 : am 0 0 T5 (sI 163 s (nI (st + 1)) T5) (ba1 op1) (ba1 op1) op1 op1 := ⟨Nat.le_refl _, Nat.le_refl _⟩
    exact (((g4.tr m1).tr m2).tr m3).by (by omega) (by show 0 + (4 + ((cb st).length + 6) + 0 + 0 + 0 + 0) + 0 + 0 ≤ _; omega)
  · rintro a (q | q | q | ⟨k, hk, q⟩)
    · exact Or.inl (Or.inl q)
    · exact Or.inl (Or.inr (Or.inl q))
    · exact Or.inl (Or.inr (Or.inr (Or.inl q)))
    · rcases q with q | q | ⟨n, hn, q⟩
      · exact g5 a (Or.inr (Or.inr (Or.inr ⟨k, hk, Or.inl q⟩)))
      · exact g5 a (Or.inr (Or.inr (Or.inr ⟨k, hk, Or.inr (Or.inl q)⟩)))
      · have old : n ∈ co1 k → shM s ba ca bl co a ∨ tn T ≤ a := fun hn => by
          have := hfF k hk n hn
          rw [up1_nea (show n ≠ st by omega)] at q
          exact g5 a (Or.inr (Or.inr (Or.inr ⟨k, hk, Or.inr (Or.inr ⟨n, hn, q⟩)⟩)))
        by_cases e : k = op1
        · rw [e, up1_e, if_pos rfl] at hn
          rcases List.mem_append.mp hn with hn | hn
          · exact old (by rw [e]; exact hn)
          · rw [List.mem_singleton] at hn
            rw [hn, ec] at q
            exact Or.inr (by omega)
        · rw [mem_up e] at hn
          exact old hn
end SHS
