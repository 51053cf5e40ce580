/-! DedupVault: save, its end -/
section SA3
variable {d X : Nat} {va ba ca : Nat → Nat} {dr kl : List Nat} {vf vn : Nat → Nat} {vb ve : Nat → List Nat} {vp : Nat → Option Nat} {nx : Nat → Nat} {sv : Nat} {cb : Nat → List Nat} {us : Nat → Nat} {bl cs : List Nat} {co : Nat → List Nat} {op hi re st : Nat} {T : TS}
theorem save_end {j v L z : Nat} {l5 : Int32} {es : List Nat} (hw : wf T) (h : XR T X va ba ca dr kl vf vn vb ve vp nx sv cb us bl co op cs hi re st) (hv : verR T v ca j (nx j) dr es none) (hj : j < 6) (hl : kl.length < 20) (hsv : sv < 512) (hnx : nx j < 999999) (hes : ∀ n ∈ es, ∃ k ∈ bl, n ∈ co k) (hel : es.length ≤ 30) (hz : z ∉ kl) (hvn : ∀ k ∈ kl, va k ≠ v) (hv3 : v + 3 ≠ X + 3) (hsh : ¬ shD (X + 5) ba ca bl cs co v) :
    ∃ T7, XR T7 X (up1 va z v) ba ca dr (kl ++ [z]) (up1 vf z j) (up1 vn z (nx j)) (up1 vb z dr) (up1 ve z es) (up1 vp z (newB kl vf ve vp j es)) (up1 nx j (nx j + 1)) (sv + 1) cb us bl co op cs hi re st ∧ fr (fun a => a = v ∨ a = X ∨ a = X + 3 ∨ a = X + 4) 8 474 T T7 ∧ tc T7 (ba op + 1) = tc T (ba op + 1) ∧ ∀ Q : Post, Q (.inl (some (.int (nI (nx j))))) T7 → Ev (d + 7) MX6_save [] 120 [(5, .int l5), (4, .ref L), (3, .ref v), (2, .int (nI (nx j))), (0, .ref X), (1, .int (nI j))] [] T Q := by
  have hch := h.chain
  have hent := fun k hk => (h.ent (k := k) hk).2
  have h0 := h
  obtain ⟨⟨x1, x2, x3, x4, x5, x6, x7⟩, ⟨h1, hd⟩, ⟨n1, n2, n3⟩, ⟨h3, h30⟩, h4, h5⟩ := h
  have hK := h3.1.1
  have hvK := hv.ks
  have hlk : lok T (X + 3) (kl.map va) := h3.1
  have heO : entO T ca es := fun n hn => by
    obtain ⟨b, hb, hnb⟩ := hes n hn
    obtain ⟨a1, -, -, -, a2, a3, -⟩ := h4.kn hb hnb
    exact ⟨a1, a2, a3⟩
  have cl := C_latestKept (d := d + 5) (f := nI j) x1 x3 h3
  have nX : v ≠ X := neK hv.1 x1 (by decide)
  have nX3 : v ≠ X + 3 := neK hv.1 hK (by decide)
  have nX4 : v ≠ X + 4 := neK hv.1 n1 (by decide)
  -- the base
  obtain ⟨T4, hT4⟩ : ∃ T4, T4 = match newB kl vf ve vp j es with | none => T | some k => sR 196 v (some (va k)) T := ⟨_, rfl⟩
  have c4 : ∀ a, a ≠ v → cell T4 a = cell T a := fun a ha => by
    rw [hT4]
    split
    · rfl
    · exact ce_sR ha
  have t4 : tn T4 = tn T ∧ tu T4 = tu T ∧ tK T4 = tK T := by
    rw [hT4]
    split <;> exact ⟨rfl, rfl, rfl⟩
  have w4 : wf T4 := fun a ha => by rw [t4.2.2]; exact hw a (by rw [t4.1] at ha; exact ha)
  have b4 : tR T4 196 v = (newB kl vf ve vp j es).map va := by
    rw [hT4]
    split
    · rename_i e; rw [e]; exact hv.2.2.2.2.2.2.2.1
    · rename_i k e; rw [e, tR_sR, up2_e, if_pos ⟨rfl, rfl⟩]; rfl
  have r4 : ∀ f, f ≠ 196 → tR T4 f v = tR T f v := fun f hf => by
    rw [hT4]
    split
    · rfl
    · rw [tR_sR, up2_e, if_neg (fun q => hf q.1)]
  have i4 : tI T4 = tI T := by
    rw [hT4]
    split <;> rfl
  have hnb : ∀ k, newB kl vf ve vp j es = some k → k ∈ kl := fun k hk => by
    unfold newB at hk
    split at hk
    · cases hk
    · rename_i k9 e
      split at hk
      · cases hk
        exact (lk_mem e).1
      · cases hk
  have hlk4 := hlk.of (c4 (X + 3) (fun q => nX3 q.symm))
  obtain ⟨m1, m2, m3, m4⟩ := lok_ch (ys := kl.map va ++ [v]) w4 hlk4 (by rw [List.length_map]; omega) (by rw [List.length_append]; rfl)
  obtain ⟨T5, hT5⟩ : ∃ T5, T5 = sL (X + 3) (kl.map va ++ [v]) (fit (X + 3) T4) := ⟨_, rfl⟩
  rw [← hT5] at m1 m2 m3 m4
  have c5 : ∀ a, a ≠ X + 3 → cell T5 a = cell T4 a := fun a ha => by rw [hT5, ce_sL ha, ce_fit ha]
  have k5 : tK T5 = tK T4 := by rw [hT5, tK_sL, fit_K]
  obtain ⟨T7, hT7⟩ : ∃ T7, T7 = sI 228 X (nI (sv + 1)) (sA (X + 4) j (nI (nx j + 1)) T5) := ⟨_, rfl⟩
  have c7 : ∀ a, a ≠ X → a ≠ X + 4 → cell T7 a = cell T5 a := fun a h1 h2 => by rw [hT7, ce_sI h1, ce_sA h2]
  have cc : ∀ a, a ≠ v → a ≠ X → a ≠ X + 3 → a ≠ X + 4 → cell T7 a = cell T a := fun a q1 q2 q3 q4 => (c7 a q2 q4).trans ((c5 a q3).trans (c4 a q1))
  have FF : fr (fun a => a = v ∨ a = X ∨ a = X + 3 ∨ a = X + 4) 8 474 T T7 := by
    have f1 : fr (fun a => a = v ∨ a = X ∨ a = X + 3 ∨ a = X + 4) 0 0 T T4 := ⟨w4, by rw [t4.1]; omega, by rw [t4.1]; omega, by rw [t4.2.1]; omega, by rw [t4.2.1]; omega, fun a _ q => c4 a (fun z => q (Or.inl z))⟩
    have f2 := f1.th (m4.wd (W' := fun a => a = v ∨ a = X ∨ a = X + 3 ∨ a = X + 4) (Nat.le_refl _) (Nat.le_refl _) (fun a _ q => Or.inr (Or.inr (Or.inl q))))
    have f3 := f2.th (fr_sA (W := fun a => a = v ∨ a = X ∨ a = X + 3 ∨ a = X + 4) (a := X + 4) (i := j) (v := nI (nx j + 1)) f2.ok (Or.inr (Or.inr (Or.inr rfl))))
    have f4 := f3.th (fr_sI (W := fun a => a = v ∨ a = X ∨ a = X + 3 ∨ a = X + 4) (f := 228) (a := X) (v := nI (sv + 1)) f3.ok (Or.inr (Or.inl rfl)))
    rw [← hT7] at f4
    have b1 := gcl_le (tc T5 (X + 3))
    have b2 := gsl_le (tc T5 (X + 3))
    exact f4.by (by omega) (by omega)
  have kbo := h4.kb h4.2.2.2.1
  have eX : cell T5 X = cell T X := (c5 X (by omega)).trans (c4 X (fun q => nX q.symm))
  have eX4 : cell T5 (X + 4) = cell T (X + 4) := (c5 _ (by omega)).trans (c4 _ (fun q => nX4 q.symm))
  have r1 := h1.1
  have r2 := h1.2.2.2.1
  refine ⟨T7, ⟨⟨?_, ?_, ?_, ?_, ?_, ?_, by omega⟩, ⟨h1.of (cc _ (neK r1 hv.1 (by decide)) (by omega) (by omega) (by omega)) (cc _ (neK r2 hv.1 (by decide)) (by omega) (by omega) (by omega)), hd⟩, ⟨?_, ?_, fun i hi => ?_⟩, ⟨⟨?_, fun k hk => ?_⟩, by rw [List.length_append]; show kl.length + 1 ≤ 20; omega⟩, h4.of (fun a ha => cc a (fun q => hsh (q ▸ ha)) ?_ ?_ ?_), fun k hk n hn => ?_⟩, FF, ?_, fun Q hQ => ?_⟩
  · rw [hT7, tK_sI, tK_sA, k5, t4.2.2]; exact x1
  · rw [hT7, tR_sI, tR_sA, ce_R eX]; exact x2
  · rw [hT7, tR_sI, tR_sA, ce_R eX]; exact x3
  · rw [hT7, tR_sI, tR_sA, ce_R eX]; exact x4
  · rw [hT7, tR_sI, tR_sA, ce_R eX]; exact x5
  · rw [hT7, tI_sI, up2_e, if_pos ⟨rfl, rfl⟩]
  · rw [hT7, tK_sI, tK_sA, k5, t4.2.2]; exact n1
  · rw [hT7, tl_sI, tl_sA, ce_l eX4]; exact n2
  · rw [hT7, tA_sI, tA_sA, up2_e, up1_e]
    by_cases e : i = j
    · rw [if_pos ⟨rfl, e⟩, if_pos e]
      exact ⟨rfl, by omega⟩
    · rw [if_neg (fun q => e q.2), if_neg e, ce_A eX4]
      exact n3 i hi
  · rw [List.map_append, map_up hz]
    show lok T7 (X + 3) (kl.map va ++ [up1 va z v z])
    rw [up1_e, if_pos rfl]
    exact m1.of (c7 _ (by omega) (by omega))
  · rcases List.mem_append.mp hk with hk | hk
    · have hkz : k ≠ z := fun e => hz (e ▸ hk)
      obtain ⟨q1, q2, q3, q4⟩ := h3.2 k hk
      obtain ⟨v1, v2, v3, v4⟩ := q1.ks
      rw [up1_nea hkz, up1_nea hkz, up1_nea hkz, up1_nea hkz, up1_nea hkz, up1_nea hkz]
      have eb : (vp k).map (up1 va z v) = (vp k).map va := by
        cases e : vp k with
        | none => rfl
        | some y =>
          have hyz : y ≠ z := fun e2 => hz (e2 ▸ q2 y e)
          show some (up1 va z v y) = some (va y)
          rw [up1_nea hyz]
      rw [eb]
      have nvX : va k + 3 ≠ X + 3 := fun q => neK v1 x1 (by decide) (by omega)
      have nv4 : va k + 2 ≠ X + 4 := fun q => neK v1 r2 (by decide) (by omega)
      exact ⟨q1.of (cc _ (hvn k hk) (neK v1 x1 (by decide)) (neK v1 hK (by decide)) (neK v1 n1 (by decide))) (cc _ (neK v2 hv.1 (by decide)) (neK v2 x1 (by decide)) (neK v2 hK (by decide)) (neK v2 n1 (by decide))) (cc _ (neK v3 hv.1 (by decide)) (neK v3 x1 (by decide)) (neK v3 hK (by decide)) nv4) (cc _ (neK v4 hv.1 (by decide)) (neK v4 x1 (by decide)) nvX (neK v4 n1 (by decide))), fun y hy => List.mem_append_left _ (q2 y hy), q3, q4⟩
    · rw [List.mem_singleton] at hk
      subst hk
      rw [up1_e, if_pos rfl, up1_e, if_pos rfl, up1_e, if_pos rfl, up1_e, if_pos rfl, up1_e, if_pos rfl, up1_e, if_pos rfl]
      have eb : (newB kl vf ve vp j es).map (up1 va k v) = (newB kl vf ve vp j es).map va := by
        cases e : newB kl vf ve vp j es with
        | none => rfl
        | some y =>
          have hyz : y ≠ k := fun e2 => hz (e2 ▸ hnb y e)
          show some (up1 va k v y) = some (va y)
          rw [up1_nea hyz]
      rw [eb]
      obtain ⟨w1, w2, w3, w4', w5, w6, w7, w8, w9, w10⟩ := hv
      obtain ⟨v1, v2, v3, v4⟩ := hvK
      have ev : cell T7 v = cell T4 v := (c7 v nX nX4).trans (c5 v nX3)
      have nv4 : v + 2 ≠ X + 4 := fun q => neK v1 r2 (by decide) (by omega)
      refine ⟨⟨by rw [ce_K ev, t4.2.2]; exact w1, by rw [ce_I ev, i4]; exact w2, by rw [ce_I ev, i4]; exact w3, by rw [ce_R ev, r4 _ (by omega)]; exact w4', w5.of (cc _ (by omega) (neK v2 x1 (by decide)) (neK v2 hK (by decide)) (neK v2 n1 (by decide))) (cc _ (by omega) (neK v3 x1 (by decide)) (neK v3 hK (by decide)) nv4), by rw [ce_R ev, r4 _ (by omega)]; exact w6, w7.of (cc _ (by omega) (neK v4 x1 (by decide)) hv3 (neK v4 n1 (by decide))), by rw [ce_R ev]; exact b4, w9, w10⟩, fun y hy => List.mem_append_left _ (hnb y hy), h1.2.2.2.2.2.1, hel⟩
  · rintro rfl
    exact h4.notK (Or.inr x1) ha
  · rintro rfl
    exact h4.notL hK rfl (by rw [r2]; decide) (by rw [r2]; decide) (by rw [r2]; decide) ha
  · rintro rfl
    obtain ⟨s1, s2, s3⟩ := h4.ks
    rcases ha with q | q | q | ⟨k, hk, q⟩ | ⟨k, hk, q | q | ⟨n, hn, q⟩⟩
    · omega
    · omega
    · omega
    · exact neK n1 (h4.2.2.2.2.1 k hk).1 (by decide) q
    · exact neK n1 (h4.kb hk).1 (by decide) q
    · exact neK n1 (h4.kb hk).2.1 (by decide) q
    · obtain ⟨d1, d2, d3, d4, -⟩ := h4.kn hk hn
      rcases q with q | q | q | q
      · exact neK n1 d1 (by decide) q
      · exact neK n1 d2 (by decide) q
      · exact neK d1 r2 (by decide) (by omega)
      · exact neK n1 d4 (by decide) q
  · rcases List.mem_append.mp hk with hk | hk
    · have hkz : k ≠ z := fun e => hz (by rw [← e]; exact hk)
      rw [up1_nea hkz] at hn
      exact h5 k hk n hn
    · rw [List.mem_singleton] at hk
      rw [hk, up1_e, if_pos rfl] at hn
      exact hes n hn
  · refine ce_c (cc _ (neK kbo.2.1 hv.1 (by decide)) (neK kbo.2.1 x1 (by decide)) (fun q => ?_) (neK kbo.2.1 n1 (by decide)))
    exact neK kbo.1 r2 (by decide) (by omega)
  · have y1 : tK T4 X = 8 := by rw [t4.2.2]; exact x1
    have y2 : tR T4 225 X = some (X + 3) := by rw [ce_R (c4 X (fun q => nX q.symm))]; exact x3
    have y3 := hlk4.1
    have y4 : tK T4 v = 7 := by rw [t4.2.2]; exact hv.1
    have y5 : tK T5 X = 8 := by rw [ce_K eX]; exact x1
    have y6 : tR T5 226 X = some (X + 4) := by rw [ce_R eX]; exact x4
    have y7 : tK T5 (X + 4) = 20 := by rw [ce_K eX4]; exact n1
    have y8 : tl T5 (X + 4) = 6 := by rw [ce_l eX4]; exact n2
    have y9 : tI T5 228 X = nI sv := by rw [ce_I eX]; exact x6
    have e5 := hT5.symm
    have hvK1 := hv.1
    have fin2 : ∀ Q : Post, Q (.inl (some (.int (nI (nx j))))) T7 → Ev (d + 7) MX6_save [] 129 [(5, .int l5), (4, .ref L), (3, .ref v), (2, .int (nI (nx j))), (0, .ref X), (1, .int (nI j))] [] T4 Q := by
      intro Q hQ
      rw [hT7] at hQ
      clear cc c7 hT7 FF m1 m2 m3 m4 hnb b4 r4 i4 hch hent h0 h4 h5 hes heO cl
      simp (disch := omega) only [ev_aload_n (M := MX6_save) (k := 0) rfl dX6_save_129 (pc' := 130) rfl, ev_getR (M := MX6_save) (f := 225) (kk := 8) f_7_21 rfl rfl rfl dX6_save_130 (pc' := 133) rfl, ev_aload_n (M := MX6_save) (k := 3) rfl dX6_save_133 (pc' := 134) rfl, ev_cL1 (M := MX6_save) dX6_save_134 c_7_122 mJx4a65c_add_9ea2d rfl rfl rfl (pc' := 137) rfl, ev_popI (M := MX6_save) dX6_save_137 (pc' := 138) rfl, ev_popR (M := MX6_save) dX6_save_137 (pc' := 138) rfl, ev_aload_n (M := MX6_save) (k := 0) rfl dX6_save_138 (pc' := 139) rfl, ev_getR (M := MX6_save) (f := 226) (kk := 8) f_7_25 rfl rfl rfl dX6_save_139 (pc' := 142) rfl, ev_iload_n (M := MX6_save) (k := 1) rfl dX6_save_142 (pc' := 143) rfl, ev_iload_n (M := MX6_save) (k := 2) rfl dX6_save_143 (pc' := 144) rfl, ev_iconst (M := MX6_save) (v := (nI 1)) rfl dX6_save_144 (pc' := 145) rfl, ev_iadd (M := MX6_save) dX6_save_145 (pc' := 146) rfl, ev_iast (M := MX6_save) dX6_save_146 (pc' := 147) rfl, ev_aload_n (M := MX6_save) (k := 0) rfl dX6_save_147 (pc' := 148) rfl, ev_dupI (M := MX6_save) dX6_save_148 (pc' := 149) rfl, ev_dupR (M := MX6_save) dX6_save_148 (pc' := 149) rfl, ev_getI (M := MX6_save) (f := 228) (kk := 8) f_7_36 rfl rfl rfl dX6_save_149 (pc' := 152) rfl, ev_iconst (M := MX6_save) (v := (nI 1)) rfl dX6_save_152 (pc' := 153) rfl, ev_iadd (M := MX6_save) dX6_save_153 (pc' := 154) rfl, ev_putI (M := MX6_save) (f := 228) (kk := 8) f_7_36 rfl rfl rfl rfl dX6_save_154 (pc' := 157) rfl, ev_iload_n (M := MX6_save) (k := 2) rfl dX6_save_157 (pc' := 158) rfl, ev_iret (M := MX6_save) rfl dX6_save_158, lI_some, lJ_some, lR_ref, lR_null, lD_some, lget_cons, ldel_cons, ldel_nil, evR_v, evR_0, evR_x, vrf_s, vrf_n, Value.category, Nat.reduceEqDiff, Nat.reduceAdd, Nat.reduceSub, Nat.reduceMul, Nat.reduceLeDiff, reduceIte, if_true, if_false, or_self, or_false, false_or, or_true, true_or, and_self, and_true, true_and, and_false, false_and, not_true_eq_false, not_false_eq_true, List.length_cons, List.length_nil, Nat.zero_le, Nat.add_eq_zero_iff, Nat.succ_ne_zero, Nat.zero_add, Nat.add_zero, nle_t, nle_f, nlt_t, nlt_f, neq_t, neq_f, i_lt0, i_le0, i_0le, i_0lt, i_eq0, i_lt, i_le, i_eq, nI_add, i_sub, i_cl, i_m1a, i_m1b, i_m1c, i_m1d, i_m1e, i_am1, i_ite0, y1, y2, y3, y4, c_ladd hlk4.is, e5, y5, y6, y7, y8, tK_sA, y9, tI_sA]
      exact hQ
    have hb4 : ∀ Q : Post, Ev (d + 7) MX6_save [] 129 [(5, .int l5), (4, .ref L), (3, .ref v), (2, .int (nI (nx j))), (0, .ref X), (1, .int (nI j))] [] T4 Q → Ev (d + 7) MX6_save [] 120 [(5, .int l5), (4, .ref L), (3, .ref v), (2, .int (nI (nx j))), (0, .ref X), (1, .int (nI j))] [] T Q := by
      intro Q hQ
      cases e : lk kl vf (nI j) with
      | none =>
        have en : newB kl vf ve vp j es = none := by unfold newB; rw [e]
        rw [en] at hT4
        simp only at hT4
        rw [hT4] at hQ
        rw [e] at cl
        have cn := C_chooseNone (d := d + 6) (v := v) (T := T)
        clear cc c7 hT7 FF m1 m2 m3 m4 hnb b4 r4 i4 hch hent h0 h4 h5 hes heO
        simp (disch := omega) only [ev_aload_n (M := MX6_save) (k := 3) rfl dX6_save_120 (pc' := 121) rfl, ev_aload_n (M := MX6_save) (k := 0) rfl dX6_save_121 (pc' := 122) rfl, ev_iload_n (M := MX6_save) (k := 1) rfl dX6_save_122 (pc' := 123) rfl, ev_cV1 (M := MX6_save) (kk := 8) dX6_save_123 c_7_114 mX6_latestKept rfl rfl (by decide) rfl (pc' := 126) rfl, ev_cV1 (M := MX6_save) (kk := 7) dX6_save_126 c_7_118 mX5_chooseBase rfl rfl (by decide) rfl (pc' := 129) rfl, lI_some, lJ_some, lR_ref, lR_null, lD_some, lget_cons, ldel_cons, ldel_nil, evR_v, evR_0, evR_x, vrf_s, vrf_n, Value.category, Nat.reduceEqDiff, Nat.reduceAdd, Nat.reduceSub, Nat.reduceMul, Nat.reduceLeDiff, reduceIte, if_true, if_false, or_self, or_false, false_or, or_true, true_or, and_self, and_true, true_and, and_false, false_and, not_true_eq_false, not_false_eq_true, List.length_cons, List.length_nil, Nat.zero_le, Nat.add_eq_zero_iff, Nat.succ_ne_zero, Nat.zero_add, Nat.add_zero, nle_t, nle_f, nlt_t, nlt_f, neq_t, neq_f, i_lt0, i_le0, i_0le, i_0lt, i_eq0, i_lt, i_le, i_eq, nI_add, i_sub, i_cl, i_m1a, i_m1b, i_m1c, i_m1d, i_m1e, i_am1, i_ite0, x1, cq cl, om_n, hvK1, cq cn]
        exact hQ
      | some k =>
        have hkk := (lk_mem e).1
        rw [e] at cl
        obtain ⟨q1, q2, q3, q4⟩ := h3.2 k hkk
        have cb1 := C_chooseBase (d := d + 2) (v := v) (ca := ca) hch hkk hv q1 heO (hent k hkk)
        have eT : (if chO vp 3 (vp k) < 3 ∧ dif es (ve k) < es.length then sR 196 v (some (va k)) T else T) = T4 := by
          rw [hT4]
          unfold newB
          rw [e]
          simp only
          by_cases cc1 : chO vp 3 (vp k) < 3 ∧ dif es (ve k) < es.length
          · rw [if_pos cc1, if_pos cc1]
          · rw [if_neg cc1, if_neg cc1]
        rw [eT] at cb1
        have q11 := q1.1
        clear cc c7 hT7 FF m1 m2 m3 m4 hnb b4 r4 i4 hch hent h0 h4 h5 hes heO
        simp (disch := omega) only [ev_aload_n (M := MX6_save) (k := 3) rfl dX6_save_120 (pc' := 121) rfl, ev_aload_n (M := MX6_save) (k := 0) rfl dX6_save_121 (pc' := 122) rfl, ev_iload_n (M := MX6_save) (k := 1) rfl dX6_save_122 (pc' := 123) rfl, ev_cV1 (M := MX6_save) (kk := 8) dX6_save_123 c_7_114 mX6_latestKept rfl rfl (by decide) rfl (pc' := 126) rfl, ev_cV1 (M := MX6_save) (kk := 7) dX6_save_126 c_7_118 mX5_chooseBase rfl rfl (by decide) rfl (pc' := 129) rfl, lI_some, lJ_some, lR_ref, lR_null, lD_some, lget_cons, ldel_cons, ldel_nil, evR_v, evR_0, evR_x, vrf_s, vrf_n, Value.category, Nat.reduceEqDiff, Nat.reduceAdd, Nat.reduceSub, Nat.reduceMul, Nat.reduceLeDiff, reduceIte, if_true, if_false, or_self, or_false, false_or, or_true, true_or, and_self, and_true, true_and, and_false, false_and, not_true_eq_false, not_false_eq_true, List.length_cons, List.length_nil, Nat.zero_le, Nat.add_eq_zero_iff, Nat.succ_ne_zero, Nat.zero_add, Nat.add_zero, nle_t, nle_f, nlt_t, nlt_f, neq_t, neq_f, i_lt0, i_le0, i_0le, i_0lt, i_eq0, i_lt, i_le, i_eq, nI_add, i_sub, i_cl, i_m1a, i_m1b, i_m1c, i_m1d, i_m1e, i_am1, i_ite0, x1, cq cl, om_s, hvK1, cq cb1]
        exact hQ
    exact hb4 Q (fin2 Q hQ)
end SA3
