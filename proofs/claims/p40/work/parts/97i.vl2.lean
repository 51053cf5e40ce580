/-! one vault, whole -/
section VL2
variable {d S X G L n0 u0 c : Nat} {va ba ca : Nat → Nat} {dr kl : List Nat} {vf vn : Nat → Nat} {vb ve : Nat → List Nat} {vp : Nat → Option Nat} {nx na : Nat → Nat} {sv : Nat} {cb : Nat → List Nat} {us : Nat → Nat} {bl cs : List Nat} {co : Nat → List Nat} {op hi re st : Nat} {rw : List Nat} {bx : Nat → Nat} {ud : Nat} {T T' T1 T2 : TS} {Q : Post}
theorem VE.nxt {j v : Nat} (h : VE S X G L n0 u0 c na nx T) (hj : j < 6) : VE S X G L n0 u0 c (up1 na j v) nx (sA (G + 1) j (nI v) T) := by
  obtain ⟨va, ba, ca, dr, kl, vf, vn, vb, ve, vp, sv, cb, us, bl, co, op, cs, hi, re, st, rw, bx, ud, h⟩ := h
  have ho := fun a (q : xD X va ba ca kl bl cs co a) => (h.off q).2.1
  obtain ⟨h1, h2, h3, h4, h5, h6, h7⟩ := h
  refine ⟨va, ba, ca, dr, kl, vf, vn, vb, ve, vp, sv, cb, us, bl, co, op, cs, hi, re, st, rw, bx, ud, h1.x (h1.1.of (fun a q => ce_sA (ho a q))), h2, h3, h4, h5.of (ce_sA (by omega)), ⟨h6.1, h6.2.1, fun i hi9 => ?_⟩, h7.of (ce_sA (fun q => by have a := h6.1; have b := h7.1; rw [q, a] at b; cases b))⟩
  rw [tA_sA, up2_e, up1_e]
  by_cases e : i = j
  · rw [if_pos ⟨rfl, e⟩, if_pos e]
  · rw [if_neg (fun q => e q.2), if_neg e]
    exact h6.2.2 i hi9
/-- what a step does -/
theorem V_body {a k x y w : Nat} (h : VE S X G L n0 u0 c nx nx T) (hc : c < 60) (hx : x < 1073741824) (hy : y < 1073741824) (hw : w < 12) : ∃ T' nx', VE S X G L n0 u0 (c + 1) nx' nx' T' ∧ ∀ Q : Post, Ev (d + 10) ML_vault [] 273 [(9, .int (nI 1)), (7, .int (nI y)), (6, .int (nI x)), (5, .int (nI k)), (4, .ref (G + 1)), (3, .ref G), (2, .ref X), (0, .ref S), (1, .int (nI a))] [] T' Q → Ev (d + 10) ML_vault [] 98 [(9, .int (nI 1)), (8, .int (nI w)), (7, .int (nI y)), (6, .int (nI x)), (5, .int (nI k)), (4, .ref (G + 1)), (3, .ref G), (2, .ref X), (0, .ref S), (1, .int (nI a))] [] T Q := by
  obtain ⟨va, ba, ca, dr, kl, vf, vn, vb, ve, vp, sv, cb, us, bl, co, op, cs, hi, re, st, rw, bx, ud, h⟩ := h
  have hg := h.2.2.2.2.1
  have hn := h.2.2.2.2.2.1
  have h20 : kl.length ≤ 20 := h.1.1.2.2.2.1.2
  have cm := C_many (d := d + 8) hg.1 hg.2.1
  rw [hg.many h.1] at cm
  have hx3 : x % 3 < 3 := Nat.mod_lt _ (by decide)
  by_cases w4 : w < 4
  · have cd : CallQ (d + 10) 143 [.ref X, .int (nI w), .int (nI x), .int (nI y), .ref G] T (dPost S X G L n0 u0 c nx va ba ca kl vf vn vb ve vp nx sv cb us bl co op cs hi re st rw bx ud) := by
      have hz : w = 0 ∨ w = 1 ∨ w = 2 ∨ w = 3 := by omega
      rcases hz with rfl | rfl | rfl | rfl
      · exact C_dra0 (d := d + 5) h (by omega) (by omega) (by omega)
      · exact C_dra1 (d := d + 5) h (by omega) (by omega) (by omega)
      · exact C_dra2 (d := d + 5) h (by omega) (by omega) (by omega)
      · exact C_dra3 (d := d + 5) h (by omega) (by omega) (by omega)
    obtain ⟨_, T1, c1, rfl, dr', hv⟩ := cd
    exact ⟨T1, nx, ⟨_, _, _, _, _, _, _, _, _, _, _, _, _, _, _, _, _, _, _, _, _, _, _, hv⟩, fun Q hq => Z_va2 w4 c1 hq⟩
  by_cases w8 : w < 8
  · by_cases hl : kl.length < 20
    · obtain ⟨_, T1, c1, rfl, hv⟩ := C_saves (d := d) (j := x % 3) h hc (by omega) hl
      have hv2 := hv.nxt (j := x % 3) (v := nx (x % 3) + 1) (by omega)
      obtain ⟨va', ba', ca', dr', kl', vf', vn', vb', ve', vp', sv', cb', us', bl', co', op', cs', hi', re', st', rw', bx', ud', hv⟩ := hv
      have hn2 := hv.2.2.2.2.2.1
      have hnx := h.2.1.2.2.2.2.2.1 (x % 3)
      exact ⟨_, _, hv2, fun Q hq => Z_va3 (by omega) w8 (by omega) hl hn.1 hn.2.1 (hn.2.2 _ (by omega)) hn2.1 hn2.2.1 (hn2.2.2 _ (by omega)) (by omega) cm c1 hq⟩
    · exact ⟨T, nx, ⟨_, _, _, _, _, _, _, _, _, _, _, _, _, _, _, _, _, _, _, _, _, _, _, h.c1 (by omega)⟩, fun Q hq => Z_va4 (by omega) w8 (by omega) (by omega) (by omega) cm hq⟩
  by_cases w10 : w < 10
  · obtain ⟨r1, T0, c2, e0, h1⟩ := C_kept (d := d + 8) (T := T) (G := G) (f := x % 3) (s := y % 64) hg.1 hg.2.1 (by omega) (by omega)
    subst e0
    rcases h1 with rfl | ⟨v, hv, hb, rfl⟩
    · exact ⟨T0, nx, ⟨_, _, _, _, _, _, _, _, _, _, _, _, _, _, _, _, _, _, _, _, _, _, _, h.c1 (by omega)⟩, fun Q hq => Z_va5 (by omega) w10 (by omega) (by omega) c2 hq⟩
    · obtain ⟨g, hgk, e1, e2⟩ := hg.ex (by omega) hv hb
      obtain ⟨_, T1, c1, rfl, hv2⟩ := C_forgets (d := d + 4) h (by omega) hgk
      rw [e1, e2] at c1
      exact ⟨T1, nx, hv2, fun Q hq => Z_va6 (by omega) w10 (by omega) (by omega) hv c2 c1 hq⟩
  by_cases w11 : w = 10
  · obtain ⟨_, T1, c1, rfl, hv2⟩ := C_collects (d := d + 3) h (by omega)
    exact ⟨T1, nx, hv2, fun Q hq => Z_va7 w11 c1 hq⟩
  have w12 : w = 11 := by omega
  by_cases x4 : x % 4 = 0
  · obtain ⟨_, T1, c1, rfl, x1, F1⟩ := X_clear (d := d + 7) h.2.2.2.1 h.1.1
    have h1 := h.draft (by omega) x1 F1
    have A1 := am_fr (o := op) F1 (ce_c (F1.ce h.1.1.bk.2 (drW h.1.1)))
    obtain ⟨_, T2, c3, rfl, x2, F2⟩ := X_would (d := d + 2) F1.ok x1
    have e0 : sm (wouldB [] cb bl co) (cuts [] 0).length = 0 := by rw [cuts_nil (by decide)]; rfl
    rw [e0] at c3
    obtain ⟨L2, g2, n2, s2, w2, A2⟩ := h1.mk x2 F2
    have R2 := h.2.2.1.am (A1.tr A2) (bl' := bl) (by omega) (by omega)
    exact ⟨T2, nx, ⟨_, _, _, _, _, _, _, _, _, _, _, _, _, _, _, _, _, _, _, _, _, _, _, L2, h1.2.1, R2, w2, g2, n2, s2⟩, fun Q hq => Z_va8 h.1.k8 h1.1.k8 w12 (by omega) x4 (dlen h.1.1).1 c1 (Call_up (R_draftLength (d := d) x1) (by omega)) c3 hq⟩
  · exact ⟨T, nx, ⟨_, _, _, _, _, _, _, _, _, _, _, _, _, _, _, _, _, _, _, _, _, _, _, h.c1 (by omega)⟩, fun Q hq => Z_va9 w12 (by omega) x4 hq⟩
theorem V_check {a k x y : Nat} (hD : DNN) (hE : DCQ) (hE0 : Op.cmpValue (FP.dcmp FP.dconst0 FP.dconst0) .l = 0) (h : VE S X G L n0 u0 c na nx T) (hk : k < 40) (hx : x < 1073741824) (hy : y < 1073741824) (hq : Ev (d + 10) ML_vault [] 22 [(5, .int (nI (k + 1))), (4, .ref (G + 1)), (3, .ref G), (2, .ref X), (0, .ref S), (1, .int (nI a))] [] T Q) : Ev (d + 10) ML_vault [] 273 [(9, .int (nI 1)), (7, .int (nI y)), (6, .int (nI x)), (5, .int (nI k)), (4, .ref (G + 1)), (3, .ref G), (2, .ref X), (0, .ref S), (1, .int (nI a))] [] T Q := by
  obtain ⟨va, ba, ca, dr, kl, vf, vn, vb, ve, vp, sv, cb, us, bl, co, op, cs, hi, re, st, rw, bx, ud, h⟩ := h
  have hg := h.2.2.2.2.1
  exact Z_vaa (by omega) (by omega) hk (C_areVersions (d := d + 2) h.1 hg (by omega) (by omega)) (C_areChunks (d := d + 4) hD hE hE0 h.1 hg) (C_isCache (d := d + 5) h.1) hq
/-- nothing is held yet -/
theorem SI_0 {us : Nat → Nat} {ve cb : Nat → List Nat} {bx : Nat → Nat} : SI (uO [] ve) us cb [0] (fun _ => []) 0 [] [] bx 0 0 := by
  refine ⟨⟨?_, fun k _ => rfl, fun n hn => absurd hn List.not_mem_nil⟩, List.nodup_nil, fun n hn => absurd hn List.not_mem_nil, fun n hn => absurd hn List.not_mem_nil, Nat.le_refl _, fun k => Nat.zero_le _, fun k hk => absurd hk List.not_mem_nil⟩
  show [0] = (List.range 1).filter _
  rw [List.range_one, List.filter_cons, if_pos (decide_eq_true (Or.inl rfl))]
  rfl
theorem VE_0 (hw : wf T) (k26 : tK T S = 26) (l26 : tl T S = L) : ∃ T1, Call (d + 10) 79 [.ref (tn T)] (nO 7 T) (.inl none) T1 ∧ tn T1 = tn T + 11 ∧ VE S (tn T) (tn T + 11) L (tn T + 13) (tu T + 297) 0 (fun _ => 0) (fun _ => 0) (nA 20 6 (nA 22 7 T1)) := by
  obtain ⟨_, T1, c1, rfl, x1, t1, F1⟩ := C_X6_init (d := d + 5) (ca := fun _ => 0) (us := fun _ => 0) (cb := fun _ => []) (va := fun _ => 0) (vf := fun _ => 0) (vn := fun _ => 0) (vb := fun _ => []) (ve := fun _ => []) (vp := fun _ => none) hw
  have F2 := fr_nA (W := fun _ => False) (k := 22) (n := 7) F1.ok
  have F3 := fr_nA (W := fun _ => False) (k := 20) (n := 6) F2.ok
  have x3 := (x1.nw F2).nw F3
  have FF := (F1.th F2).th F3
  have eS : cell (nA 20 6 (nA 22 7 T1)) S = cell T S := FF.ce (k := 25) k26 (fun q => q)
  have hG : tK (nA 22 7 T1) (tn T + 11) = 22 := by rw [tK_nA, up1_e, if_pos t1.symm]
  have eG : cell (nA 20 6 (nA 22 7 T1)) (tn T + 11) = cell (nA 22 7 T1) (tn T + 11) := F3.ce (k := 21) hG (fun q => q)
  have t2 : tn (nA 22 7 T1) = tn T + 11 + 1 := by rw [tn_nA, t1]
  refine ⟨T1, c1, t1, _, _, _, _, _, _, _, _, _, _, _, _, _, _, _, _, _, _, _, _, _, fun _ => 0, _, ⟨x3, ⟨List.nodup_nil, fun k hk => absurd hk List.not_mem_nil, List.Pairwise.nil, fun k hk => absurd hk List.not_mem_nil, fun k hk => absurd hk List.not_mem_nil, fun k hk => absurd hk List.not_mem_nil, fun k hk => absurd hk List.not_mem_nil⟩, SI_0, ⟨fun k hk => absurd hk List.not_mem_nil, fun k hk => absurd hk List.not_mem_nil, fun k hk => absurd hk List.not_mem_nil, List.nodup_nil, fun k hk => absurd hk List.not_mem_nil⟩, Nat.zero_le _⟩, ⟨Nat.le_refl _, fun q => absurd (fun q hq => ?_) q, Nat.le_refl _, fun q => absurd (fun q hq => ?_) q, Nat.le_refl _, fun i => Nat.le_refl _, Nat.le_refl _, by decide⟩, ⟨?_, ?_⟩, F3.ok, ⟨?_, ?_, ?_, ?_⟩, ⟨?_, ?_, ?_⟩, ⟨?_, ?_⟩⟩
  · exact absurd hq (by rw [cuts_nil (by decide)]; exact List.not_mem_nil)
  · exact absurd hq (by rw [cuts_nil (by decide)]; exact List.not_mem_nil)
  · rw [tn_nA, t2]
    omega
  · have := FF.2.2.2.2.1
    omega
  · rw [ce_K eG]; exact hG
  · rw [ce_l eG, tl_nA, up1_e, if_pos t1.symm]
  · rw [ce_J eG, tJ_nA, up1_e, if_pos t1.symm]
    rfl
  · intro f v hf hv
    rw [ce_J eG, tJ_nA, up1_e, if_pos t1.symm, bL_0]
    constructor
    · intro q; cases q
    · rintro ⟨k, hk, -⟩; exact absurd hk List.not_mem_nil
  · rw [tK_nA, up1_e, if_pos t2.symm]
  · rw [tl_nA, up1_e, if_pos t2.symm]
  · intro i hi9
    rw [tA_nA, up1_e, if_pos t2.symm]
    rfl
  · rw [ce_K eS]; exact k26
  · rw [ce_l eS]; exact l26
theorem VE.room (h : VE S X G L n0 u0 c na nx T) (hc : c ≤ 40) : (tn T ≤ n0 + 18500 ∧ tu T ≤ u0 + 570000) ∧ wf T ∧ tK T S = 26 ∧ tl T S = L := by
  obtain ⟨va, ba, ca, dr, kl, vf, vn, vb, ve, vp, sv, cb, us, bl, co, op, cs, hi, re, st, rw, bx, ud, h⟩ := h
  obtain ⟨h1, h2, h3, h4, h5, h6, h7⟩ := h
  have a1 := h1.2.2.1.2.2.2.2.1
  unfold pot at a1
  have a2 := gcl_le (tc T (ba op + 1))
  have a3 := gsl_le (tc T (ba op + 1))
  have a4 := h2.1
  exact ⟨⟨by have := h3.1; omega, by have := h3.2; omega⟩, h4, h7.1, h7.2⟩
theorem C_vault {a : Nat} (hD : DNN) (hE : DCQ) (hE0 : Op.cmpValue (FP.dcmp FP.dconst0 FP.dconst0) .l = 0) (hw : wf T) (k26 : tK T S = 26) (l26 : tl T S = L) (hL : L ≤ 260) (ha : a ≤ 250) : CallQ (d + 11) 144 [.ref S, .int (nI a)] T (fun q T' => q = .inl (some (.int (nI 1))) ∧ (tn T' ≤ tn T + 19000 ∧ tu T' ≤ tu T + 580000) ∧ wf T' ∧ tK T' S = 26 ∧ tl T' S = L) := by
  obtain ⟨T1, c1, t1, hV⟩ := VE_0 (d := d) hw k26 l26
  rw [uL_vault]
  refine Z_va0 c1 ?_
  have t2 : tn (nA 22 7 T1) = tn T + 11 + 1 := by rw [tn_nA, t1]
  rw [t2, t1]
  refine lpS (fun k => [(5, .int (nI k)), (4, .ref (tn T + 11 + 1)), (3, .ref (tn T + 11)), (2, .ref (tn T)), (0, .ref S), (1, .int (nI a))]) (fun k T' => ∃ nx, VE S (tn T) (tn T + 11) L (tn T + 13) (tu T + 297) k nx nx T') 40 ?_ ?_ _ ⟨_, hV⟩
  · rintro k T2 hk ⟨nx, h2⟩
    have hr := h2.room (by omega)
    obtain ⟨_, Tx, cx, rfl, x, hx, rfl⟩ := C_draw (d := d + 9) (k := a + 3 * k + 1) (m := 1073741824) hr.2.2.1 hr.2.2.2 (by omega) (by omega) (by decide) (by decide)
    obtain ⟨_, Ty, cy, rfl, y, hy, rfl⟩ := C_draw (d := d + 9) (k := a + 3 * k + 2) (m := 1073741824) hr.2.2.1 hr.2.2.2 (by omega) (by omega) (by decide) (by decide)
    obtain ⟨_, Tz, cz, rfl, z, hz, rfl⟩ := C_draw (d := d + 9) (k := a + 3 * k) (m := 12) hr.2.2.1 hr.2.2.2 (by omega) (by omega) (by decide) (by decide)
    obtain ⟨w, hw12, hww⟩ : ∃ w, w < 12 ∧ ((k < 4 ∧ w = 0) ∨ (k = 4 ∧ w = 4) ∨ (4 < k ∧ Call (d + 10) 129 [.ref S, .int (nI (a + 3 * k)), .int (nI 12)] Tz (.inl (some (.int (nI w)))) Tz)) := by
      rcases Nat.lt_trichotomy k 4 with q | q | q
      · exact ⟨0, by decide, Or.inl ⟨q, rfl⟩⟩
      · exact ⟨4, by decide, Or.inr (Or.inl ⟨q, rfl⟩)⟩
      · exact ⟨z, hz, Or.inr (Or.inr ⟨q, cz⟩)⟩
    obtain ⟨T3, nx', h3, hb⟩ := V_body (d := d) (a := a) (k := k) h2 (by omega) hx hy hw12
    exact ⟨T3, ⟨nx', h3⟩, fun hq => Z_va1 ha hk hww cx cy (hb _ (V_check hD hE hE0 h3 hk hx hy hq))⟩
  · rintro T2 ⟨nx, h2⟩
    have hr := h2.room (Nat.le_refl _)
    refine Z_vab ⟨rfl, ⟨?_, ?_⟩, hr.2⟩
    · have := hr.1.1
      omega
    · have := hr.1.2
      omega
end VL2
