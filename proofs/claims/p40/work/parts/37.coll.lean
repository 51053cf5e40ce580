/-! DedupVault$Shelf: collectGarbage -/
section COL
variable {d s : Nat} {ba ca us : Nat → Nat} {cb : Nat → List Nat} {bl cs : List Nat} {co : Nat → List Nat} {op hi re st : Nat} {T : TS}
theorem lis_erase {T : TS} {a k : Nat} {xs : List Nat} (h : lis T a xs) : lis (sL a (xs.eraseIdx k) T) a (xs.eraseIdx k) := by
  refine ⟨h.1, by rw [tL_sL, up1_e, if_pos rfl], h.2.2.1, ?_⟩
  have := List.length_eraseIdx_le xs k
  exact Nat.le_trans this h.2.2.2
/-- a container leaves the list -/
theorem SH.rem {p : Nat} (h : SH T s ba ca cb us bl co op cs hi re st) (hop : op ∈ bl.eraseIdx p) : SH (sL (s + 1) ((bl.eraseIdx p).map ba) T) s ba ca cb us (bl.eraseIdx p) co op cs hi re st := by
  obtain ⟨s1, s2, s3⟩ := h.ks
  have he : ∀ a, a ≠ s + 1 → cell (sL (s + 1) ((bl.eraseIdx p).map ba) T) a = cell T a := fun a ha => ce_sL ha
  have hh := h
  have hl := h.lens.1
  have hle := List.length_eraseIdx_le bl p
  obtain ⟨⟨h1, h2, h3, h4, h5, h6, h7⟩, ⟨l1, l2⟩, hb, ho, hcc, z1, z⟩ := h
  have e0 := he s (by omega)
  have l1' := lis_erase (k := p) l1
  rw [era_map] at l1'
  refine ⟨⟨by rw [ce_K e0]; exact h1, by rw [ce_R e0]; exact h2, by rw [ce_R e0]; exact h3, by rw [ce_R e0]; exact h4, by rw [ce_I e0]; exact h5, by rw [ce_I e0]; exact h6, by rw [ce_I e0]; exact h7⟩, ⟨l1', l2.of (he _ (by omega))⟩, fun k hk => ?_, hop, fun k hk => ?_, by omega, z⟩
  · have hk := List.mem_of_mem_eraseIdx hk
    obtain ⟨a1, a2, -⟩ := hh.kb hk
    refine ⟨(hb k hk).1.of (he _ (neK a1 s2 (by decide))) (he _ (fun e => neK a1 s1 (by decide) (by omega))) (fun n hnn => ?_), (hb k hk).2⟩
    obtain ⟨b1, b2, b3, b4, -⟩ := hh.kn hk hnn
    exact ⟨he _ (neK b1 s2 (by decide)), he _ (neK b2 s2 (by decide)), he _ (neK b3 s2 (by decide)), he _ (neK b4 s2 (by decide))⟩
  · obtain ⟨a1, a2, a3⟩ := hcc k hk
    have e := he (ba k) (neK a1 s2 (by decide))
    rw [ce_K e, ce_I e]
    exact ⟨a1, a2, a3⟩
abbrev CS : Type := List Nat × (Nat → List Nat) × Nat × List Nat × Nat × Nat
def lvS (us : Nat → Nat) (cb : Nat → List Nat) (ns : List Nat) : Nat := (ns.map (liveB us cb)).sum
def usd (us : Nat → Nat) (ns : List Nat) : List Nat := ns.filter (fun n => decide (0 < us n))
/-- one container is looked at -/
def cS (cb : Nat → List Nat) (us : Nat → Nat) (C : CS) : CS :=
  if 2 * lvS us cb (C.2.1 (C.1.getD C.2.2.2.2.1 0)) < byS cb (C.2.1 (C.1.getD C.2.2.2.2.1 0)) then
    ((pSs cb (C.1.eraseIdx C.2.2.2.2.1, C.2.1, C.2.2.1) (usd us (C.2.1 (C.1.getD C.2.2.2.2.1 0)))).1, (pSs cb (C.1.eraseIdx C.2.2.2.2.1, C.2.1, C.2.2.1) (usd us (C.2.1 (C.1.getD C.2.2.2.2.1 0)))).2.1, (pSs cb (C.1.eraseIdx C.2.2.2.2.1, C.2.1, C.2.2.1) (usd us (C.2.1 (C.1.getD C.2.2.2.2.1 0)))).2.2, C.2.2.2.1.filter (fun k => decide (k ≠ C.1.getD C.2.2.2.2.1 0)), C.2.2.2.2.1, C.2.2.2.2.2 + (byS cb (C.2.1 (C.1.getD C.2.2.2.2.1 0)) - lvS us cb (C.2.1 (C.1.getD C.2.2.2.2.1 0))))
  else (C.1, C.2.1, C.2.2.1, C.2.2.2.1, C.2.2.2.2.1 + 1, C.2.2.2.2.2)
def cSn (cb : Nat → List Nat) (us : Nat → Nat) (C : CS) : Nat → CS
  | 0 => C
  | m + 1 => cS cb us (cSn cb us C m)
/-- what a step wants -/
def cOK (cb : Nat → List Nat) (us : Nat → Nat) (C : CS) : Prop := C.1.Nodup ∧ C.2.2.2.2.1 < C.1.length ∧ C.1.getD C.2.2.2.2.1 0 ≠ C.2.2.1 ∧ (∀ k ∈ C.2.2.2.1, k ≤ C.2.2.1) ∧ (C.2.1 (C.1.getD C.2.2.2.2.1 0)).Nodup ∧ (∀ n ∈ C.2.1 (C.1.getD C.2.2.2.2.1 0), 1 ≤ (cb n).length ∧ (cb n).length ≤ 128) ∧ C.2.2.2.2.2 < 1000000 ∧
  ∀ m, m < (usd us (C.2.1 (C.1.getD C.2.2.2.2.1 0))).length → (pSs cb (C.1.eraseIdx C.2.2.2.2.1, C.2.1, C.2.2.1) ((usd us (C.2.1 (C.1.getD C.2.2.2.2.1 0))).take m)).2.2 + 1 < 1000000 ∧ (pSs cb (C.1.eraseIdx C.2.2.2.2.1, C.2.1, C.2.2.1) ((usd us (C.2.1 (C.1.getD C.2.2.2.2.1 0))).take m)).1.length < 1500 ∧ ((pSs cb (C.1.eraseIdx C.2.2.2.2.1, C.2.1, C.2.2.1) ((usd us (C.2.1 (C.1.getD C.2.2.2.2.1 0))).take m)).2.1 (pSs cb (C.1.eraseIdx C.2.2.2.2.1, C.2.1, C.2.2.1) ((usd us (C.2.1 (C.1.getD C.2.2.2.2.1 0))).take m)).2.2).length ≤ byS cb ((pSs cb (C.1.eraseIdx C.2.2.2.2.1, C.2.1, C.2.2.1) ((usd us (C.2.1 (C.1.getD C.2.2.2.2.1 0))).take m)).2.1 (pSs cb (C.1.eraseIdx C.2.2.2.2.1, C.2.1, C.2.2.1) ((usd us (C.2.1 (C.1.getD C.2.2.2.2.1 0))).take m)).2.2)
theorem mem_era {xs : List Nat} {p x : Nat} (h : x ∈ xs) (hp : p < xs.length) (hne : xs.getD p 0 ≠ x) : x ∈ xs.eraseIdx p := by
  rw [List.mem_eraseIdx_iff_getElem?]
  obtain ⟨i, hi, e⟩ := List.mem_iff_getElem.mp h
  refine ⟨i, fun e2 => ?_, by rw [List.getElem?_eq_getElem hi, e]⟩
  subst e2
  rw [List.getD_eq_getElem?_getD, List.getElem?_eq_getElem hi] at hne
  exact hne e
theorem nmem_era {xs : List Nat} {p : Nat} (h : xs.Nodup) (hp : p < xs.length) : xs.getD p 0 ∉ xs.eraseIdx p := by
  rw [List.mem_eraseIdx_iff_getElem?]
  rintro ⟨i, hi, e⟩
  have hil : i < xs.length := by
    by_cases q : i < xs.length
    · exact q
    · rw [List.getElem?_eq_none (by omega)] at e; cases e
  refine nd_ne h hil hp hi ?_
  rw [List.getD_eq_getElem?_getD, e]
  rfl
/-- one step of the loop, at the machine -/
theorem col1 {n m p f : Nat} (hw : wf T) (h : SH T s ba ca cb us bl co op cs hi re st) (hk : cOK cb us (bl, co, op, cs, p, f)) (hm : m < n) (hn : n < 100000) : ∃ (ba1 : Nat → Nat) (T' : TS), SH T' s ba1 ca cb us (cS cb us (bl, co, op, cs, p, f)).1 (cS cb us (bl, co, op, cs, p, f)).2.1 (cS cb us (bl, co, op, cs, p, f)).2.2.1 (cS cb us (bl, co, op, cs, p, f)).2.2.2.1 hi re st ∧ (∃ n u, fr (shM s ba ca bl co) n u T T') ∧ am (9 * (p + 1 - (cS cb us (bl, co, op, cs, p, f)).2.2.2.2.1)) (477 * (p + 1 - (cS cb us (bl, co, op, cs, p, f)).2.2.2.2.1)) T T' (ba op) (ba1 (cS cb us (bl, co, op, cs, p, f)).2.2.1) op (cS cb us (bl, co, op, cs, p, f)).2.2.1 ∧ (∀ a, shM s ba1 ca (cS cb us (bl, co, op, cs, p, f)).1 (cS cb us (bl, co, op, cs, p, f)).2.1 a → shM s ba ca bl co a ∨ tn T ≤ a) ∧ ∀ Q : Post, Ev (d + 4) MX4_collectGarbage [] 17 [(4, .int (nI (m + 1))), (3, .int (nI (cS cb us (bl, co, op, cs, p, f)).2.2.2.2.2)), (2, .int (nI (cS cb us (bl, co, op, cs, p, f)).2.2.2.2.1)), (1, .int (nI n)), (0, .ref s)] [] T' Q → Ev (d + 4) MX4_collectGarbage [] 17 [(4, .int (nI m)), (3, .int (nI f)), (2, .int (nI p)), (1, .int (nI n)), (0, .ref s)] [] T Q := by
  obtain ⟨o1, o2, o3, o4, o5, o6, o7, o8⟩ := hk
  simp only at o1 o2 o3 o4 o5 o6 o7 o8
  have hx := gD_mem o2
  have hbx := (h.2.2.1 _ hx).1
  have hxo := (h.2.2.1 _ hx).2
  unfold cS
  simp only
  generalize hxe : bl.getD p 0 = x at *
  obtain ⟨⟨q1, q2, q3⟩, q4, q5, q6, q7, q8, q9⟩ := hbx
  have hN := C_neededBytes (d := d + 2) (b := ba x) ⟨q1, q2, q3⟩ (fun n hn => (q9 n hn).1)
  have hle := live_le us cb (co x)
  have hlv : ((co x).map (liveB us cb)).sum = lvS us cb (co x) := rfl
  rw [hlv] at hN hle
  obtain ⟨⟨h1, h2, h3, h4, h5, h6, h7⟩, ⟨l1, l2⟩, -⟩ := id h
  have hl1 := l1.1
  have hlen := h.lens.1
  obtain ⟨s1, s2, s3⟩ := h.ks
  by_cases c : 2 * lvS us cb (co x) < byS cb (co x)
  · simp only [if_pos c]
    have hop := mem_era (p := p) h.2.2.2.1 o2 (by rw [hxe]; exact o3)
    have hxn := nmem_era o1 o2
    rw [hxe] at hxn
    have g1 := h.rem hop
    have F1 := fr_sL (W := fun a => a = s + 1) (a := s + 1) (xs := (bl.eraseIdx p).map ba) hw rfl
    have hbx1 : boxO (sL (s + 1) ((bl.eraseIdx p).map ba) T) ba ca cb us x (co x) := by
      refine boxO.of ⟨⟨q1, q2, q3⟩, q4, q5, q6, q7, q8, q9⟩ (ce_sL (neK q1 s2 (by decide))) (ce_sL (fun e => neK q1 s1 (by decide) (by omega))) (fun n hn => ?_)
      obtain ⟨d1, d2, d3, d4⟩ := (q9 n hn).1.ks
      exact ⟨ce_sL (neK d1 s2 (by decide)), ce_sL (neK d2 s2 (by decide)), ce_sL (neK d3 s2 (by decide)), ce_sL (neK d4 s2 (by decide))⟩
    have hndf : ((co x).filter (fun n => decide (0 < us n))).Nodup := o5.filter _
    have hni : ∀ n ∈ co x, ∀ k ∈ bl.eraseIdx p, n ∉ co k := fun n hn k hk q => by
      have := (h.ni hx hn (List.mem_of_mem_eraseIdx hk) q rfl).2
      exact hxn (this ▸ hk)
    obtain ⟨_, T2, c2, rfl, ba1, e1, e2, e3, e4, e5, e6⟩ := C_empty (d := d) (x := x) F1.ok g1 hbx1 hxn hxo o4 hndf hni o6 o8
    have nbx : ¬ (shM s ba ca (bl.eraseIdx p) co (ba x) ∨ ∃ n ∈ co x, ba x = ca n) := by
      rintro (q | ⟨n, hn, q⟩)
      · exact g1.nb hbx1.1.1 hbx1.2.1 q8 hxn q
      · exact neK q1 (q9 n hn).1.1 (by decide) q
    have cx : cell T2 (ba x) = cell T (ba x) := (e3.ce hbx1.1.1 nbx).trans (ce_sL (neK q1 s2 (by decide)))
    have W2 : ∀ a, (shM s ba ca (bl.eraseIdx p) co a ∨ ∃ n ∈ co x, a = ca n) → shM s ba ca bl co a := by
      rintro a ((q | q | q | ⟨k, hk, q⟩) | ⟨n, hn, q⟩)
      · exact Or.inl q
      · exact Or.inr (Or.inl q)
      · exact Or.inr (Or.inr (Or.inl q))
      · exact Or.inr (Or.inr (Or.inr ⟨k, List.mem_of_mem_eraseIdx hk, q⟩))
      · exact Or.inr (Or.inr (Or.inr ⟨x, hx, Or.inr (Or.inr ⟨n, hn, q⟩)⟩))
    have FF := (F1.wd (W' := shM s ba ca bl co) (Nat.le_refl _) (Nat.le_refl _) (fun a _ e => Or.inr (Or.inl e))).nw hw e3 (fun a q => Or.inl (W2 a q))
    have m0 : am 0 0 T (sL (s + 1) ((bl.eraseIdx p).map ba) T) (ba op) (ba op) op op := ⟨Nat.le_refl _, Nat.le_refl _⟩
    refine ⟨ba1, T2, e1, ⟨_, _, FF⟩, (m0.tr e4).by (by omega) (by omega), fun a ha => ?_, fun Q hQ => ?_⟩
    · rcases e6 a ha with q | q
      · exact Or.inl (W2 a q)
      · exact Or.inr q
    · have y1 : tK (sL (s + 1) ((bl.eraseIdx p).map ba) T) s = 6 := s1
      have y2 : tK (sL (s + 1) ((bl.eraseIdx p).map ba) T) (ba x) = 3 := q1
      have y3 : tK T2 (ba x) = 3 := by rw [ce_K cx]; exact q1
      have y4 : tI T2 66 (ba x) = nI (byS cb (co x)) := by rw [ce_I cx]; exact q5
      rw [ev_iload (M := MX4_collectGarbage) dX4_collectGarbage_17 (pc' := 19) rfl]
      clear e1 e2 e3 e4 e5 e6 FF W2 cx nbx hni hndf hbx1 F1 g1 hxn hop o1 o3 o4 o5 o6 o8 q9 m0
      have hN' := Call_up hN (show d + 2 + 2 ≤ d + 4 by omega)
      clear hN hlv s1 s2 s3 h h4 h5 h6 h7 l2 q2 q3 q4 q6 o7 hx
      simp (disch := omega) only [ev_iload_n (M := MX4_collectGarbage) (k := 1) rfl dX4_collectGarbage_19 (pc' := 20) rfl, ev_icmp_ge (M := MX4_collectGarbage) (t := 104) dX4_collectGarbage_20 (by decide) (pc' := 23) rfl, ev_iload_n (M := MX4_collectGarbage) (k := 2) rfl dX4_collectGarbage_23 (pc' := 24) rfl, ev_aload_n (M := MX4_collectGarbage) (k := 0) rfl dX4_collectGarbage_24 (pc' := 25) rfl, ev_getR (M := MX4_collectGarbage) (f := 160) (kk := 6) f_5_12 rfl rfl rfl dX4_collectGarbage_25 (pc' := 28) rfl, ev_cL0 (M := MX4_collectGarbage) dX4_collectGarbage_28 c_5_44 mJx4a65c_size_8abf5 rfl rfl rfl (pc' := 31) rfl, ev_icmp_ge (M := MX4_collectGarbage) (t := 104) dX4_collectGarbage_31 (by decide) (pc' := 34) rfl, ev_aload_n (M := MX4_collectGarbage) (k := 0) rfl dX4_collectGarbage_34 (pc' := 35) rfl, ev_getR (M := MX4_collectGarbage) (f := 160) (kk := 6) f_5_12 rfl rfl rfl dX4_collectGarbage_35 (pc' := 38) rfl, ev_iload_n (M := MX4_collectGarbage) (k := 2) rfl dX4_collectGarbage_38 (pc' := 39) rfl, ev_cL1 (M := MX4_collectGarbage) dX4_collectGarbage_39 c_5_55 mJx4a65c_get_915e3 rfl rfl rfl (pc' := 42) rfl, ev_cast (M := MX4_collectGarbage) (c := 2) (kk := 3) k_5_21 (by decide) (by decide) rfl dX4_collectGarbage_42 (pc' := 45) rfl, ev_astore (M := MX4_collectGarbage) dX4_collectGarbage_45 (by decide) (pc' := 47) rfl, ev_astoreN (M := MX4_collectGarbage) dX4_collectGarbage_45 (by decide) (pc' := 47) rfl, ev_aload (M := MX4_collectGarbage) dX4_collectGarbage_47 (pc' := 49) rfl, ev_cV0 (M := MX4_collectGarbage) (kk := 3) dX4_collectGarbage_49 c_5_73 mX1_neededBytes rfl rfl (by decide) rfl (pc' := 52) rfl, ev_istore (M := MX4_collectGarbage) dX4_collectGarbage_52 (by decide) (pc' := 54) rfl, ev_iconst (M := MX4_collectGarbage) (v := (nI 2)) rfl dX4_collectGarbage_54 (pc' := 55) rfl, ev_iload (M := MX4_collectGarbage) dX4_collectGarbage_55 (pc' := 57) rfl, ev_imul (M := MX4_collectGarbage) dX4_collectGarbage_57 (pc' := 58) rfl, ev_aload (M := MX4_collectGarbage) dX4_collectGarbage_58 (pc' := 60) rfl, ev_cV0 (M := MX4_collectGarbage) (kk := 3) dX4_collectGarbage_60 c_5_70 mX1_filled rfl rfl (by decide) rfl (pc' := 63) rfl, ev_icmp_ge (M := MX4_collectGarbage) (t := 95) dX4_collectGarbage_63 (by decide) (pc' := 66) rfl, ev_aload_n (M := MX4_collectGarbage) (k := 0) rfl dX4_collectGarbage_66 (pc' := 67) rfl, ev_aload_n (M := MX1_filled) (k := 0) rfl dX1_filled_0 (pc' := 1) rfl, ev_getI (M := MX1_filled) (f := 66) (kk := 3) f_2_22 rfl rfl rfl dX1_filled_1 (pc' := 4) rfl, ev_iret (M := MX1_filled) rfl dX1_filled_4, uX1_filled, lI_some, lJ_some, lR_ref, lR_null, lD_some, lget_cons, ldel_cons, ldel_nil, evR_v, evR_0, evR_x, vrf_s, vrf_n, Value.category, Nat.reduceEqDiff, Nat.reduceAdd, Nat.reduceSub, Nat.reduceMul, Nat.reduceLeDiff, reduceIte, if_true, if_false, or_self, or_false, false_or, or_true, true_or, and_self, and_true, true_and, and_false, false_and, not_true_eq_false, not_false_eq_true, List.length_cons, List.length_nil, Nat.zero_le, Nat.add_eq_zero_iff, Nat.succ_ne_zero, Nat.zero_add, Nat.add_zero, nle_t, nle_f, nlt_t, nlt_f, neq_t, neq_f, i_lt0, i_le0, i_0le, i_0lt, i_eq0, i_lt, i_le, i_eq, nI_add, i_sub, i_cl, i_m1a, i_m1b, i_m1c, i_m1d, i_m1e, i_am1, i_ite0, h1, h2, hl1, c_lsizem l1, c_lgetm l1, hxe, q1, q5, cq hN', i_mul]
      simp (disch := omega) only [ev_getR (M := MX4_collectGarbage) (f := 160) (kk := 6) f_5_12 rfl rfl rfl dX4_collectGarbage_67 (pc' := 70) rfl, ev_iload_n (M := MX4_collectGarbage) (k := 2) rfl dX4_collectGarbage_70 (pc' := 71) rfl, ev_cL1 (M := MX4_collectGarbage) dX4_collectGarbage_71 c_5_120 mJx4a65c_remove_915e3 rfl rfl rfl (pc' := 74) rfl, ev_popI (M := MX4_collectGarbage) dX4_collectGarbage_74 (pc' := 75) rfl, ev_popR (M := MX4_collectGarbage) dX4_collectGarbage_74 (pc' := 75) rfl, ev_aload_n (M := MX4_collectGarbage) (k := 0) rfl dX4_collectGarbage_75 (pc' := 76) rfl, ev_aload (M := MX4_collectGarbage) dX4_collectGarbage_76 (pc' := 78) rfl, ev_cV1 (M := MX4_collectGarbage) (kk := 6) dX4_collectGarbage_78 c_5_123 mX4_empty rfl rfl (by decide) rfl (pc' := 81) rfl, ev_iload_n (M := MX4_collectGarbage) (k := 3) rfl dX4_collectGarbage_81 (pc' := 82) rfl, ev_aload (M := MX4_collectGarbage) dX4_collectGarbage_82 (pc' := 84) rfl, ev_cV0 (M := MX4_collectGarbage) (kk := 3) dX4_collectGarbage_84 c_5_70 mX1_filled rfl rfl (by decide) rfl (pc' := 87) rfl, ev_iload (M := MX4_collectGarbage) dX4_collectGarbage_87 (pc' := 89) rfl, ev_isub (M := MX4_collectGarbage) dX4_collectGarbage_89 (pc' := 90) rfl, ev_iadd (M := MX4_collectGarbage) dX4_collectGarbage_90 (pc' := 91) rfl, ev_istore_n (M := MX4_collectGarbage) (k := 3) rfl dX4_collectGarbage_91 (by decide) (pc' := 92) rfl, ev_goto (M := MX4_collectGarbage) (pc' := 98) dX4_collectGarbage_92 (by decide), ev_iinc (M := MX4_collectGarbage) (v := (nI 1)) rfl dX4_collectGarbage_95 (by decide) (pc' := 98) rfl, ev_iinc (M := MX4_collectGarbage) (v := (nI 1)) rfl dX4_collectGarbage_98 (by decide) (pc' := 101) rfl, ev_goto (M := MX4_collectGarbage) (pc' := 17) dX4_collectGarbage_101 (by decide), ev_aload_n (M := MX1_filled) (k := 0) rfl dX1_filled_0 (pc' := 1) rfl, ev_getI (M := MX1_filled) (f := 66) (kk := 3) f_2_22 rfl rfl rfl dX1_filled_1 (pc' := 4) rfl, ev_iret (M := MX1_filled) rfl dX1_filled_4, uX1_filled, lI_some, lJ_some, lR_ref, lR_null, lD_some, lget_cons, ldel_cons, ldel_nil, evR_v, evR_0, evR_x, vrf_s, vrf_n, Value.category, Nat.reduceEqDiff, Nat.reduceAdd, Nat.reduceSub, Nat.reduceMul, Nat.reduceLeDiff, reduceIte, if_true, if_false, or_self, or_false, false_or, or_true, true_or, and_self, and_true, true_and, and_false, false_and, not_true_eq_false, not_false_eq_true, List.length_cons, List.length_nil, Nat.zero_le, Nat.add_eq_zero_iff, Nat.succ_ne_zero, Nat.zero_add, Nat.add_zero, nle_t, nle_f, nlt_t, nlt_f, neq_t, neq_f, i_lt0, i_le0, i_0le, i_0lt, i_eq0, i_lt, i_le, i_eq, nI_add, i_sub, i_cl, i_m1a, i_m1b, i_m1c, i_m1d, i_m1e, i_am1, i_ite0, h1, h2, hl1, c_lremm l1, y1, y2, y3, y4, cq c2]
      exact ev_more (by repeat (first | exact trivial | refine ⟨rfl, ?_⟩)) (by exact rfl) (by exact rfl) hQ
  · simp only [if_neg c]
    refine ⟨ba, T, h, ⟨_, _, fr.rf hw⟩, ⟨by omega, by omega⟩, fun a ha => Or.inl ha, fun Q hQ => ?_⟩
    rw [ev_iload (M := MX4_collectGarbage) dX4_collectGarbage_17 (pc' := 19) rfl]
    clear o1 o3 o4 o5 o6 o8 q9
    simp (disch := omega) only [ev_aload_n (M := MX4_collectGarbage) (k := 0) rfl dX4_collectGarbage_0 (pc' := 1) rfl, ev_getR (M := MX4_collectGarbage) (f := 160) (kk := 6) f_5_12 rfl rfl rfl dX4_collectGarbage_1 (pc' := 4) rfl, ev_cL0 (M := MX4_collectGarbage) dX4_collectGarbage_4 c_5_44 mJx4a65c_size_8abf5 rfl rfl rfl (pc' := 7) rfl, ev_iconst (M := MX4_collectGarbage) (v := (nI 1)) rfl dX4_collectGarbage_7 (pc' := 8) rfl, ev_isub (M := MX4_collectGarbage) dX4_collectGarbage_8 (pc' := 9) rfl, ev_istore_n (M := MX4_collectGarbage) (k := 1) rfl dX4_collectGarbage_9 (by decide) (pc' := 10) rfl, ev_iconst (M := MX4_collectGarbage) (v := (nI 0)) rfl dX4_collectGarbage_10 (pc' := 11) rfl, ev_istore_n (M := MX4_collectGarbage) (k := 2) rfl dX4_collectGarbage_11 (by decide) (pc' := 12) rfl, ev_iconst (M := MX4_collectGarbage) (v := (nI 0)) rfl dX4_collectGarbage_12 (pc' := 13) rfl, ev_istore_n (M := MX4_collectGarbage) (k := 3) rfl dX4_collectGarbage_13 (by decide) (pc' := 14) rfl, ev_iconst (M := MX4_collectGarbage) (v := (nI 0)) rfl dX4_collectGarbage_14 (pc' := 15) rfl, ev_istore (M := MX4_collectGarbage) dX4_collectGarbage_15 (by decide) (pc' := 17) rfl, ev_iload_n (M := MX4_collectGarbage) (k := 1) rfl dX4_collectGarbage_19 (pc' := 20) rfl, ev_icmp_ge (M := MX4_collectGarbage) (t := 104) dX4_collectGarbage_20 (by decide) (pc' := 23) rfl, ev_iload_n (M := MX4_collectGarbage) (k := 2) rfl dX4_collectGarbage_23 (pc' := 24) rfl, ev_aload_n (M := MX4_collectGarbage) (k := 0) rfl dX4_collectGarbage_24 (pc' := 25) rfl, ev_getR (M := MX4_collectGarbage) (f := 160) (kk := 6) f_5_12 rfl rfl rfl dX4_collectGarbage_25 (pc' := 28) rfl, ev_cL0 (M := MX4_collectGarbage) dX4_collectGarbage_28 c_5_44 mJx4a65c_size_8abf5 rfl rfl rfl (pc' := 31) rfl, ev_icmp_ge (M := MX4_collectGarbage) (t := 104) dX4_collectGarbage_31 (by decide) (pc' := 34) rfl, ev_aload_n (M := MX4_collectGarbage) (k := 0) rfl dX4_collectGarbage_34 (pc' := 35) rfl, ev_getR (M := MX4_collectGarbage) (f := 160) (kk := 6) f_5_12 rfl rfl rfl dX4_collectGarbage_35 (pc' := 38) rfl, ev_iload_n (M := MX4_collectGarbage) (k := 2) rfl dX4_collectGarbage_38 (pc' := 39) rfl, ev_cL1 (M := MX4_collectGarbage) dX4_collectGarbage_39 c_5_55 mJx4a65c_get_915e3 rfl rfl rfl (pc' := 42) rfl, ev_cast (M := MX4_collectGarbage) (c := 2) (kk := 3) k_5_21 (by decide) (by decide) rfl dX4_collectGarbage_42 (pc' := 45) rfl, ev_astore (M := MX4_collectGarbage) dX4_collectGarbage_45 (by decide) (pc' := 47) rfl, ev_astoreN (M := MX4_collectGarbage) dX4_collectGarbage_45 (by decide) (pc' := 47) rfl, ev_aload (M := MX4_collectGarbage) dX4_collectGarbage_47 (pc' := 49) rfl, ev_cV0 (M := MX4_collectGarbage) (kk := 3) dX4_collectGarbage_49 c_5_73 mX1_neededBytes rfl rfl (by decide) rfl (pc' := 52) rfl, ev_istore (M := MX4_collectGarbage) dX4_collectGarbage_52 (by decide) (pc' := 54) rfl, ev_iconst (M := MX4_collectGarbage) (v := (nI 2)) rfl dX4_collectGarbage_54 (pc' := 55) rfl, ev_iload (M := MX4_collectGarbage) dX4_collectGarbage_55 (pc' := 57) rfl, ev_imul (M := MX4_collectGarbage) dX4_collectGarbage_57 (pc' := 58) rfl, ev_aload (M := MX4_collectGarbage) dX4_collectGarbage_58 (pc' := 60) rfl, ev_cV0 (M := MX4_collectGarbage) (kk := 3) dX4_collectGarbage_60 c_5_70 mX1_filled rfl rfl (by decide) rfl (pc' := 63) rfl, ev_icmp_ge (M := MX4_collectGarbage) (t := 95) dX4_collectGarbage_63 (by decide) (pc' := 66) rfl, ev_aload_n (M := MX4_collectGarbage) (k := 0) rfl dX4_collectGarbage_66 (pc' := 67) rfl, ev_getR (M := MX4_collectGarbage) (f := 160) (kk := 6) f_5_12 rfl rfl rfl dX4_collectGarbage_67 (pc' := 70) rfl, ev_iload_n (M := MX4_collectGarbage) (k := 2) rfl dX4_collectGarbage_70 (pc' := 71) rfl, ev_cL1 (M := MX4_collectGarbage) dX4_collectGarbage_71 c_5_120 mJx4a65c_remove_915e3 rfl rfl rfl (pc' := 74) rfl, ev_popI (M := MX4_collectGarbage) dX4_collectGarbage_74 (pc' := 75) rfl, ev_popR (M := MX4_collectGarbage) dX4_collectGarbage_74 (pc' := 75) rfl, ev_aload_n (M := MX4_collectGarbage) (k := 0) rfl dX4_collectGarbage_75 (pc' := 76) rfl, ev_aload (M := MX4_collectGarbage) dX4_collectGarbage_76 (pc' := 78) rfl, ev_cV1 (M := MX4_collectGarbage) (kk := 6) dX4_collectGarbage_78 c_5_123 mX4_empty rfl rfl (by decide) rfl (pc' := 81) rfl, ev_iload_n (M := MX4_collectGarbage) (k := 3) rfl dX4_collectGarbage_81 (pc' := 82) rfl, ev_aload (M := MX4_collectGarbage) dX4_collectGarbage_82 (pc' := 84) rfl, ev_cV0 (M := MX4_collectGarbage) (kk := 3) dX4_collectGarbage_84 c_5_70 mX1_filled rfl rfl (by decide) rfl (pc' := 87) rfl, ev_iload (M := MX4_collectGarbage) dX4_collectGarbage_87 (pc' := 89) rfl, ev_isub (M := MX4_collectGarbage) dX4_collectGarbage_89 (pc' := 90) rfl, ev_iadd (M := MX4_collectGarbage) dX4_collectGarbage_90 (pc' := 91) rfl, ev_istore_n (M := MX4_collectGarbage) (k := 3) rfl dX4_collectGarbage_91 (by decide) (pc' := 92) rfl, ev_goto (M := MX4_collectGarbage) (pc' := 98) dX4_collectGarbage_92 (by decide), ev_iinc (M := MX4_collectGarbage) (v := (nI 1)) rfl dX4_collectGarbage_95 (by decide) (pc' := 98) rfl, ev_iinc (M := MX4_collectGarbage) (v := (nI 1)) rfl dX4_collectGarbage_98 (by decide) (pc' := 101) rfl, ev_goto (M := MX4_collectGarbage) (pc' := 17) dX4_collectGarbage_101 (by decide), ev_iload_n (M := MX4_collectGarbage) (k := 3) rfl dX4_collectGarbage_104 (pc' := 105) rfl, ev_iret (M := MX4_collectGarbage) rfl dX4_collectGarbage_105, ev_aload_n (M := MX1_filled) (k := 0) rfl dX1_filled_0 (pc' := 1) rfl, ev_getI (M := MX1_filled) (f := 66) (kk := 3) f_2_22 rfl rfl rfl dX1_filled_1 (pc' := 4) rfl, ev_iret (M := MX1_filled) rfl dX1_filled_4, uX1_filled, lI_some, lJ_some, lR_ref, lR_null, lD_some, lget_cons, ldel_cons, ldel_nil, evR_v, evR_0, evR_x, vrf_s, vrf_n, Value.category, Nat.reduceEqDiff, Nat.reduceAdd, Nat.reduceSub, Nat.reduceMul, Nat.reduceLeDiff, reduceIte, if_true, if_false, or_self, or_false, false_or, or_true, true_or, and_self, and_true, true_and, and_false, false_and, not_true_eq_false, not_false_eq_true, List.length_cons, List.length_nil, Nat.zero_le, Nat.add_eq_zero_iff, Nat.succ_ne_zero, Nat.zero_add, Nat.add_zero, nle_t, nle_f, nlt_t, nlt_f, neq_t, neq_f, i_lt0, i_le0, i_0le, i_0lt, i_eq0, i_lt, i_le, i_eq, nI_add, i_sub, i_cl, i_m1a, i_m1b, i_m1c, i_m1d, i_m1e, i_am1, i_ite0, h1, h2, hl1, c_lsizem l1, c_lgetm l1, hxe, q1, q5, cq (Call_up hN (show d + 2 + 2 ≤ d + 4 by omega)), i_mul]
    exact ev_more (by repeat (first | exact trivial | refine ⟨rfl, ?_⟩)) (by exact rfl) (by exact rfl) hQ
end COL
