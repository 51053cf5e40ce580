/-! the law's forgets -/
section FGT
variable {d S X G L n0 u0 c : Nat} {va ba ca : Nat → Nat} {dr kl : List Nat} {vf vn : Nat → Nat} {vb ve : Nat → List Nat} {vp : Nat → Option Nat} {nx na : Nat → Nat} {sv : Nat} {cb : Nat → List Nat} {us : Nat → Nat} {bl cs : List Nat} {co : Nat → List Nat} {op hi re st : Nat} {rw : List Nat} {bx : Nat → Nat} {ud : Nat} {T T' T1 T2 : TS} {Q : Post}
section Z
variable {j v s b n b' : Nat}
theorem Z_fo1 (k8 : tK T X = 8) (g1 : tK T G = 22) (g2 : tl T G = 7) (hj : j < 6) (hv : v < 64) (c1 : Call (d + 5) 113 [.ref X] T (.inl (some (.int (nI s)))) T) (c2 : Call (d + 5) 115 [.ref X] T (.inl (some (.int (nI b)))) T) (hq : Ev (d + 5) ML_forgets [] 25 [(5, .int (nI b)), (4, .int (nI s)), (0, .ref X), (1, .ref G), (2, .int (nI j)), (3, .int (nI v))] [] (sJ G j (tJ T G j &&& ((1 <<< ((nI v).toInt64 &&& 63)) ^^^ (-1))) T) Q) : Ev (d + 5) ML_forgets [] 0 [(0, .ref X), (1, .ref G), (2, .int (nI j)), (3, .int (nI v))] [] T Q := by
  refine eN_aload_n (M := ML_forgets) (k := 0) rfl dL_forgets_0 (pc' := 1) rfl rfl ?_
  refine (ev_cV0 (M := ML_forgets) (kk := 8) dL_forgets_1 c_9_101 mX6_storedBytes rfl rfl (by decide) rfl (pc' := 4) rfl).mpr ⟨(by assumption), (Nat.le_of_ble_eq_true rfl), eN_c c1 (by first | rfl | (simp (disch := omega) only [nI_add, i_sub]) | (simp only [*])) ?_⟩
  refine (ev_istore (M := ML_forgets) dL_forgets_4 (by decide) (pc' := 6) rfl).mpr ?_
  refine eN_aload_n (M := ML_forgets) (k := 0) rfl dL_forgets_6 (pc' := 7) rfl rfl ?_
  refine (ev_cV0 (M := ML_forgets) (kk := 8) dL_forgets_7 c_9_104 mX6_garbage rfl rfl (by decide) rfl (pc' := 10) rfl).mpr ⟨(by assumption), (Nat.le_of_ble_eq_true rfl), eN_c c2 (by first | rfl | (simp (disch := omega) only [nI_add, i_sub]) | (simp only [*])) ?_⟩
  refine (ev_istore (M := ML_forgets) dL_forgets_10 (by decide) (pc' := 12) rfl).mpr ?_
  refine eN_aload_n (M := ML_forgets) (k := 1) rfl dL_forgets_12 (pc' := 13) rfl rfl ?_
  refine eN_iload_n (M := ML_forgets) (k := 2) rfl dL_forgets_13 (pc' := 14) rfl rfl ?_
  refine (ev_dup2 (M := ML_forgets) dL_forgets_14 (pc' := 15) rfl).mpr ?_
  refine eN_laload (M := ML_forgets) dL_forgets_15 (pc' := 16) rfl (by assumption) (by assumption) (by omega) ?_
  refine (ev_lconst (M := ML_forgets) (v := 1) rfl dL_forgets_16 (pc' := 17) rfl).mpr ?_
  refine eN_iload_n (M := ML_forgets) (k := 3) rfl dL_forgets_17 (pc' := 18) rfl rfl ?_
  refine (ev_lshl (M := ML_forgets) dL_forgets_18 (pc' := 19) rfl).mpr ?_
  refine (ev_ldc2 (M := ML_forgets) rfl dL_forgets_19 (pc' := 22) rfl).mpr ?_
  refine (ev_lxor (M := ML_forgets) dL_forgets_22 (pc' := 23) rfl).mpr ?_
  refine (ev_land (M := ML_forgets) dL_forgets_23 (pc' := 24) rfl).mpr ?_
  refine eN_lastore (M := ML_forgets) dL_forgets_24 (pc' := 25) rfl (by assumption) (by assumption) (by omega) ?_
  exact ev_more (by repeat (first | exact trivial | refine ⟨rfl, ?_⟩)) (by exact rfl) (by exact rfl) hq
theorem Z_fo2 (k8 : tK T X = 8) (k8' : tK T' X = 8) (hs : s < 1000000) (hb : b < 1000000) (hb' : b' < 1000000) (hbb : b ≤ b') (hn : n < 1000) (c1 : Call (d + 5) 89 [.ref X, .int (nI j), .int (nI v)] T (.inl (some (.int (nI n)))) T') (c2 : Call (d + 5) 131 [.ref G] T' (.inl (some (.int (nI n)))) T') (c3 : Call (d + 5) 113 [.ref X] T' (.inl (some (.int (nI s)))) T') (c4 : Call (d + 5) 115 [.ref X] T' (.inl (some (.int (nI b')))) T') (hQ : Q (.inl (some (.int (nI 1)))) T') : Ev (d + 5) ML_forgets [] 25 [(5, .int (nI b)), (4, .int (nI s)), (0, .ref X), (1, .ref G), (2, .int (nI j)), (3, .int (nI v))] [] T Q := by
  refine eN_aload_n (M := ML_forgets) (k := 0) rfl dL_forgets_25 (pc' := 26) rfl rfl ?_
  refine eN_iload_n (M := ML_forgets) (k := 2) rfl dL_forgets_26 (pc' := 27) rfl rfl ?_
  refine eN_iload_n (M := ML_forgets) (k := 3) rfl dL_forgets_27 (pc' := 28) rfl rfl ?_
  refine (ev_cV2 (M := ML_forgets) (kk := 8) dL_forgets_28 c_9_137 mX6_forget rfl rfl (by decide) rfl (pc' := 31) rfl).mpr ⟨(by assumption), (Nat.le_of_ble_eq_true rfl), eN_c c1 (by first | rfl | (simp (disch := omega) only [nI_add, i_sub]) | (simp only [*])) ?_⟩
  refine eN_aload_n (M := ML_forgets) (k := 1) rfl dL_forgets_31 (pc' := 32) rfl rfl ?_
  refine (ev_cS1 (M := ML_forgets) dL_forgets_32 c_9_140 (by decide) mL_many rfl rfl (pc' := 35) rfl).mpr ⟨(Nat.le_of_ble_eq_true rfl), eN_c c2 (by first | rfl | (simp (disch := omega) only [nI_add, i_sub]) | (simp only [*])) ?_⟩
  refine (ev_icmp_ne (M := ML_forgets) (t := 60) dL_forgets_35 (by decide) (pc' := 38) rfl).mpr (ifF (by first | assumption | omega | rfl | exact fun q => q (by assumption) | exact fun q => q rfl | (simp (disch := omega) only [nle_t, nle_f, nlt_t, nlt_f, neq_t, neq_f, i_lt0, i_le0, i_0le, i_0lt, i_eq0, i_lt, i_le, i_eq, nI_add, i_sub, i_cl, i_m1a, i_m1b, i_m1c, i_m1d, i_m1e, i_am1, i_ite0, m1_le, m1_m1, m1_ge0, not_true_eq_false, not_false_eq_true, or_self, or_false, false_or, or_true, true_or, and_self, and_true, true_and])) ?_)
  refine eN_aload_n (M := ML_forgets) (k := 0) rfl dL_forgets_38 (pc' := 39) rfl rfl ?_
  refine (ev_cV0 (M := ML_forgets) (kk := 8) dL_forgets_39 c_9_101 mX6_storedBytes rfl rfl (by decide) rfl (pc' := 42) rfl).mpr ⟨(by assumption), (Nat.le_of_ble_eq_true rfl), eN_c c3 (by first | rfl | (simp (disch := omega) only [nI_add, i_sub]) | (simp only [*])) ?_⟩
  refine eN_iload (M := ML_forgets) dL_forgets_42 (pc' := 44) rfl rfl ?_
  refine (ev_icmp_ne (M := ML_forgets) (t := 60) dL_forgets_44 (by decide) (pc' := 47) rfl).mpr (ifF (by first | assumption | omega | rfl | exact fun q => q (by assumption) | exact fun q => q rfl | (simp (disch := omega) only [nle_t, nle_f, nlt_t, nlt_f, neq_t, neq_f, i_lt0, i_le0, i_0le, i_0lt, i_eq0, i_lt, i_le, i_eq, nI_add, i_sub, i_cl, i_m1a, i_m1b, i_m1c, i_m1d, i_m1e, i_am1, i_ite0, m1_le, m1_m1, m1_ge0, not_true_eq_false, not_false_eq_true, or_self, or_false, false_or, or_true, true_or, and_self, and_true, true_and])) ?_)
  refine eN_aload_n (M := ML_forgets) (k := 0) rfl dL_forgets_47 (pc' := 48) rfl rfl ?_
  refine (ev_cV0 (M := ML_forgets) (kk := 8) dL_forgets_48 c_9_104 mX6_garbage rfl rfl (by decide) rfl (pc' := 51) rfl).mpr ⟨(by assumption), (Nat.le_of_ble_eq_true rfl), eN_c c4 (by first | rfl | (simp (disch := omega) only [nI_add, i_sub]) | (simp only [*])) ?_⟩
  refine eN_iload (M := ML_forgets) dL_forgets_51 (pc' := 53) rfl rfl ?_
  refine (ev_icmp_lt (M := ML_forgets) (t := 60) dL_forgets_53 (by decide) (pc' := 56) rfl).mpr (ifF (by first | assumption | omega | rfl | exact fun q => q (by assumption) | exact fun q => q rfl | (simp (disch := omega) only [nle_t, nle_f, nlt_t, nlt_f, neq_t, neq_f, i_lt0, i_le0, i_0le, i_0lt, i_eq0, i_lt, i_le, i_eq, nI_add, i_sub, i_cl, i_m1a, i_m1b, i_m1c, i_m1d, i_m1e, i_am1, i_ite0, m1_le, m1_m1, m1_ge0, not_true_eq_false, not_false_eq_true, or_self, or_false, false_or, or_true, true_or, and_self, and_true, true_and])) ?_)
  refine (ev_iconst (M := ML_forgets) (v := (nI 1)) rfl dL_forgets_56 (pc' := 57) rfl).mpr ?_
  refine (ev_goto (M := ML_forgets) (pc' := 61) dL_forgets_57 (by decide)).mpr ?_
  refine (ev_zretI (M := ML_forgets) rfl dL_forgets_61 (by omega)).mpr ?_
  exact hQ
end Z
theorem gR_off {g : Nat} (hg : gR T G kl vf vn st) (hgk : g ∈ kl) (hb : vf g < 6 ∧ vn g < 64) (hu : ∀ k ∈ kl, vf k = vf g → vn k = vn g → k = g) : gR (sJ G (vf g) (tJ T G (vf g) &&& ((1 <<< ((nI (vn g)).toInt64 &&& 63)) ^^^ (-1))) T) G (kl.filter (fun k => decide (k ≠ g))) vf vn st := by
  obtain ⟨g1, g2, g3, g4⟩ := hg
  have hin : ∀ k, k ∈ kl.filter (fun k => decide (k ≠ g)) ↔ k ∈ kl ∧ k ≠ g := fun k => by
    rw [List.mem_filter, decide_eq_true_eq]
  refine ⟨g1, g2, ?_, fun f w hf hw => ?_⟩
  · rw [tJ_sJ, up2_e, if_neg (fun q => by omega)]
    exact g3
  · rw [tJ_sJ, up2_e]
    by_cases e : f = vf g
    · subst e
      rw [if_pos ⟨rfl, rfl⟩, bL_off hw hb.2, Bool.and_eq_true, decide_eq_true_eq, g4 _ w hb.1 hw]
      constructor
      · rintro ⟨⟨k, hk, q1, q2⟩, q3⟩
        exact ⟨k, (hin k).mpr ⟨hk, fun q => q3 (by rw [← q2, q])⟩, q1, q2⟩
      · rintro ⟨k, hk, q1, q2⟩
        obtain ⟨a1, a2⟩ := (hin k).mp hk
        exact ⟨⟨k, a1, q1, q2⟩, fun q => a2 (hu k a1 q1 (by rw [q2, q]))⟩
    · rw [if_neg (fun q => e q.2), g4 f w hf hw]
      constructor
      · rintro ⟨k, hk, q1, q2⟩
        exact ⟨k, (hin k).mpr ⟨hk, fun q => e (by rw [← q1, q])⟩, q1, q2⟩
      · rintro ⟨k, hk, q1, q2⟩
        exact ⟨k, ((hin k).mp hk).1, q1, q2⟩
theorem sum_le {f g : Nat → Nat} : ∀ l : List Nat, (∀ n ∈ l, f n ≤ g n) → (l.map f).sum ≤ (l.map g).sum := by
  intro l
  induction l with
  | nil => intro _; exact Nat.le_refl _
  | cons a l ih =>
    intro h
    rw [List.map_cons, List.map_cons, List.sum_cons, List.sum_cons]
    have := ih (fun n hn => h n (List.mem_cons_of_mem _ hn))
    have := h a List.mem_cons_self
    omega
theorem gar_le {U : Nat → Nat} : (rw.map (fun n => if U n = 0 then (cb n).length else 0)).sum ≤ byS cb rw := sum_le rw (fun n _ => by split <;> omega)
theorem C_forgets {g : Nat} (h : VK S X G L n0 u0 c na T va ba ca dr kl vf vn vb ve vp nx sv cb us bl co op cs hi re st rw bx ud) (hc : c < 512) (hg : g ∈ kl) : CallQ (d + 6) 141 [.ref X, .ref G, .int (nI (vf g)), .int (nI (vn g))] T (fun q T' => q = .inl (some (.int (nI 1))) ∧ VE S X G L n0 u0 (c + 1) na nx T') := by
  have hRV := h.2.2.1
  have hC := h.2.1
  have hw : wf T := h.2.2.2.1
  have G0 : LG S G L na kl vf vn st T := h.2.2.2.2
  have L0 := h.1
  have hK := L0.2.1
  have hb := L0.b64 hg
  have hu : ∀ k ∈ kl, vf k = vf g → vn k = vn g → k = g := fun k hk q1 q2 => pw_un hK.2.2.1 k hk g hg q1 q2
  have G1 := G0.sJ (gR_off G0.1 hg hb hu)
  have L1 : LV (sJ G (vf g) (tJ T G (vf g) &&& ((1 <<< ((nI (vn g)).toInt64 &&& 63)) ^^^ (-1))) T) X va ba ca dr kl vf vn vb ve vp nx sv cb us bl co op cs hi re st rw bx ud := L0.sJ G0.1.1
  have w1 : wf (sJ G (vf g) (tJ T G (vf g) &&& ((1 <<< ((nI (vn g)).toInt64 &&& 63)) ^^^ (-1))) T) := hw
  have A1 : am 0 0 T (sJ G (vf g) (tJ T G (vf g) &&& ((1 <<< ((nI (vn g)).toInt64 &&& 63)) ^^^ (-1))) T) (ba op) (ba op) op op := ⟨Nat.le_refl _, Nat.le_refl _⟩
  rw [uL_forgets]
  refine Z_fo1 L0.k8 G0.1.1 G0.1.2.1 hb.1 hb.2 (L0.storedBytes (d := d + 1)) (L0.garbage (d := d + 1)) ?_
  generalize sJ G (vf g) (tJ T G (vf g) &&& ((1 <<< ((nI (vn g)).toInt64 &&& 63)) ^^^ (-1))) T = T1 at *
  have hX := L1.1
  have hS := L1.2.2.1
  have hus : ∀ n ∈ rw, us n = uO kl ve n := fun n hn => (hS.2.2.1 n hn).2.2.2
  have hfo := fun n => uO_forget (ve := ve) (n := n) hK.1 hK.2.1 hg
  obtain ⟨_, T2, c1, rfl, x2, F⟩ := X_forget (d := d + 1) w1 hX (L1.fvk hg) hK.1 (pw_un hK.2.2.1) (fun n hn => by
    rw [hus n ((hK.2.2.2.2.2.2 g hg).1 n hn)]
    exact (hfo n).2)
  have hK' := hK.forget hg
  have hin : ∀ k ∈ kl.filter (fun k => decide (k ≠ g)), k ∈ kl := fun k hk => (List.mem_filter.mp hk).1
  have hP' : PV (kl.filter (fun k => decide (k ≠ g))) vf vn vb ve (fun k => if vp k = some g then none else vp k) cb cs := by
    obtain ⟨p1, p2, p3, p4, p5⟩ := L1.2.2.2.1
    refine ⟨fun k hk => p1 k (hin k hk), fun k hk => p2 k (hin k hk), fun k hk i hi => ?_, p4, fun k hk => p5 k (hin k hk)⟩
    dsimp only at hi
    split at hi
    · cases hi
    · exact p3 k (hin k hk) i hi
  have hS' : SI (uO (kl.filter (fun k => decide (k ≠ g))) ve) (dec1 us (ve g)) cb bl co op cs rw bx ud st := by
    obtain ⟨s1, s2, s3, s4, s5, s6, s7⟩ := hS
    refine ⟨s1, s2, fun n hn => ?_, s4, s5, s6, s7⟩
    obtain ⟨a1, a2, a3, a4⟩ := s3 n hn
    refine ⟨a1, a2, a3, ?_⟩
    show us n - (ve g).count n = _
    rw [(hfo n).1, a4]
  have L2 : LV T2 X va ba ca dr (kl.filter (fun k => decide (k ≠ g))) vf vn vb ve (fun k => if vp k = some g then none else vp k) nx sv cb (dec1 us (ve g)) bl co op cs hi re st rw bx ud := ⟨x2, hK', hS', hP', L1.2.2.2.2⟩
  have G2 := G1.keep hX F (fun a q => by
    rcases q with q | ⟨k, hk, q⟩ | ⟨k, hk, n, hn, q⟩
    · exact Or.inr (Or.inr (Or.inr (Or.inl q)))
    · exact Or.inr (Or.inr (Or.inr (Or.inr (Or.inr (Or.inl ⟨k, hk, Or.inl q⟩)))))
    · exact Or.inr (Or.inr (Or.inr (Or.inr (Or.inr (Or.inr (Or.inr (Or.inr (Or.inr (Or.inr ⟨k, hk, Or.inr (Or.inr ⟨n, hn, Or.inl q⟩)⟩))))))))))
  have A2 := am_fr (o := op) F (ce_c (F.ce hX.bk.2 (fun q => by
    obtain ⟨b3, b23⟩ := hX.bk
    rcases q with q | ⟨k, hk, q⟩ | ⟨k, hk, n, hn, q⟩
    · have e9 : ba op = X + 2 := by omega
      rw [e9, show tK T1 (X + 2) = 20 from hX.2.1.1.2.2.2.1] at b3
      cases b3
    · rw [q, (hX.2.2.2.1.1.2 k hk).1.1] at b23
      cases b23
    · rw [q, (hX.2.2.2.2.1.kn hk hn).1] at b23
      cases b23)))
  have hRV' := hRV.am (A1.tr A2) (bl' := bl) (by omega) (by omega)
  have hmany := G2.1.many L2
  have cm := C_many (d := d + 3) G2.1.1 G2.1.2.1
  rw [hmany] at cm
  have hbst := L1.bst
  have g1 := gar_le (rw := rw) (cb := cb) (U := uO kl ve)
  have g2 := gar_le (rw := rw) (cb := cb) (U := uO (kl.filter (fun k => decide (k ≠ g))) ve)
  have g3 := sum_le (f := fun n => if uO kl ve n = 0 then (cb n).length else 0) (g := fun n => if uO (kl.filter (fun k => decide (k ≠ g))) ve n = 0 then (cb n).length else 0) rw (fun n _ => by
    have := (hfo n).1
    by_cases e : uO kl ve n = 0
    · rw [if_pos e, if_pos (by omega)]
      exact Nat.le_refl _
    · rw [if_neg e]
      exact Nat.zero_le _)
  have hkl : (kl.filter (fun k => decide (k ≠ g))).length ≤ 20 := L2.1.2.2.2.1.2
  exact Z_fo2 L1.k8 L2.k8 (by omega) (by omega) (by omega) g3 (by omega) c1 cm (L2.storedBytes (d := d + 1)) (L2.garbage (d := d + 1)) ⟨rfl, _, _, _, _, _, _, _, _, _, _, _, _, _, _, _, _, _, _, _, _, _, _, _, L2, hC.next hc, hRV', F.ok, G2.1, G2.2.1, G2.2.2⟩
end FGT
