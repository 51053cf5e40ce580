/-! DedupVault$Shelf: empty, the loop -/
section EMQ
variable {d s : Nat} {ba ca us : Nat → Nat} {cb : Nat → List Nat} {bl cs : List Nat} {co : Nat → List Nat} {op hi re st : Nat} {T : TS}
theorem pS_in {cb : Nat → List Nat} {S : BX} {n k n' : Nat} (hop : S.2.2 ∈ S.1) (hk : k ∈ (pS cb S n).1) (hn : n' ∈ (pS cb S n).2.1 k) : n' = n ∨ ∃ k' ∈ S.1, n' ∈ S.2.1 k' := by
  obtain ⟨bl, co, op⟩ := S
  have hk : k ∈ blF cb co op (cb n).length bl := hk
  have hn : n' ∈ up1 (coF cb co op (cb n).length) (opF cb co op (cb n).length) (coF cb co op (cb n).length (opF cb co op (cb n).length) ++ [n]) k := hn
  have old : ∀ q ∈ blF cb co op (cb n).length bl, n' ∈ coF cb co op (cb n).length q → ∃ k' ∈ bl, n' ∈ co k' := by
    unfold blF coF
    split
    · exact fun q hq h => ⟨q, hq, h⟩
    · intro q hq h
      by_cases e : q = op + 1
      · subst e
        rw [up1_e, if_pos rfl] at h
        nomatch h
      · rw [mem_up e] at h
        rcases List.mem_append.mp hq with hq | hq
        · exact ⟨q, hq, h⟩
        · exact absurd (List.mem_singleton.mp hq) e
  by_cases e : k = opF cb co op (cb n).length
  · rw [e, up1_e, if_pos rfl] at hn
    rcases List.mem_append.mp hn with hn | hn
    · exact Or.inr (old _ (e ▸ hk) hn)
    · exact Or.inl (List.mem_singleton.mp hn)
  · rw [mem_up e] at hn
    exact Or.inr (old k hk hn)
theorem SH.km (h : SH T s ba ca cb us bl co op cs hi re st) {a : Nat} (ha : shM s ba ca bl co a) : tK T a = 6 ∨ tK T a = 23 ∨ tK T a = 3 ∨ tK T a = 2 := by
  obtain ⟨s1, s2, s3⟩ := h.ks
  rcases ha with rfl | rfl | rfl | ⟨k, hk, rfl | rfl | ⟨n, hn, rfl⟩⟩
  · exact Or.inl s1
  · exact Or.inr (Or.inl s2)
  · exact Or.inr (Or.inl s3)
  · exact Or.inr (Or.inr (Or.inl (h.kb hk).1))
  · exact Or.inr (Or.inl (h.kb hk).2.1)
  · exact Or.inr (Or.inr (Or.inr (h.kn hk hn).1))
/-- a chunk that is in no container isn't in the way -/
theorem SH.nm (h : SH T s ba ca cb us bl co op cs hi re st) {n : Nat} {bs : List Nat} {u : Nat} (hc : chk T (ca n) n bs u) (hn : ∀ k ∈ bl, n ∉ co k) : ¬ shM s ba ca bl co (ca n) := by
  obtain ⟨s1, s2, s3⟩ := h.ks
  rintro (q | q | q | ⟨k, hk, q | q | ⟨n', hn', q⟩⟩)
  · exact neK hc.1 s1 (by decide) q
  · exact neK hc.1 s2 (by decide) q
  · exact neK hc.1 s3 (by decide) q
  · exact neK hc.1 (h.kb hk).1 (by decide) q
  · exact neK hc.1 (h.kb hk).2.1 (by decide) q
  · obtain ⟨-, -, -, -, d5, d6, -⟩ := h.kn hk hn'
    rw [← q, hc.2.1] at d5
    have := (nI_eq (by have := hc.2.2.2.2.2.1; omega) (by omega)).mp d5
    exact hn k hk (this ▸ hn')
/-- a container that isn't there isn't in the way -/
theorem SH.nb (h : SH T s ba ca cb us bl co op cs hi re st) {x : Nat} (hK : tK T (ba x) = 3) (hN : tI T 64 (ba x) = nI x) (hx : x < 1000000) (hn : x ∉ bl) : ¬ shM s ba ca bl co (ba x) := by
  obtain ⟨s1, s2, s3⟩ := h.ks
  rintro (q | q | q | ⟨k, hk, q | q | ⟨n', hn', q⟩⟩)
  · exact neK hK s1 (by decide) q
  · exact neK hK s2 (by decide) q
  · exact neK hK s3 (by decide) q
  · obtain ⟨-, -, d3, d4⟩ := h.kb hk
    rw [← q, hN] at d3
    have := (nI_eq (by omega) (by omega)).mp d3
    exact hn (this ▸ hk)
  · exact neK hK (h.kb hk).2.1 (by decide) q
  · exact neK hK (h.kn hk hn').1 (by decide) q
theorem chk.ks {c n u : Nat} {bs : List Nat} (h : chk T c n bs u) : tK T c = 2 ∧ tK T (c + 1) = 5 ∧ tK T (c + 2) = 20 ∧ tK T (c + 3) = 4 := by
  obtain ⟨q1, q2, q3, q4, q5, -⟩ := h
  obtain ⟨r1, r2, r3, r4, f, xs, cap, -, r5, -⟩ := q5
  exact ⟨q1, r5.1, r5.2.2.2.1, r1⟩
theorem nd_ne {xs : List Nat} (h : xs.Nodup) {i j : Nat} (hi : i < xs.length) (hj : j < xs.length) (e : i ≠ j) : xs.getD i 0 ≠ xs.getD j 0 := by
  have key : ∀ i j, i < j → i < xs.length → j < xs.length → xs.getD i 0 ≠ xs.getD j 0 := by
    intro i j hij hi hj
    have := List.pairwise_iff_getElem.mp h i j hi hj hij
    rw [List.getD_eq_getElem?_getD, List.getD_eq_getElem?_getD, List.getElem?_eq_getElem hi, List.getElem?_eq_getElem hj]
    exact this
  rcases Nat.lt_or_ge i j with q | q
  · exact key i j q hi hj
  · exact fun e2 => key j i (by omega) hj hi e2.symm
theorem C_empty {x : Nat} (hw : wf T) (h : SH T s ba ca cb us bl co op cs hi re st) (hx : boxO T ba ca cb us x (co x)) (hxb : x ∉ bl) (hxo : x ≤ op) (hcs : ∀ k ∈ cs, k ≤ op) (hnd : ((co x).filter (fun n => decide (0 < us n))).Nodup) (hni : ∀ n ∈ co x, ∀ k ∈ bl, n ∉ co k) (hl : ∀ n ∈ co x, 1 ≤ (cb n).length ∧ (cb n).length ≤ 128)
    (hS : ∀ m, m < ((co x).filter (fun n => decide (0 < us n))).length → (pSs cb (bl, co, op) (((co x).filter (fun n => decide (0 < us n))).take m)).2.2 + 1 < 1000000 ∧ (pSs cb (bl, co, op) (((co x).filter (fun n => decide (0 < us n))).take m)).1.length < 1500 ∧ ((pSs cb (bl, co, op) (((co x).filter (fun n => decide (0 < us n))).take m)).2.1 (pSs cb (bl, co, op) (((co x).filter (fun n => decide (0 < us n))).take m)).2.2).length ≤ byS cb ((pSs cb (bl, co, op) (((co x).filter (fun n => decide (0 < us n))).take m)).2.1 (pSs cb (bl, co, op) (((co x).filter (fun n => decide (0 < us n))).take m)).2.2)) :
    CallQ (d + 4) 62 [.ref s, .ref (ba x)] T (fun q T' => q = .inl none ∧ ∃ ba1 : Nat → Nat, SH T' s ba1 ca cb us (pSs cb (bl, co, op) ((co x).filter (fun n => decide (0 < us n)))).1 (pSs cb (bl, co, op) ((co x).filter (fun n => decide (0 < us n)))).2.1 (pSs cb (bl, co, op) ((co x).filter (fun n => decide (0 < us n)))).2.2 (cs.filter (fun k => decide (k ≠ x))) hi re st ∧ (∀ k, k ≤ op → ba1 k = ba k) ∧ fr (fun a => shM s ba ca bl co a ∨ ∃ n ∈ co x, a = ca n) (9 + 11 * ((co x).filter (fun n => decide (0 < us n))).length) (477 + 2730 * ((co x).filter (fun n => decide (0 < us n))).length) T T' ∧ am 9 477 T T' (ba op) (ba1 (pSs cb (bl, co, op) ((co x).filter (fun n => decide (0 < us n)))).2.2) op (pSs cb (bl, co, op) ((co x).filter (fun n => decide (0 < us n)))).2.2 ∧ op ≤ (pSs cb (bl, co, op) ((co x).filter (fun n => decide (0 < us n)))).2.2 ∧ ∀ a, shM s ba1 ca (pSs cb (bl, co, op) ((co x).filter (fun n => decide (0 < us n)))).1 (pSs cb (bl, co, op) ((co x).filter (fun n => decide (0 < us n)))).2.1 a → (shM s ba ca bl co a ∨ ∃ n ∈ co x, a = ca n) ∨ tn T ≤ a) := by
  obtain ⟨_, T0, c0, rfl, L0, F0⟩ := C_needed (d := d + 1) hw hx.1 (fun n hn => (hx.2.2.2.2.2.2 n hn).1) hx.2.2.2.1
  obtain ⟨ms, hms⟩ : ∃ ms, ms = (co x).filter (fun n => decide (0 < us n)) := ⟨_, rfl⟩
  rw [← hms] at hS L0 hnd ⊢
  have hmem : ∀ n ∈ ms, n ∈ co x := fun n hn => (List.mem_filter.mp (hms ▸ hn)).1
  clear hms
  have hx1 := hx.1.1
  have hxs := hx.2.1
  obtain ⟨s1, s2, s3⟩ := h.ks
  have h0 : SH T0 s ba ca cb us bl co op cs hi re st := h.nw F0 (fun _ q => q.elim)
  have ltL : ∀ a, tK T a ≠ 0 → a ≠ tn T := fun a ha => hw.ne ha (Nat.le_refl _)
  have hWK : ∀ a, (shM s ba ca bl co a ∨ ∃ n ∈ co x, a = ca n) → tK T a ≠ 0 := by
    rintro a (q | ⟨n, hn, rfl⟩)
    · refine h.kd ?_
      rcases q with q | q | q | ⟨k, hk, q⟩
      · exact Or.inl q
      · exact Or.inr (Or.inl q)
      · exact Or.inr (Or.inr (Or.inl q))
      · refine Or.inr (Or.inr (Or.inr (Or.inr ⟨k, hk, ?_⟩)))
        rcases q with q | q | ⟨n, hn, q⟩
        · exact Or.inl q
        · exact Or.inr (Or.inl q)
        · exact Or.inr (Or.inr ⟨n, hn, Or.inl q⟩)
    · rw [(hx.2.2.2.2.2.2 n hn).1.1]; decide
  have FW := F0.wd (W' := fun a => shM s ba ca bl co a ∨ ∃ n ∈ co x, a = ca n) (Nat.le_refl _) (Nat.le_refl _) (fun _ _ q => q.elim)
  have e0 : tc T0 (ba op + 1) = tc T (ba op + 1) := ce_c (F0.ce (k := 22) (h.kb h.2.2.2.1).2.1 (fun q => q))
  have hLK := L0.1
  have lt0 : tn T < tn T0 := F0.ok.lt L0.1
  have hb0 : tK T0 (ba x) = 3 := by rw [ce_K (F0.ce hx1 (fun q => q))]; exact hx1
  have key : ∀ Q : Post, Ev (d + 3) MX4_empty [] 7 [(3, .int (nI 0)), (2, .ref (tn T)), (0, .ref s), (1, .ref (ba x))] [] T0 Q → CallQ (d + 4) 62 [.ref s, .ref (ba x)] T Q := by
    intro Q hQ
    simp (disch := omega) only [ev_aload_n (M := MX4_empty) (k := 1) rfl dX4_empty_0 (pc' := 1) rfl, ev_cV0 (M := MX4_empty) (kk := 3) dX4_empty_1 c_5_126 mX1_needed rfl rfl (by decide) rfl (pc' := 4) rfl, ev_astore_n (M := MX4_empty) (k := 2) rfl dX4_empty_4 (by decide) (pc' := 5) rfl, ev_astore_nN (M := MX4_empty) (k := 2) rfl dX4_empty_4 (by decide) (pc' := 5) rfl, ev_iconst (M := MX4_empty) (v := (nI 0)) rfl dX4_empty_5 (pc' := 6) rfl, ev_istore_n (M := MX4_empty) (k := 3) rfl dX4_empty_6 (by decide) (pc' := 7) rfl, ev_aload_n (M := MX4_empty) (k := 2) rfl dX4_empty_8 (pc' := 9) rfl, ev_cL0 (M := MX4_empty) dX4_empty_9 c_5_44 mJx4a65c_size_8abf5 rfl rfl rfl (pc' := 12) rfl, ev_icmp_ge (M := MX4_empty) (t := 47) dX4_empty_12 (by decide) (pc' := 15) rfl, ev_aload_n (M := MX4_empty) (k := 0) rfl dX4_empty_15 (pc' := 16) rfl, ev_aload_n (M := MX4_empty) (k := 2) rfl dX4_empty_16 (pc' := 17) rfl, ev_iload_n (M := MX4_empty) (k := 3) rfl dX4_empty_17 (pc' := 18) rfl, ev_cL1 (M := MX4_empty) dX4_empty_18 c_5_55 mJx4a65c_get_915e3 rfl rfl rfl (pc' := 21) rfl, ev_cast (M := MX4_empty) (c := 1) (kk := 2) k_5_81 (by decide) (by decide) rfl dX4_empty_21 (pc' := 24) rfl, ev_cV0 (M := MX4_empty) (kk := 2) dX4_empty_24 c_5_130 mX0_bytes rfl rfl (by decide) rfl (pc' := 27) rfl, ev_cV1 (M := MX4_empty) (kk := 6) dX4_empty_27 c_5_93 mX4_openFor rfl rfl (by decide) rfl (pc' := 30) rfl, ev_aload_n (M := MX4_empty) (k := 2) rfl dX4_empty_30 (pc' := 31) rfl, ev_iload_n (M := MX4_empty) (k := 3) rfl dX4_empty_31 (pc' := 32) rfl, ev_cL1 (M := MX4_empty) dX4_empty_32 c_5_55 mJx4a65c_get_915e3 rfl rfl rfl (pc' := 35) rfl, ev_cast (M := MX4_empty) (c := 1) (kk := 2) k_5_81 (by decide) (by decide) rfl dX4_empty_35 (pc' := 38) rfl, ev_cV1 (M := MX4_empty) (kk := 3) dX4_empty_38 c_5_106 mX1_put rfl rfl (by decide) rfl (pc' := 41) rfl, ev_iinc (M := MX4_empty) (v := (nI 1)) rfl dX4_empty_41 (by decide) (pc' := 44) rfl, ev_goto (M := MX4_empty) (pc' := 7) dX4_empty_44 (by decide), ev_aload_n (M := MX4_empty) (k := 0) rfl dX4_empty_47 (pc' := 48) rfl, ev_aload_n (M := MX4_empty) (k := 1) rfl dX4_empty_48 (pc' := 49) rfl, ev_cV1 (M := MX4_empty) (kk := 6) dX4_empty_49 c_5_114 mX4_leaveCache rfl rfl (by decide) rfl (pc' := 52) rfl, ev_vret (M := MX4_empty) rfl dX4_empty_52, uX4_empty, lI_some, lJ_some, lR_ref, lR_null, lD_some, lget_cons, ldel_cons, ldel_nil, evR_v, evR_0, evR_x, vrf_s, vrf_n, Value.category, Nat.reduceEqDiff, Nat.reduceAdd, Nat.reduceSub, Nat.reduceMul, Nat.reduceLeDiff, reduceIte, if_true, if_false, or_self, or_false, false_or, or_true, true_or, and_self, and_true, true_and, and_false, false_and, not_true_eq_false, not_false_eq_true, List.length_cons, List.length_nil, Nat.zero_le, Nat.add_eq_zero_iff, Nat.succ_ne_zero, Nat.zero_add, Nat.add_zero, nle_t, nle_f, nlt_t, nlt_f, neq_t, neq_f, i_lt0, i_le0, i_0le, i_0lt, i_eq0, i_lt, i_le, i_eq, nI_add, i_sub, i_cl, i_m1a, i_m1b, i_m1c, i_m1d, i_m1e, i_am1, i_ite0, hx1, cq c0]
    exact hQ
  refine key _ ?_
  clear key
  refine lpS (fun m => [(3, .int (nI m)), (2, .ref (tn T)), (0, .ref s), (1, .ref (ba x))])
    (fun m T' => ∃ ba1 : Nat → Nat, tn T0 ≤ tn T' ∧ SH T' s ba1 ca cb us (pSs cb (bl, co, op) (ms.take m)).1 (pSs cb (bl, co, op) (ms.take m)).2.1 (pSs cb (bl, co, op) (ms.take m)).2.2 cs hi re st ∧ (∀ k, k ≤ op → ba1 k = ba k) ∧ op ≤ (pSs cb (bl, co, op) (ms.take m)).2.2 ∧ (∀ j, m ≤ j → j < ms.length → chk T' (ca (ms.getD j 0)) (ms.getD j 0) (cb (ms.getD j 0)) (us (ms.getD j 0))) ∧ (∀ j, m ≤ j → j < ms.length → ∀ k ∈ (pSs cb (bl, co, op) (ms.take m)).1, ms.getD j 0 ∉ (pSs cb (bl, co, op) (ms.take m)).2.1 k) ∧ lis T' (tn T) (ms.map ca) ∧ fr (fun a => shM s ba ca bl co a ∨ ∃ n ∈ co x, a = ca n) (9 + 11 * m) (477 + 2730 * m) T T' ∧ am 9 477 T T' (ba op) (ba1 (pSs cb (bl, co, op) (ms.take m)).2.2) op (pSs cb (bl, co, op) (ms.take m)).2.2 ∧ ∀ a, shM s ba1 ca (pSs cb (bl, co, op) (ms.take m)).1 (pSs cb (bl, co, op) (ms.take m)).2.1 a → (shM s ba ca bl co a ∨ ∃ n ∈ co x, a = ca n) ∨ tn T0 ≤ a) ms.length ?_ ?_ T0 ?_
  · rintro m T1 hm ⟨ba1, i0, i1, i2, i3, i4, i5, i6, i7, i8, i9⟩
    obtain ⟨S1, S2, S3⟩ := hS m hm
    have hmm := hmem _ (gD_mem hm)
    have hS' := @pSs_s cb (bl, co, op) ms m hm
    generalize pSs cb (bl, co, op) (ms.take m) = S at *
    obtain ⟨bl1, co1, op1⟩ := S
    obtain ⟨ba2, T2, T3, p1, p2, p3, p4, p5, p6, p7, p8, p9⟩ := put1 (d := d) (c := ca (ms.getD m 0)) rfl i7.ok i1 (i4 m (Nat.le_refl _) hm) (i5 m (Nat.le_refl _) hm) (hl _ hmm).1 (hl _ hmm).2 S1 S2 (fun k hk => Nat.le_trans (hcs k hk) i3) S3
    rw [hS']
    have hck := i4 m (Nat.le_refl _) hm
    have kk := i1.ks
    have W2 : ∀ a, (shM s ba1 ca bl1 co1 a ∨ a = ca (ms.getD m 0)) → (shM s ba ca bl co a ∨ ∃ n ∈ co x, a = ca n) ∨ tn T0 ≤ a := by
      rintro a (q | q)
      · exact i9 a q
      · exact Or.inl (Or.inr ⟨_, hmm, q⟩)
    have nL : ¬ (shM s ba1 ca bl1 co1 (tn T) ∨ tn T = ca (ms.getD m 0)) := fun q => by
      rcases W2 _ q with q | q
      · exact ltL _ (hWK _ q) rfl
      · omega
    have sl : s < tn T := hw.lt s1
    have i62 : lis T2 (tn T) (ms.map ca) := i6.of (p2.ce i6.1 (by have := hw.lt s2; omega))
    refine ⟨T3, ⟨ba2, Nat.le_trans i0 p7.2.1, p6, fun k hk => (p5 k (Nat.le_trans hk i3)).trans (i2 k hk), Nat.le_trans i3 (opF_ge cb co1 op1 _), fun j hj hjl => ?_, fun j hj hjl k hk q => ?_, i6.of (p7.ce i6.1 nL), (i7.nw hw p7 (fun a q => (W2 a q).imp id (fun h => by omega))).by (by omega) (by omega), (i8.tr p8).by (by omega) (by omega), fun a ha => ?_⟩, fun hq => ?_⟩
    · have hcj := i4 j (by omega) hjl
      obtain ⟨d1, d2, d3, d4⟩ := hcj.ks
      have nej := nd_ne hnd hjl hm (by omega)
      have nca : ca (ms.getD j 0) ≠ ca (ms.getD m 0) := fun e => by
        have b1 := hcj.2.1
        rw [e, hck.2.1] at b1
        exact nej ((nI_eq (by have := hck.2.2.2.2.2.1; omega) (by have := hcj.2.2.2.2.2.1; omega)).mp b1).symm
      have n0 := i1.nm hcj (i5 j (by omega) hjl)
      have nk : ∀ a, (tK T1 a = 5 ∨ tK T1 a = 20 ∨ tK T1 a = 4) → ¬ (shM s ba1 ca bl1 co1 a ∨ a = ca (ms.getD m 0)) := by
        rintro a ha (q | q)
        · have := i1.km q
          omega
        · rw [q, hck.1] at ha
          omega
      exact hcj.of (p7.ce d1 (fun q => q.elim n0 nca)) (p7.ce d2 (nk _ (Or.inl d2))) (p7.ce (a := ca (ms.getD j 0) + 2) (k := 19) d3 (nk _ (Or.inr (Or.inl d3)))) (p7.ce d4 (nk _ (Or.inr (Or.inr d4))))
    · rcases pS_in i1.2.2.2.1 hk q with q | ⟨k', hk', q⟩
      · exact nd_ne hnd hjl hm (by omega) q
      · exact i5 j (by omega) hjl k' hk' q
    · rcases p9 a ha with q | q | q
      · exact i9 a q
      · exact Or.inl (Or.inr ⟨_, hmm, q⟩)
      · exact Or.inr (Nat.le_trans i0 q)
    · have y1 := i6.1
      have y2 := hck.1
      have y3 := hck.2.2.1
      have y4 := i62.1
      have y5 : tK T2 (ca (ms.getD m 0)) = 2 := by rw [ce_K (p2.ce hck.1 (fun e => e.elim (neK hck.1 kk.1 (by decide)) (neK hck.1 kk.2.1 (by decide))))]; exact hck.1
      have y6 := kk.1
      have y7 := i6.2.2.2
      have y8 := i6.2.2.1
      rw [List.length_map] at y7
      rw [ev_iload_n (M := MX4_empty) (k := 3) rfl dX4_empty_7 (pc' := 8) rfl]
      clear hS' W2 nL p9 p8 p7 p6 i9 i8 i7 i5 i4 i3 i2 i1 S1 S2 S3 hWK ltL FW e0 F0 h0 hS hl hni hnd hcs hx h hck
      simp (disch := omega) only [ev_aload_n (M := MX4_empty) (k := 1) rfl dX4_empty_0 (pc' := 1) rfl, ev_cV0 (M := MX4_empty) (kk := 3) dX4_empty_1 c_5_126 mX1_needed rfl rfl (by decide) rfl (pc' := 4) rfl, ev_astore_n (M := MX4_empty) (k := 2) rfl dX4_empty_4 (by decide) (pc' := 5) rfl, ev_astore_nN (M := MX4_empty) (k := 2) rfl dX4_empty_4 (by decide) (pc' := 5) rfl, ev_iconst (M := MX4_empty) (v := (nI 0)) rfl dX4_empty_5 (pc' := 6) rfl, ev_istore_n (M := MX4_empty) (k := 3) rfl dX4_empty_6 (by decide) (pc' := 7) rfl, ev_aload_n (M := MX4_empty) (k := 2) rfl dX4_empty_8 (pc' := 9) rfl, ev_cL0 (M := MX4_empty) dX4_empty_9 c_5_44 mJx4a65c_size_8abf5 rfl rfl rfl (pc' := 12) rfl, ev_icmp_ge (M := MX4_empty) (t := 47) dX4_empty_12 (by decide) (pc' := 15) rfl, ev_aload_n (M := MX4_empty) (k := 0) rfl dX4_empty_15 (pc' := 16) rfl, ev_aload_n (M := MX4_empty) (k := 2) rfl dX4_empty_16 (pc' := 17) rfl, ev_iload_n (M := MX4_empty) (k := 3) rfl dX4_empty_17 (pc' := 18) rfl, ev_cL1 (M := MX4_empty) dX4_empty_18 c_5_55 mJx4a65c_get_915e3 rfl rfl rfl (pc' := 21) rfl, ev_cast (M := MX4_empty) (c := 1) (kk := 2) k_5_81 (by decide) (by decide) rfl dX4_empty_21 (pc' := 24) rfl, ev_cV0 (M := MX4_empty) (kk := 2) dX4_empty_24 c_5_130 mX0_bytes rfl rfl (by decide) rfl (pc' := 27) rfl, ev_cV1 (M := MX4_empty) (kk := 6) dX4_empty_27 c_5_93 mX4_openFor rfl rfl (by decide) rfl (pc' := 30) rfl, ev_aload_n (M := MX4_empty) (k := 2) rfl dX4_empty_30 (pc' := 31) rfl, ev_iload_n (M := MX4_empty) (k := 3) rfl dX4_empty_31 (pc' := 32) rfl, ev_cL1 (M := MX4_empty) dX4_empty_32 c_5_55 mJx4a65c_get_915e3 rfl rfl rfl (pc' := 35) rfl, ev_cast (M := MX4_empty) (c := 1) (kk := 2) k_5_81 (by decide) (by decide) rfl dX4_empty_35 (pc' := 38) rfl, ev_cV1 (M := MX4_empty) (kk := 3) dX4_empty_38 c_5_106 mX1_put rfl rfl (by decide) rfl (pc' := 41) rfl, ev_iinc (M := MX4_empty) (v := (nI 1)) rfl dX4_empty_41 (by decide) (pc' := 44) rfl, ev_goto (M := MX4_empty) (pc' := 7) dX4_empty_44 (by decide), ev_aload_n (M := MX4_empty) (k := 0) rfl dX4_empty_47 (pc' := 48) rfl, ev_aload_n (M := MX4_empty) (k := 1) rfl dX4_empty_48 (pc' := 49) rfl, ev_cV1 (M := MX4_empty) (kk := 6) dX4_empty_49 c_5_114 mX4_leaveCache rfl rfl (by decide) rfl (pc' := 52) rfl, ev_vret (M := MX4_empty) rfl dX4_empty_52, ev_aload_n (M := MX0_bytes) (k := 0) rfl dX0_bytes_0 (pc' := 1) rfl, ev_getR (M := MX0_bytes) (f := 33) (kk := 2) f_1_13 rfl rfl rfl dX0_bytes_1 (pc' := 4) rfl, ev_aret (M := MX0_bytes) rfl dX0_bytes_4, ev_aretN (M := MX0_bytes) rfl dX0_bytes_4, ev_aretO (M := MX0_bytes) rfl dX0_bytes_4, uX0_bytes, lI_some, lJ_some, lR_ref, lR_null, lD_some, lget_cons, ldel_cons, ldel_nil, evR_v, evR_0, evR_x, vrf_s, vrf_n, Value.category, Nat.reduceEqDiff, Nat.reduceAdd, Nat.reduceSub, Nat.reduceMul, Nat.reduceLeDiff, reduceIte, if_true, if_false, or_self, or_false, false_or, or_true, true_or, and_self, and_true, true_and, and_false, false_and, not_true_eq_false, not_false_eq_true, List.length_cons, List.length_nil, Nat.zero_le, Nat.add_eq_zero_iff, Nat.succ_ne_zero, Nat.zero_add, Nat.add_zero, nle_t, nle_f, nlt_t, nlt_f, neq_t, neq_f, i_lt0, i_le0, i_0le, i_0lt, i_eq0, i_lt, i_le, i_eq, nI_add, i_sub, i_cl, i_m1a, i_m1b, i_m1c, i_m1d, i_m1e, i_am1, i_ite0, c_lsizem i6, c_lgetm i6, c_lgetm i62, y1, y2, y3, y4, y5, y6, cq p1, cq (Call_up1 _ _ _ _ _ _ p3), p4]
      exact hq
  · rintro T1 ⟨ba1, i0, i1, i2, i3, i4, i5, i6, i7, i8, i9⟩
    rw [List.take_length] at i1 i3 i5 i8 i9
    have nbx : ¬ (shM s ba ca bl co (ba x) ∨ ∃ n ∈ co x, ba x = ca n) := by
      rintro (q | ⟨n, hn, q⟩)
      · exact h.nb hx1 hxs hx.2.2.2.2.2.1 hxb q
      · exact neK hx1 (hx.2.2.2.2.2.2 n hn).1.1 (by decide) q
    have cx := i7.ce hx1 nbx
    have ex : ba1 x = ba x := i2 x hxo
    obtain ⟨_, T2, c2, rfl, g1, g2⟩ := C_leaveCache (d := d + 1) (b := x) i7.ok i1 (by rw [ex, ce_K cx, ce_I cx]; exact ⟨hx1, hxs, hx.2.2.2.2.2.1⟩)
    rw [ex] at c2
    have key : ∀ Q : Post, Q (.inl none) T2 → Ev (d + 3) MX4_empty [] 7 [(3, .int (nI ms.length)), (2, .ref (tn T)), (0, .ref s), (1, .ref (ba x))] [] T1 Q := by
      intro Q hQ
      have y1 := i6.1
      have y6 := i1.ks.1
      have y7 := i6.2.2.2
      have y8 := i6.2.2.1
      rw [List.length_map] at y7
      rw [ev_iload_n (M := MX4_empty) (k := 3) rfl dX4_empty_7 (pc' := 8) rfl]
      simp (disch := omega) only [ev_aload_n (M := MX4_empty) (k := 1) rfl dX4_empty_0 (pc' := 1) rfl, ev_cV0 (M := MX4_empty) (kk := 3) dX4_empty_1 c_5_126 mX1_needed rfl rfl (by decide) rfl (pc' := 4) rfl, ev_astore_n (M := MX4_empty) (k := 2) rfl dX4_empty_4 (by decide) (pc' := 5) rfl, ev_astore_nN (M := MX4_empty) (k := 2) rfl dX4_empty_4 (by decide) (pc' := 5) rfl, ev_iconst (M := MX4_empty) (v := (nI 0)) rfl dX4_empty_5 (pc' := 6) rfl, ev_istore_n (M := MX4_empty) (k := 3) rfl dX4_empty_6 (by decide) (pc' := 7) rfl, ev_aload_n (M := MX4_empty) (k := 2) rfl dX4_empty_8 (pc' := 9) rfl, ev_cL0 (M := MX4_empty) dX4_empty_9 c_5_44 mJx4a65c_size_8abf5 rfl rfl rfl (pc' := 12) rfl, ev_icmp_ge (M := MX4_empty) (t := 47) dX4_empty_12 (by decide) (pc' := 15) rfl, ev_aload_n (M := MX4_empty) (k := 0) rfl dX4_empty_15 (pc' := 16) rfl, ev_aload_n (M := MX4_empty) (k := 2) rfl dX4_empty_16 (pc' := 17) rfl, ev_iload_n (M := MX4_empty) (k := 3) rfl dX4_empty_17 (pc' := 18) rfl, ev_cL1 (M := MX4_empty) dX4_empty_18 c_5_55 mJx4a65c_get_915e3 rfl rfl rfl (pc' := 21) rfl, ev_cast (M := MX4_empty) (c := 1) (kk := 2) k_5_81 (by decide) (by decide) rfl dX4_empty_21 (pc' := 24) rfl, ev_cV0 (M := MX4_empty) (kk := 2) dX4_empty_24 c_5_130 mX0_bytes rfl rfl (by decide) rfl (pc' := 27) rfl, ev_cV1 (M := MX4_empty) (kk := 6) dX4_empty_27 c_5_93 mX4_openFor rfl rfl (by decide) rfl (pc' := 30) rfl, ev_aload_n (M := MX4_empty) (k := 2) rfl dX4_empty_30 (pc' := 31) rfl, ev_iload_n (M := MX4_empty) (k := 3) rfl dX4_empty_31 (pc' := 32) rfl, ev_cL1 (M := MX4_empty) dX4_empty_32 c_5_55 mJx4a65c_get_915e3 rfl rfl rfl (pc' := 35) rfl, ev_cast (M := MX4_empty) (c := 1) (kk := 2) k_5_81 (by decide) (by decide) rfl dX4_empty_35 (pc' := 38) rfl, ev_cV1 (M := MX4_empty) (kk := 3) dX4_empty_38 c_5_106 mX1_put rfl rfl (by decide) rfl (pc' := 41) rfl, ev_iinc (M := MX4_empty) (v := (nI 1)) rfl dX4_empty_41 (by decide) (pc' := 44) rfl, ev_goto (M := MX4_empty) (pc' := 7) dX4_empty_44 (by decide), ev_aload_n (M := MX4_empty) (k := 0) rfl dX4_empty_47 (pc' := 48) rfl, ev_aload_n (M := MX4_empty) (k := 1) rfl dX4_empty_48 (pc' := 49) rfl, ev_cV1 (M := MX4_empty) (kk := 6) dX4_empty_49 c_5_114 mX4_leaveCache rfl rfl (by decide) rfl (pc' := 52) rfl, ev_vret (M := MX4_empty) rfl dX4_empty_52, lI_some, lJ_some, lR_ref, lR_null, lD_some, lget_cons, ldel_cons, ldel_nil, evR_v, evR_0, evR_x, vrf_s, vrf_n, Value.category, Nat.reduceEqDiff, Nat.reduceAdd, Nat.reduceSub, Nat.reduceMul, Nat.reduceLeDiff, reduceIte, if_true, if_false, or_self, or_false, false_or, or_true, true_or, and_self, and_true, true_and, and_false, false_and, not_true_eq_false, not_false_eq_true, List.length_cons, List.length_nil, Nat.zero_le, Nat.add_eq_zero_iff, Nat.succ_ne_zero, Nat.zero_add, Nat.add_zero, nle_t, nle_f, nlt_t, nlt_f, neq_t, neq_f, i_lt0, i_le0, i_0le, i_0lt, i_eq0, i_lt, i_le, i_eq, nI_add, i_sub, i_cl, i_m1a, i_m1b, i_m1c, i_m1d, i_m1e, i_am1, i_ite0, c_lsizem i6, y1, y6, cq c2]
      exact hQ
    have e3 : tc T2 (ba1 (pSs cb (bl, co, op) ms).2.2 + 1) = tc T1 (ba1 (pSs cb (bl, co, op) ms).2.2 + 1) := ce_c (g2.ce (k := 22) (i1.kb i1.2.2.2.1).2.1 (fun e => neK (i1.kb i1.2.2.2.1).1 i1.ks.2.1 (by decide) (by omega)))
    exact key _ ⟨rfl, ba1, g1, i2, (i7.nw hw g2 (fun a q => Or.inl (Or.inl (Or.inr (Or.inr (Or.inl q)))))).by (by omega) (by omega), (i8.tr (am_fr g2 e3)).by (by omega) (by omega), i3, fun a ha => (i9 a ha).imp id (fun q => Nat.le_trans F0.2.1 q)⟩
  · refine ⟨ba, Nat.le_refl _, h0, fun _ _ => rfl, Nat.le_refl _, fun j _ hj => ?_, fun j _ hj k hk => hni _ (hmem _ (gD_mem hj)) k hk, L0.is, FW, (am_fr F0 e0).by (by omega) (by omega), fun a ha => Or.inl (Or.inl ha)⟩
    have hc := (hx.2.2.2.2.2.2 _ (hmem _ (gD_mem hj))).1
    obtain ⟨d1, d2, d3, d4⟩ := hc.ks
    exact hc.of (F0.ce d1 (fun q => q)) (F0.ce d2 (fun q => q)) (F0.ce (a := ca (ms.getD j 0) + 2) (k := 19) d3 (fun q => q)) (F0.ce d4 (fun q => q))
end EMQ
