/-! the law's saves -/
section SV3
variable {d S X G L n0 u0 c : Nat} {va ba ca : Nat → Nat} {dr kl : List Nat} {vf vn : Nat → Nat} {vb ve : Nat → List Nat} {vp : Nat → Option Nat} {nx na : Nat → Nat} {sv : Nat} {cb : Nat → List Nat} {us : Nat → Nat} {bl cs : List Nat} {co : Nat → List Nat} {op hi re st : Nat} {rw : List Nat} {bx : Nat → Nat} {ud : Nat} {T T' T1 T2 : TS} {Q : Post}
def VE (S X G L n0 u0 c : Nat) (na nx : Nat → Nat) (T : TS) : Prop := ∃ (va ba ca : Nat → Nat) (dr kl : List Nat) (vf vn : Nat → Nat) (vb ve : Nat → List Nat) (vp : Nat → Option Nat) (sv : Nat) (cb : Nat → List Nat) (us : Nat → Nat) (bl : List Nat) (co : Nat → List Nat) (op : Nat) (cs : List Nat) (hi re st : Nat) (rw : List Nat) (bx : Nat → Nat) (ud : Nat), VK S X G L n0 u0 c na T va ba ca dr kl vf vn vb ve vp nx sv cb us bl co op cs hi re st rw bx ud
/-- the law's own cells -/
def LG (S G L : Nat) (na : Nat → Nat) (kl : List Nat) (vf vn : Nat → Nat) (st : Nat) (T : TS) : Prop := gR T G kl vf vn st ∧ nR T (G + 1) na ∧ scR T S L
theorem LG.keep {W : Nat → Prop} {n u : Nat} (hx : XR T X va ba ca dr kl vf vn vb ve vp nx sv cb us bl co op cs hi re st) {kl' : List Nat} {vf' vn' : Nat → Nat} {st' : Nat} (g : LG S G L na kl' vf' vn' st' T) (F : fr W n u T T') (hW : ∀ a, W a → xD X va ba ca kl bl cs co a) : LG S G L na kl' vf' vn' st' T' := by
  obtain ⟨h5, h6, h7⟩ := g
  have hh := fun a (q : W a) => hx.law h5.1 h6.1 h7.1 (hW a q)
  exact ⟨h5.of (F.2.2.2.2.2 G (by rw [h5.1]; decide) (fun q => (hh G q).1 rfl)), h6.of (F.2.2.2.2.2 (G + 1) (by rw [h6.1]; decide) (fun q => (hh _ q).2.1 rfl)), h7.of (F.2.2.2.2.2 S (by rw [h7.1]; decide) (fun q => (hh S q).2.2.1 rfl))⟩
theorem LG.sJ {i : Nat} {v : Int64} {kl' : List Nat} {vf' vn' : Nat → Nat} {st' : Nat} (g : LG S G L na kl vf vn st T) (h : gR (sJ G i v T) G kl' vf' vn' st') : LG S G L na kl' vf' vn' st' (sJ G i v T) := by
  obtain ⟨h5, h6, h7⟩ := g
  exact ⟨h, h6.of (ce_sJ (by omega)), h7.of (ce_sJ (fun q => by have a := h5.1; have b := h7.1; rw [q, a] at b; cases b))⟩
theorem gR_or {j v : Nat} {kl' : List Nat} {vf' vn' : Nat → Nat} (hg : gR T G kl vf vn st) (hj : j < 6) (hv : v < 64) (hk : ∀ f w, (∃ k ∈ kl', vf' k = f ∧ vn' k = w) ↔ ((∃ k ∈ kl, vf k = f ∧ vn k = w) ∨ (f = j ∧ w = v))) : gR (sJ G j (tJ T G j ||| (1 <<< ((nI v).toInt64 &&& 63))) T) G kl' vf' vn' st := by
  obtain ⟨g1, g2, g3, g4⟩ := hg
  refine ⟨g1, g2, ?_, fun f w hf hw => ?_⟩
  · rw [tJ_sJ, up2_e, if_neg (fun q => by omega)]
    exact g3
  · rw [tJ_sJ, up2_e, hk f w]
    by_cases e : f = j
    · subst e
      rw [if_pos ⟨rfl, rfl⟩, bL_or hw hv, Bool.or_eq_true, decide_eq_true_eq, g4 f w hf hw]
      constructor
      · rintro (q | q)
        · exact Or.inl q
        · exact Or.inr ⟨rfl, q⟩
      · rintro (q | ⟨-, q⟩)
        · exact Or.inl q
        · exact Or.inr q
    · rw [if_neg (fun q => e q.2), g4 f w hf hw]
      constructor
      · exact Or.inl
      · rintro (q | ⟨q, -⟩)
        · exact q
        · exact absurd q e
theorem gR_6 {m : Nat} (hg : gR T G kl vf vn st) : gR (sJ G 6 (jN m) T) G kl vf vn m := by
  obtain ⟨g1, g2, g3, g4⟩ := hg
  refine ⟨g1, g2, ?_, fun f w hf hw => ?_⟩
  · rw [tJ_sJ, up2_e, if_pos ⟨rfl, rfl⟩]
  · rw [tJ_sJ, up2_e, if_neg (fun q => by omega)]
    exact g4 f w hf hw
theorem mxf_le : ∀ (l : List Nat) (a : Nat), a ≤ l.foldl mxf a := by
  intro l
  induction l with
  | nil => intro a; exact Nat.le_refl _
  | cons x l ih =>
    intro a
    refine Nat.le_trans ?_ (ih (mxf a x))
    exact Nat.le_max_left _ _
/-- behind the numbers: the bytes, the chunks, the version -/
theorem SV_tail {k m : Nat} {lt : Int32} (h : LV T X va ba ca dr kl vf vn vb ve vp nx sv cb us bl co op cs hi re st rw bx ud) (g1 : tK T G = 22) (g2 : tl T G = 7) (g3 : tJ T G 6 = jN m) (hk : k ∈ kl) (hb : vb k = dr) (hf : (ve k).foldl mxf m = st) (hbase : numO vn (vp k) = -1 ∨ numO vn (vp k) = lt) (hcs : ∀ es n, ve k = es ++ [n] → cs.getD 0 0 = bx n ∧ 0 < cs.length) (hQ : Q (.inl (some (.int (nI 1)))) (sJ G 6 (jN st) T)) : Ev (d + 9) ML_saves [] 135 [(11, .int (nI 0)), (10, .int (nI 1)), (9, .int (nI (vn k))), (8, .int lt), (0, .ref X), (1, .ref G), (2, .int (nI (vf k)))] [] T Q := by
  have k8 := h.k8
  obtain ⟨hl, hel⟩ := h.lens hk
  have hst := h.rwl.1
  have hm : ∀ i, ((ve k).take i).foldl mxf m ≤ st := fun i => by
    have e : ((ve k).take i ++ (ve k).drop i).foldl mxf m = st := by rw [List.take_append_drop]; exact hf
    rw [List.foldl_append] at e
    rw [← e]
    exact mxf_le _ _
  have hs : ∀ i, i < (ve k).length → ((ve k).take (i + 1)).foldl mxf m = max (((ve k).take i).foldl mxf m) ((ve k).getD i 0 + 1) := fun i hi => by
    rw [take_s hi, List.foldl_append]
    rfl
  have c1 := Call_up (d' := d + 9) (R_draftLength (d := d) h.1) (by omega)
  have two : Ev (d + 9) ML_saves [] 183 [(11, .int (nI 0)), (10, .int (nI 1)), (9, .int (nI (vn k))), (8, .int lt), (0, .ref X), (1, .ref G), (2, .int (nI (vf k)))] [] T Q := by
    refine lpX (fun i => [(11, .int (nI i)), (10, .int (nI 1)), (9, .int (nI (vn k))), (8, .int lt), (0, .ref X), (1, .ref G), (2, .int (nI (vf k)))]) (fun i => sJ G 6 (jN (((ve k).take i).foldl mxf m)) T) (ve k).length rfl ?_ ?_ ?_
    · show T = sJ G 6 (jN m) T
      exact (sJ_id g3).symm
    · intro i h9 hq
      rw [hs i h9] at hq
      have hmi := hm i
      generalize ((ve k).take i).foldl mxf m = a at *
      have La : LV (sJ G 6 (jN a) T) X va ba ca dr kl vf vn vb ve vp nx sv cb us bl co op cs hi re st rw bx ud := h.sJ g1
      have ga : tK (sJ G 6 (jN a) T) G = 22 := g1
      have ga3 : tJ (sJ G 6 (jN a) T) G 6 = jN a := by rw [tJ_sJ, up2_e, if_pos ⟨rfl, rfl⟩]
      have Lb : LV (sJ G 6 (jN (max a ((ve k).getD i 0 + 1))) (sJ G 6 (jN a) T)) X va ba ca dr kl vf vn vb ve vp nx sv cb us bl co op cs hi re st rw bx ud := La.sJ ga
      have hr := h.rwl.2 _ (h.ents hk _ (gD_mem h9))
      rw [← sJ_sJ (w := jN a)] at hq
      exact Z_sa6 La.k8 ga g2 ga3 (by omega) hel h9 (by omega) (La.chunksOf (d := d + 5) hk) (La.chunkAt (d := d + 5) hk h9) Lb.k8 (Lb.isStored (d := d + 4) (h.ents hk _ (gD_mem h9))) hq
    · rw [List.take_length, hf]
      have La : LV (sJ G 6 (jN st) T) X va ba ca dr kl vf vn vb ve vp nx sv cb us bl co op cs hi re st rw bx ud := h.sJ g1
      have d1 := La.chunksOf (d := d + 5) hk
      have d2 := La.baseOf (d := d + 5) hk
      have d3 := C_isVersion (d := d + 3) La hk
      by_cases e : (ve k).length = 0
      · rw [e] at d1 ⊢
        exact Z_sa7 La.k8 d1 _ hbase d2 d3 hQ
      · have hlt : (ve k).length - 1 < (ve k).length := by omega
        have hmem := h.ents hk _ (gD_mem hlt)
        have esp : ve k = (ve k).take ((ve k).length - 1) ++ [(ve k).getD ((ve k).length - 1) 0] := by
          rw [← take_s hlt, show (ve k).length - 1 + 1 = (ve k).length by omega, List.take_length]
        obtain ⟨q1, q2⟩ := hcs _ _ esp
        have d5 := La.chunkAt (d := d + 5) hk hlt
        have d6 := La.containerOf (d := d + 4) hmem
        have d4 := R_cached (d := d + 5) (nI 0) La.1
        rw [inR_at (by decide) (by decide), Option.map_some, if_pos q2, q1] at d4
        have hbx : bx ((ve k).getD ((ve k).length - 1) 0) ≤ op := h.2.2.1.1.2.2 _ hmem
        have hop := h.bst.1
        exact Z_sa8 La.k8 hel (by omega) (by omega) d1 _ hbase d2 d3 d4 d5 d6 hQ
  refine lpX (fun i => [(11, .int (nI i)), (10, .int (nI 1)), (9, .int (nI (vn k))), (8, .int lt), (0, .ref X), (1, .ref G), (2, .int (nI (vf k)))]) (fun _ => T) dr.length rfl rfl ?_ ?_
  · intro i hi hq
    have a1 := h.byCopy (d := d + 5) (j := i) hk (by rw [hb]; exact hi)
    rw [hb] at a1
    rw [hb] at hl
    exact Z_sa4 k8 hl hi ((dlen h.1).2 i hi) c1 a1 (Call_up (R_dAt (d := d) h.1 hi) (by omega)) hq
  · rw [hb] at hl
    exact Z_sa5 k8 hl c1 two
theorem C_saves {j : Nat} (h : VK S X G L n0 u0 c na T va ba ca dr kl vf vn vb ve vp nx sv cb us bl co op cs hi re st rw bx ud) (hc : c < 60) (hj : j < 6) (hl : kl.length < 20) : CallQ (d + 10) 140 [.ref X, .ref G, .int (nI j), .int (nI (nx j))] T (fun q T' => q = .inl (some (.int (nI 1))) ∧ VE S X G L n0 u0 (c + 1) na (up1 nx j (nx j + 1)) T') := by
  have hX := h.1.1
  have hS := h.1.2.2.1
  have hC := h.2.1
  have hRV := h.2.2.1
  have hw := h.2.2.2.1
  have hbst := h.1.bst
  have hlen := h.1.2.2.1.1.len
  dsimp only at hlen
  have hnx := hC.2.2.2.2.2.1 j
  have hhr := hC.2.2.2.2.1
  obtain ⟨_, T1, c0, rfl, x1, F1⟩ := X_would (d := d + 1) hw hX
  rw [← hS.would] at c0
  obtain ⟨L1, g1, n1, s1, w1, A1⟩ := h.mk x1 F1
  have G1 : LG S G L na kl vf vn st T1 := ⟨g1, n1, s1⟩
  obtain ⟨_, T2, c5, rfl, va', ba', ca', kl', vf', vn', vb', ve', vp', cb', us', bl', co', op', cs', hi', re', st', rw', bx', ud', z, L2, C2, ⟨hz, ez1, ez2, ez3, hkl⟩, hbase, hby, hwo, hhi, hhr', hfold, hcs, ⟨n, u, F2⟩, A2, hgone⟩ := L_save (d := d + 1) L1 hC w1 hc hj hl
  have G2 := G1.keep x1 F2 (fun a q => by
    rcases q with q | q | q | q
    · rcases q with q | q | q | ⟨k, hk, q | q | ⟨n, hn, q⟩⟩
      · exact Or.inr (Or.inr (Or.inr (Or.inr (Or.inr (Or.inr (Or.inl q))))))
      · exact Or.inr (Or.inr (Or.inr (Or.inr (Or.inr (Or.inr (Or.inr (Or.inl q)))))))
      · exact Or.inr (Or.inr (Or.inr (Or.inr (Or.inr (Or.inr (Or.inr (Or.inr (Or.inl q))))))))
      · exact Or.inr (Or.inr (Or.inr (Or.inr (Or.inr (Or.inr (Or.inr (Or.inr (Or.inr (Or.inr ⟨k, hk, Or.inl q⟩)))))))))
      · exact Or.inr (Or.inr (Or.inr (Or.inr (Or.inr (Or.inr (Or.inr (Or.inr (Or.inr (Or.inr ⟨k, hk, Or.inr (Or.inl q)⟩)))))))))
      · exact Or.inr (Or.inr (Or.inr (Or.inr (Or.inr (Or.inr (Or.inr (Or.inr (Or.inr (Or.inr ⟨k, hk, Or.inr (Or.inr ⟨n, hn, Or.inl q⟩)⟩)))))))))
    · exact Or.inl q
    · exact Or.inr (Or.inr (Or.inr (Or.inl q)))
    · exact Or.inr (Or.inr (Or.inr (Or.inr (Or.inl q)))))
  have gK : tK T2 G = 22 := G2.1.1
  have gl : tl T2 G = 7 := G2.1.2.1
  have hv : nx j < 64 := by omega
  have G3 := G2.sJ (gR_or G2.1 hj hv hkl)
  have L3 : LV (sJ G j (tJ T2 G j ||| (1 <<< ((nI (nx j)).toInt64 &&& 63))) T2) X va' ba' ca' dr kl' vf' vn' vb' ve' vp' (up1 nx j (nx j + 1)) (sv + 1) cb' us' bl' co' op' cs' hi' re' st' rw' bx' ud' := L2.sJ gK
  have w3 : wf (sJ G j (tJ T2 G j ||| (1 <<< ((nI (nx j)).toInt64 &&& 63))) T2) := F2.ok
  have A3 : am 0 0 T2 (sJ G j (tJ T2 G j ||| (1 <<< ((nI (nx j)).toInt64 &&& 63))) T2) (ba' op') (ba' op') op' op' := ⟨Nat.le_refl _, Nat.le_refl _⟩
  generalize e3 : sJ G j (tJ T2 G j ||| (1 <<< ((nI (nx j)).toInt64 &&& 63))) T2 = T3 at *
  obtain ⟨_, T4, c8, rfl, x4, F4⟩ := X_would (d := d + 1) w3 L3.1
  rw [← L3.2.2.1.would, hwo] at c8
  have L4 := L3.x x4
  have G4 := G3.keep L3.1 F4 (fun a q => q.elim)
  have A4 := am_fr (o := op') F4 (ce_c (F4.ce L3.1.bk.2 (fun q => q)))
  have A5 : am 0 0 T4 (sJ G 6 (jN st') T4) (ba' op') (ba' op') op' op' := ⟨Nat.le_refl _, Nat.le_refl _⟩
  have G5 := G4.sJ (gR_6 (m := st') G4.1)
  have L5 : LV (sJ G 6 (jN st') T4) X va' ba' ca' dr kl' vf' vn' vb' ve' vp' (up1 nx j (nx j + 1)) (sv + 1) cb' us' bl' co' op' cs' hi' re' st' rw' bx' ud' := L4.sJ G4.1.1
  have w5 : wf (sJ G 6 (jN st') T4) := F4.ok
  have hRV' := hRV.am ((((A1.tr A2).tr A3).tr A4).tr A5) (bl' := bl') (by omega) (by omega)
  have fin : (fun q T' => q = .inl (some (.int (nI 1))) ∧ VE S X G L n0 u0 (c + 1) na (up1 nx j (nx j + 1)) T' : Post) (.inl (some (.int (nI 1)))) (sJ G 6 (jN st') T4) := ⟨rfl, _, _, _, _, _, _, _, _, _, _, _, _, _, _, _, _, _, _, _, _, _, _, _, L5, C2, hRV', w5, G5.1, G5.2.1, G5.2.2⟩
  have tail := SV_tail (d := d) (Q := fun q T' => q = .inl (some (.int (nI 1))) ∧ VE S X G L n0 u0 (c + 1) na (up1 nx j (nx j + 1)) T') (k := z) (m := st) (lt := numO vn (lk kl vf (nI j))) L4 G4.1.1 G4.1.2.1 G4.1.2.2.1 hz ez3 hfold hbase hcs fin
  have hlz := L3.length (d := d + 5) hz
  have hnz := L4.chunksOf (d := d + 5) hz
  have hel := (L3.lens hz).2
  have hdl := (dlen L3.1).1
  rw [ez1, ez2] at tail hnz hlz
  rw [ez3] at hlz
  have hst1 := L1.storedBytes (d := d + 5)
  have hst3 := L3.storedBytes (d := d + 5)
  rw [hby] at hst3
  have hlt := R_latest (d := d + 6) (nI j) L1.1
  rw [inR_at hj (by decide), Option.map_some] at hlt
  have hb3 := L3.bst
  have hlim := C2.lim
  rw [uL_saves]
  refine Z_sa1 hX.1.1 L1.k8 (by omega) (by omega) (by omega) c0 hst1 (R_cacheHits (d := d + 5) L1.1) (R_indexReads (d := d + 5) L1.1) hlt c5 ?_
  refine Z_sa2 gK gl hj hv ?_
  rw [e3]
  exact Z_sa3 L3.k8 L4.k8 hdl (by omega) (by omega) (by omega) (by omega) hhi (by omega) hel (by omega) (by omega) hlz (Call_up (R_draftLength (d := d) L3.1) (by omega)) hst3 c8 (R_cacheHits (d := d + 5) L4.1) (R_indexReads (d := d + 5) L4.1) hnz tail
end SV3
