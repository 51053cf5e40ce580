/-! a save, whole: what it leaves -/
section SV2
variable {d S X G L n0 u0 c : Nat} {va ba ca : Nat → Nat} {dr kl : List Nat} {vf vn : Nat → Nat} {vb ve : Nat → List Nat} {vp : Nat → Option Nat} {nx na : Nat → Nat} {sv : Nat} {cb : Nat → List Nat} {us : Nat → Nat} {bl cs : List Nat} {co : Nat → List Nat} {op hi re st : Nat} {rw : List Nat} {bx : Nat → Nat} {ud : Nat} {T T' T1 T2 : TS}
theorem zS_gone (Z : ZS) (bs : List Nat) : zop (zS Z bs) + (zbl Z).length = zop Z + (zbl (zS Z bs)).length := by
  obtain ⟨zc, zu, zb, zo, zp, zk, zh, zr, zt, ze⟩ := Z
  unfold zS
  simp only [zcb, zst, zop, zcs, zhi, zre, zes, zus, zbl, zco]
  split
  · rfl
  · split
    · rfl
    · simp only [opF, blF]
      split
      · rfl
      · rw [List.length_append, List.length_singleton]
        omega
theorem zSn_gone (pb : Nat → List Nat) (Z : ZS) : ∀ n, zop (zSn pb Z n) + (zbl Z).length = zop Z + (zbl (zSn pb Z n)).length := by
  intro n
  induction n with
  | zero => rfl
  | succ n ih =>
    have := zS_gone (zSn pb Z n) (pb n)
    show zop (zS (zSn pb Z n) (pb n)) + _ = _ + (zbl (zS (zSn pb Z n) (pb n))).length
    omega
theorem SI.congr {U U' : Nat → Nat} (h : SI U us cb bl co op cs rw bx ud st) (e : ∀ n, U n = U' n) : SI U' us cb bl co op cs rw bx ud st := by
  obtain ⟨s1, s2, s3, s4⟩ := h
  exact ⟨s1, s2, fun n hn => by obtain ⟨a1, a2, a3, a4⟩ := s3 n hn; exact ⟨a1, a2, a3, by rw [a4, e]⟩, s4⟩
/-- the base that is chosen -/
theorem newB_is {j : Nat} {es : List Nat} (hK : KI kl vf vn vb ve vp nx cb rw) (hj : j < 6) : newB kl vf ve vp j es = none ∨ ∃ k, newB kl vf ve vp j es = some k ∧ lk kl vf (nI j) = some k ∧ k ∈ kl ∧ vf k = j ∧ dif es (ve k) < es.length := by
  unfold newB
  cases e2 : lk kl vf (nI j) with
  | none => exact Or.inl rfl
  | some x =>
    dsimp only
    by_cases q : chO vp 3 (vp x) < 3 ∧ dif es (ve x) < es.length
    · obtain ⟨a1, a2⟩ := lk_mem e2
      rw [if_pos q]
      exact Or.inr ⟨x, rfl, rfl, a1, ff_inj (by have := hK.b6 x a1; omega) (by omega) a2, q.2⟩
    · rw [if_neg q]
      exact Or.inl rfl
/-- what holds beside, behind a save -/
theorem PV.save {j z : Nat} {es : List Nat} {cb' : Nat → List Nat} {cs' : List Nat} (hP : PV kl vf vn vb ve vp cb cs) (hK : KI kl vf vn vb ve vp nx cb rw) (hz : z ∉ kl) (hj : j < 6) (hr : ∀ n ∈ rw, cb' n = cb n) (hes : es.map cb' = (cuts dr 0).map (sub dr)) (hb : ∀ x ∈ dr, x < 256) (hcs : cs'.Nodup) (hn : nx j < 64) : PV (kl ++ [z]) (up1 vf z j) (up1 vn z (nx j)) (up1 vb z dr) (up1 ve z es) (up1 vp z (newB kl vf ve vp j es)) cb' cs' := by
  obtain ⟨p1, p2, p3, p4, p5⟩ := hP
  have hin : ∀ k ∈ kl ++ [z], k ∈ kl ∨ k = z := fun k hk => by
    rcases List.mem_append.mp hk with q | q
    · exact Or.inl q
    · exact Or.inr (List.mem_singleton.mp q)
  refine ⟨fun k hk => ?_, fun k hk => ?_, fun k hk i hi => ?_, hcs, fun k hk => ?_⟩
  · rcases hin k hk with q | q
    · rw [upn q hz, upn q hz, ← p1 k q]
      exact List.map_congr_left (fun x hx => hr x ((hK.2.2.2.2.2.2 k q).1 x hx))
    · rw [q, up1_at, up1_at]
      exact hes
  · rcases hin k hk with q | q
    · rw [upn q hz]
      exact p2 k q
    · rw [q, up1_at]
      exact hb
  · rcases hin k hk with q | q
    · rw [upn q hz] at hi
      have hik := (hK.2.2.2.2.1 k q i hi).1
      rw [upn q hz, upn hik hz, upn q hz, upn hik hz]
      exact p3 k q i hi
    · rw [q, up1_at] at hi
      rcases newB_is (es := es) hK hj with e | ⟨x, e, -, h2, h3, h4⟩
      · rw [e] at hi; cases hi
      · rw [e] at hi
        cases hi
        have := (hK.2.2.2.1 i h2).2.1
        rw [h3] at this
        rw [q, up1_at, up1_at, upn h2 hz, upn h2 hz]
        exact ⟨this, h4⟩
  · rcases hin k hk with q | q
    · rw [upn q hz]
      exact p5 k q
    · rw [q, up1_at]
      exact hn
theorem L_save {j : Nat} (hL : LV T X va ba ca dr kl vf vn vb ve vp nx sv cb us bl co op cs hi re st rw bx ud) (hC : CT c dr rw cb nx sv ud st hi re) (hw : wf T) (hc : c < 60) (hj : j < 6) (hl : kl.length < 20) : CallQ (d + 8) 87 [.ref X, .int (nI j)] T (fun q T' => q = .inl (some (.int (nI (nx j)))) ∧ ∃ (va' ba' ca' : Nat → Nat) (kl' : List Nat) (vf' vn' : Nat → Nat) (vb' ve' : Nat → List Nat) (vp' : Nat → Option Nat) (cb' : Nat → List Nat) (us' : Nat → Nat) (bl' : List Nat) (co' : Nat → List Nat) (op' : Nat) (cs' : List Nat) (hi' re' st' : Nat) (rw' : List Nat) (bx' : Nat → Nat) (ud' z : Nat), LV T' X va' ba' ca' dr kl' vf' vn' vb' ve' vp' (up1 nx j (nx j + 1)) (sv + 1) cb' us' bl' co' op' cs' hi' re' st' rw' bx' ud' ∧ CT (c + 1) dr rw' cb' (up1 nx j (nx j + 1)) (sv + 1) ud' st' hi' re' ∧ (z ∈ kl' ∧ vf' z = j ∧ vn' z = nx j ∧ vb' z = dr ∧ ∀ f v, (∃ k ∈ kl', vf' k = f ∧ vn' k = v) ↔ ((∃ k ∈ kl, vf k = f ∧ vn k = v) ∨ (f = j ∧ v = nx j))) ∧ (numO vn' (vp' z) = -1 ∨ numO vn' (vp' z) = numO vn (lk kl vf (nI j))) ∧ byS cb' rw' = byS cb rw + wouldM rw cb dr [] (cuts dr 0) ∧ wouldM rw' cb' dr [] (cuts dr 0) = 0 ∧ hi ≤ hi' ∧ hi' + re' = hi + re + (ve' z).length ∧ (ve' z).foldl mxf st = st' ∧ (∀ es n, ve' z = es ++ [n] → cs'.getD 0 0 = bx' n ∧ 0 < cs'.length) ∧ (∃ n u, fr (fun a => shM (X + 5) ba ca bl co a ∨ a = X ∨ a = X + 3 ∨ a = X + 4) n u T T') ∧ am 209 3355 T T' (ba op) (ba' op') op op' ∧ op' + bl.length = op + bl'.length) := by
  obtain ⟨hX, hK, hS, hP, hu⟩ := hL
  have hdl : dr.length ≤ 240 := hX.2.1.1.2.2.2.2.2.1
  have hdb : ∀ x ∈ dr, x < 256 := hX.2.1.2
  obtain ⟨z1, z2, -⟩ := fre_is (kl := kl) (by rw [hK.len]; omega)
  obtain ⟨p1, p2, p3, p4⟩ := pieces_len hdl
  have hlim := hC.lim
  have hnx := hC.2.2.2.2.2.1 j
  have hsv := hC.2.2.2.2.2.2.1
  have qok := hC.room (sf := fun _ => 0) (by omega) hS hdl
  have hZ0 : ZQ (uO kl ve) (Z0 cb us bl co op cs hi re st) (rw, bx, (fun _ => 0), cb, ud, st, op, cs, hi, re, []) := by
    refine ⟨rfl, rfl, rfl, rfl, rfl, rfl, rfl, hS.congr (fun n => rfl), fun n hn => absurd hn List.not_mem_nil, fun n hn => uO_zero hK.1 hK.2.1 (fun k hk q => ?_), fun n => uO_le hK.1 hK.2.1 (fun k hk => (hK.2.2.2.2.2.2 k hk).2.2)⟩
    have := (hS.2.2.1 n ((hK.2.2.2.2.2.2 k hk).1 n q)).1
    omega
  obtain ⟨R1, R2⟩ := ZQ.run (pb := pbs dr) _ _ _ hZ0 qok hlim.1 p3 p4
  have hX2 := QX.all ((cuts dr 0).map (sub dr)) (rw, bx, (fun _ => 0), cb, ud, st, op, cs, hi, re, []) (fun n hn => (hS.2.2.1 n hn).1) (fun n hn => absurd hn List.not_mem_nil)
  obtain ⟨hQ1, hQ2⟩ := save_num (rw := rw) (bx := bx) (sf := fun _ => 0) (cb := cb) (ud := ud) (st := st) (op := op) (cs := cs) (hi := hi) (re := re) (dr := dr) (fun n hn => (hS.2.2.1 n hn).1) hP.2.2.2.1
  have hCs := hC.save (j := j) (by omega) hdl hX2
  have hgone := zSn_gone (pbs dr) (Z0 cb us bl co op cs hi re st) ((cuts dr 0).map (sub dr)).length
  rw [List.length_map] at R1 R2 hgone
  obtain ⟨_, T1, c1, rfl, ba1, ca1, v, x1, F, A⟩ := X_save3 (d := d) (z := fre kl) hw hX hj hl (by omega) (by omega) (fun k hk n hn => (hS.2.2.1 n ((hS.1.co hk).mp hn).1).1) z2 R1
  have eZ : zEnd dr cb us bl co op cs hi re st = zSn (pbs dr) (Z0 cb us bl co op cs hi re st) (cuts dr 0).length := rfl
  rw [← eZ] at R2 hgone
  have hz0 : zop (Z0 cb us bl co op cs hi re st) = op := rfl
  have hz1 : zbl (Z0 cb us bl co op cs hi re st) = bl := rfl
  rw [hz0, hz1] at hgone
  generalize zEnd dr cb us bl co op cs hi re st = Z at *
  generalize ((cuts dr 0).map (sub dr)).foldl qS (rw, bx, (fun _ => 0), cb, ud, st, op, cs, hi, re, []) = Q' at *
  obtain ⟨rw', bx', sf', cb', ud', st', op', cs', hi', re', es'⟩ := Q'
  obtain ⟨e1, e2, e3, e4, e5, e6, e7, hS', hes, -, -⟩ := R2
  simp only [e1, e2, e3, e4, e5, e6, e7] at x1 A hS'
  rw [e3] at hgone
  obtain ⟨b1, b2, b3, b4, b5, b6, b7, b8, b9, b10, b11, b12, b13⟩ := hX2
  simp only [qrw, qcb, qud, qst, qhi, qre, qes] at b1 b2 b3 b4 b5 b7 b8
  obtain ⟨i1, i2, i3, i4, i5, i6, i7, i8⟩ := hQ1
  simp only [qrw, qcb, qud, qst, qhi, qre, qes, qcs, qbx] at i1 i2 i3 i4 i5 i6 i8 hQ2
  have hK' := hK.save (dr := dr) (es := es') (cb' := cb') (rw' := rw') z2 z1 hj (by omega) b1 ⟨hes, by rw [b7, p2]; exact Nat.zero_add _, by rw [b8]; simpa using p1⟩
  have hP' := hP.save (j := j) (z := fre kl) (es := es') (cb' := cb') (cs' := cs') hK z2 hj (fun n hn => (b1 n hn).2) i3 hdb (i5 hP.2.2.2.1) (by omega)
  have hlim' := hCs.lim
  refine ⟨_, T1, c1, rfl, _, ba1, ca1, _, _, _, _, _, _, cb', _, _, _, op', cs', hi', re', st', rw', bx', ud', fre kl, ⟨x1, hK', hS'.congr (fun n => (uO_save hK.1 hK.2.1 z2 z1).symm), hP', hlim'.1⟩, hCs, ⟨List.mem_append.mpr (Or.inr (List.mem_singleton.mpr rfl)), up1_at _ _ _, up1_at _ _ _, up1_at _ _ _, fun f w => ?_⟩, ?_, hQ2, ?_, i8, ?_, ?_, fun es n q => ?_, F, A, hgone⟩
  · constructor
    · rintro ⟨k, hk, q1, q2⟩
      rcases List.mem_append.mp hk with q | q
      · rw [upn q z2] at q1 q2
        exact Or.inl ⟨k, q, q1, q2⟩
      · rw [List.mem_singleton.mp q, up1_at] at q1 q2
        exact Or.inr ⟨q1.symm, q2.symm⟩
    · rintro (⟨k, hk, q1, q2⟩ | ⟨q1, q2⟩)
      · exact ⟨k, List.mem_append.mpr (Or.inl hk), by rw [upn hk z2]; exact q1, by rw [upn hk z2]; exact q2⟩
      · exact ⟨fre kl, List.mem_append.mpr (Or.inr (List.mem_singleton.mpr rfl)), by rw [up1_at]; exact q1.symm, by rw [up1_at]; exact q2.symm⟩
  · rw [up1_at]
    rcases newB_is (es := es') hK hj with e | ⟨x, e, h1, h2, h3, h4⟩
    · rw [e]
      exact Or.inl rfl
    · rw [e, h1]
      refine Or.inr ?_
      show nI (up1 vn (fre kl) (nx j) x) = nI (vn x)
      rw [upn h2 z2]
  · exact wouldM_0 _ _ (fun q hq => b5 (sub dr q) (List.mem_map.mpr ⟨q, hq, rfl⟩))
  · rw [up1_at, b8, b4]
    show _ = _ + ([] : List Nat).length + _
    simp
  · rw [up1_at]
    exact i4
  · rw [up1_at] at q
    exact i6 es n q
end SV2
