/-! what a save leaves, beside both sides' agreement: bytes of entries, what was new, the cache's head -/
section SV
def mxf (m n : Nat) : Nat := max m (n + 1)
/-- from Q0 on, over the pieces P -/
def QI (Q0 Q : QS) (P : List (List Nat)) : Prop :=
  (∀ n ∈ qes Q, n ∈ qrw Q) ∧ (∀ n ∈ qrw Q, n < qst Q) ∧ (qes Q).map (qcb Q) = P ∧ (qes Q).foldl mxf (qst Q0) = qst Q ∧ ((qcs Q0).Nodup → (qcs Q).Nodup) ∧ (∀ es n, qes Q = es ++ [n] → (qcs Q).getD 0 0 = qbx Q n ∧ 0 < (qcs Q).length) ∧ (∀ bs, (∃ n ∈ qrw Q, qcb Q n = bs) ↔ ((∃ n ∈ qrw Q0, qcb Q0 n = bs) ∨ bs ∈ P)) ∧ qhi Q0 ≤ qhi Q
theorem useC_head (b : Nat) (cs : List Nat) : (useC b cs).getD 0 0 = b ∧ 0 < (useC b cs).length := ⟨rfl, by show 0 < (b :: (cs.filter _).take 2).length; rw [List.length_cons]; omega⟩
theorem useC_nd {b : Nat} {cs : List Nat} (h : cs.Nodup) : (useC b cs).Nodup := by
  unfold useC
  refine List.Nodup.sublist (List.take_sublist _ _) ?_
  refine List.nodup_cons.mpr ⟨fun q => ?_, h.filter _⟩
  have := (List.mem_filter.mp q).2
  simp at this
theorem QI.one {Q0 Q : QS} {P : List (List Nat)} {bs : List Nat} (h : QI Q0 Q P) : QI Q0 (qS Q bs) (P ++ [bs]) ∧ byS (qcb (qS Q bs)) (qrw (qS Q bs)) = byS (qcb Q) (qrw Q) + if fstR (qrw Q) (qcb Q) bs = none then bs.length else 0 := by
  obtain ⟨rw, bx, sf, cb, ud, st, op, cs, hi, re, es⟩ := Q
  obtain ⟨h1, h2, h3, h4, h5, h6, h7, h8⟩ := h
  have h1 : ∀ n ∈ es, n ∈ rw := h1
  have h2 : ∀ n ∈ rw, n < st := h2
  have h3 : es.map cb = P := h3
  have h4 : es.foldl mxf (qst Q0) = st := h4
  have h5 : (qcs Q0).Nodup → cs.Nodup := h5
  have h7 : ∀ bs, (∃ n ∈ rw, cb n = bs) ↔ ((∃ n ∈ qrw Q0, qcb Q0 n = bs) ∨ bs ∈ P) := h7
  have h8 : qhi Q0 ≤ hi := h8
  cases e : fstR rw cb bs with
  | some i =>
    obtain ⟨f1, f2⟩ := fstR_got e
    have eq : qS (rw, bx, sf, cb, ud, st, op, cs, hi, re, es) bs = (rw, bx, sf, cb, ud, st, op, useC (bx (rw.getD i 0)) cs, if bx (rw.getD i 0) ∈ cs then hi + 1 else hi, if bx (rw.getD i 0) ∈ cs then re else re + 1, es ++ [rw.getD i 0]) := by
      unfold qS
      dsimp only
      rw [e]
    rw [eq]
    generalize rw.getD i 0 = m at *
    refine ⟨⟨?_, h2, ?_, ?_, fun q => useC_nd (h5 q), ?_, ?_, ?_⟩, ?_⟩
    · intro n hn
      rcases List.mem_append.mp hn with q | q
      · exact h1 n q
      · rw [List.mem_singleton.mp q]; exact f1
    · show (es ++ [m]).map cb = _
      rw [List.map_append, h3]
      show P ++ [cb m] = _
      rw [f2]
    · show (es ++ [m]).foldl mxf _ = st
      rw [List.foldl_append, h4]
      show max st (m + 1) = st
      have := h2 m f1
      omega
    · intro es' n q
      have q : es ++ [m] = es' ++ [n] := q
      have := (List.append_inj' q rfl).2
      rw [← List.singleton_inj.mp this]
      exact useC_head _ _
    · intro bs'
      show (∃ n ∈ rw, cb n = bs') ↔ _
      rw [h7 bs', List.mem_append]
      constructor
      · rintro (q | q)
        · exact Or.inl q
        · exact Or.inr (Or.inl q)
      · rintro (q | q | q)
        · exact Or.inl q
        · exact Or.inr q
        · rw [List.mem_singleton.mp q]
          exact (h7 bs).mp ⟨m, f1, f2⟩
    · show _ ≤ if bx m ∈ cs then hi + 1 else hi
      split <;> omega
    · show byS cb rw = byS cb rw + if fstR rw cb bs = none then bs.length else 0
      rw [e, if_neg (by simp)]
      rfl
  | none =>
    have f0 := fstR_none.mp e
    have eq : qS (rw, bx, sf, cb, ud, st, op, cs, hi, re, es) bs = (rw ++ [st], up1 bx st (opR rw bx cb op bs.length), up1 sf st ud, up1 cb st bs, ud + bs.length, st + 1, opR rw bx cb op bs.length, useC (opR rw bx cb op bs.length) cs, hi, re + 1, es ++ [st]) := by
      unfold qS
      dsimp only
      rw [e]
    rw [eq]
    have hst : st ∉ rw := fun q => Nat.lt_irrefl _ (h2 st q)
    have cbo : ∀ n ∈ rw, up1 cb st bs n = cb n := fun n hn => upn hn hst
    have cbs : up1 cb st bs st = bs := up1_at _ _ _
    refine ⟨⟨?_, ?_, ?_, ?_, fun q => useC_nd (h5 q), ?_, ?_, h8⟩, ?_⟩
    · intro n hn
      rcases List.mem_append.mp hn with q | q
      · exact List.mem_append.mpr (Or.inl (h1 n q))
      · exact List.mem_append.mpr (Or.inr q)
    · intro n hn
      show n < st + 1
      rcases List.mem_append.mp hn with q | q
      · have := h2 n q; omega
      · rw [List.mem_singleton.mp q]; omega
    · show (es ++ [st]).map (up1 cb st bs) = _
      rw [List.map_append, List.map_congr_left (fun n hn => cbo n (h1 n hn)), h3]
      show P ++ [up1 cb st bs st] = _
      rw [cbs]
    · show (es ++ [st]).foldl mxf _ = st + 1
      rw [List.foldl_append, h4]
      show max st (st + 1) = st + 1
      omega
    · intro es' n q
      have q : es ++ [st] = es' ++ [n] := q
      have := (List.append_inj' q rfl).2
      rw [← List.singleton_inj.mp this]
      have a := useC_head (opR rw bx cb op bs.length) cs
      refine ⟨?_, a.2⟩
      show (useC _ cs).getD 0 0 = up1 bx st _ st
      rw [up1_at]
      exact a.1
    · intro bs'
      show (∃ n ∈ rw ++ [st], up1 cb st bs n = bs') ↔ _
      rw [List.mem_append, ← or_assoc, ← h7 bs']
      constructor
      · rintro ⟨n, hn, q⟩
        rcases List.mem_append.mp hn with z | z
        · rw [cbo n z] at q
          exact Or.inl ⟨n, z, q⟩
        · rw [List.mem_singleton.mp z, cbs] at q
          exact Or.inr (List.mem_singleton.mpr q.symm)
      · rintro (⟨n, hn, q⟩ | q)
        · exact ⟨n, List.mem_append.mpr (Or.inl hn), by rw [cbo n hn]; exact q⟩
        · exact ⟨st, List.mem_append.mpr (Or.inr (List.mem_singleton.mpr rfl)), by rw [cbs]; exact (List.mem_singleton.mp q).symm⟩
    · show byS (up1 cb st bs) (rw ++ [st]) = byS cb rw + if fstR rw cb bs = none then bs.length else 0
      rw [e, if_pos rfl, byS_one, cbs, byS_up hst]
/-- all pieces -/
theorem QI.run {Q0 : QS} {dr : List Nat} : ∀ (R P : List (Nat × Nat)) (Q : QS), QI Q0 Q (P.map (sub dr)) → (∀ q ∈ R, (sub dr q).length = q.2) → QI Q0 ((R.map (sub dr)).foldl qS Q) ((P ++ R).map (sub dr)) ∧ byS (qcb ((R.map (sub dr)).foldl qS Q)) (qrw ((R.map (sub dr)).foldl qS Q)) = byS (qcb Q) (qrw Q) + wouldM (qrw Q0) (qcb Q0) dr P R := by
  intro R
  induction R with
  | nil =>
    intro P Q h _
    rw [List.append_nil]
    exact ⟨h, rfl⟩
  | cons q R ih =>
    intro P Q h hl
    obtain ⟨o1, o2⟩ := h.one (bs := sub dr q)
    have e : P.map (sub dr) ++ [sub dr q] = (P ++ [q]).map (sub dr) := by rw [List.map_append]; rfl
    rw [e] at o1
    obtain ⟨i1, i2⟩ := ih (P ++ [q]) (qS Q (sub dr q)) o1 (fun z hz => hl z (List.mem_cons_of_mem _ hz))
    rw [List.append_assoc] at i1
    refine ⟨i1, ?_⟩
    show byS (qcb ((R.map (sub dr)).foldl qS (qS Q (sub dr q)))) (qrw ((R.map (sub dr)).foldl qS (qS Q (sub dr q)))) = _
    rw [i2, o2]
    show _ = _ + ((if fstR (qrw Q0) (qcb Q0) (sub dr q) = none ∧ ∀ p ∈ P, ¬ sub dr p = sub dr q then q.2 else 0) + _)
    have ec : (fstR (qrw Q) (qcb Q) (sub dr q) = none) ↔ (fstR (qrw Q0) (qcb Q0) (sub dr q) = none ∧ ∀ p ∈ P, ¬ sub dr p = sub dr q) := by
      rw [fstR_none, fstR_none]
      have h7 := h.2.2.2.2.2.2.1 (sub dr q)
      constructor
      · intro z
        have hn : ¬ ∃ n ∈ qrw Q, qcb Q n = sub dr q := fun ⟨n, hn, e⟩ => z n hn e
        rw [h7] at hn
        exact ⟨fun n hn2 e => hn (Or.inl ⟨n, hn2, e⟩), fun p hp e => hn (Or.inr (List.mem_map.mpr ⟨p, hp, e⟩))⟩
      · rintro ⟨z1, z2⟩ n hn e
        rcases h7.mp ⟨n, hn, e⟩ with ⟨m, hm, e2⟩ | z
        · exact z1 m hm e2
        · obtain ⟨p, hp, e2⟩ := List.mem_map.mp z
          exact z2 p hp e2
    rw [hl q List.mem_cons_self]
    by_cases c : fstR (qrw Q) (qcb Q) (sub dr q) = none
    · rw [if_pos c, if_pos (ec.mp c)]
      omega
    · rw [if_neg c, if_neg (fun z => c (ec.mpr z))]
      omega
theorem wouldM_0 {rw dr : List Nat} {cb : Nat → List Nat} : ∀ (R P : List (Nat × Nat)), (∀ q ∈ R, ∃ n ∈ rw, cb n = sub dr q) → wouldM rw cb dr P R = 0 := by
  intro R
  induction R with
  | nil => intro P _; rfl
  | cons q R ih =>
    intro P h
    show (if _ then q.2 else 0) + _ = 0
    obtain ⟨n, hn, e⟩ := h q List.mem_cons_self
    rw [if_neg (fun z => fstR_none.mp z.1 n hn e), ih _ (fun z hz => h z (List.mem_cons_of_mem _ hz))]
theorem cuts_subl (dr : List Nat) : ∀ q ∈ cuts dr 0, (sub dr q).length = q.2 := fun q hq => sub_len ((cuts_mem 0 q hq).2.2.2.1)
/-- a save, its numbers -/
theorem save_num {rw : List Nat} {bx sf : Nat → Nat} {cb : Nat → List Nat} {ud st op : Nat} {cs : List Nat} {hi re : Nat} {dr : List Nat} (h : ∀ n ∈ rw, n < st) (hnd : cs.Nodup) : QI (rw, bx, sf, cb, ud, st, op, cs, hi, re, []) (((cuts dr 0).map (sub dr)).foldl qS (rw, bx, sf, cb, ud, st, op, cs, hi, re, [])) ((cuts dr 0).map (sub dr)) ∧ byS (qcb (((cuts dr 0).map (sub dr)).foldl qS (rw, bx, sf, cb, ud, st, op, cs, hi, re, []))) (qrw (((cuts dr 0).map (sub dr)).foldl qS (rw, bx, sf, cb, ud, st, op, cs, hi, re, []))) = byS cb rw + wouldM rw cb dr [] (cuts dr 0) := by
  have h0 : QI (rw, bx, sf, cb, ud, st, op, cs, hi, re, []) (rw, bx, sf, cb, ud, st, op, cs, hi, re, []) (([] : List (Nat × Nat)).map (sub dr)) := by
    refine ⟨fun n hn => absurd hn List.not_mem_nil, h, rfl, rfl, fun q => q, ?_, fun bs => ?_, Nat.le_refl _⟩
    · intro es n q
      have q : [] = es ++ [n] := q
      have := congrArg List.length q
      simp at this
    · constructor
      · exact fun q => Or.inl q
      · rintro (q | q)
        · exact q
        · exact absurd q List.not_mem_nil
  exact QI.run (cuts dr 0) [] _ h0 (cuts_subl dr)
end SV
