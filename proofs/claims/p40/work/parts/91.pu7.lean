/-! save: both sides, all pieces -/
section PU7
variable {U : Nat → Nat}
def qrw (Q : QS) := Q.1
def qbx (Q : QS) := Q.2.1
def qsf (Q : QS) := Q.2.2.1
def qcb (Q : QS) := Q.2.2.2.1
def qud (Q : QS) := Q.2.2.2.2.1
def qst (Q : QS) := Q.2.2.2.2.2.1
def qop (Q : QS) := Q.2.2.2.2.2.2.1
def qcs (Q : QS) := Q.2.2.2.2.2.2.2.1
def qhi (Q : QS) := Q.2.2.2.2.2.2.2.2.1
def qre (Q : QS) := Q.2.2.2.2.2.2.2.2.2.1
def qes (Q : QS) := Q.2.2.2.2.2.2.2.2.2.2
/-- how a save goes on from Q to Q', over the pieces L -/
def QX (Q Q' : QS) (L : List (List Nat)) : Prop := (∀ n ∈ qrw Q, n ∈ qrw Q' ∧ qcb Q' n = qcb Q n) ∧ qud Q' ≤ qud Q + (L.map List.length).sum ∧ qst Q' ≤ qst Q + L.length ∧ qhi Q' + qre Q' = qhi Q + qre Q + L.length ∧ (∀ bs ∈ L, ∃ n ∈ qrw Q', qcb Q' n = bs) ∧ ((∀ bs ∈ L, fstR (qrw Q) (qcb Q) bs ≠ none) → qud Q' = qud Q ∧ qst Q' = qst Q) ∧ byS (qcb Q') (qes Q') = byS (qcb Q) (qes Q) + (L.map List.length).sum ∧ (qes Q').length = (qes Q).length + L.length ∧ (∀ n ∈ qrw Q', n < qst Q') ∧ (∀ n ∈ qes Q', n ∈ qrw Q') ∧ (∀ n ∈ qrw Q', n ∈ qrw Q ∨ qst Q ≤ n) ∧ qst Q ≤ qst Q' ∧ qud Q ≤ qud Q'
theorem byS_one (cb : Nat → List Nat) (es : List Nat) (n : Nat) : byS cb (es ++ [n]) = byS cb es + (cb n).length := by
  unfold byS
  rw [List.map_append, List.sum_append]
  rfl
theorem QX.one {Q : QS} {bs : List Nat} (h1 : ∀ n ∈ qrw Q, n < qst Q) (h2 : ∀ n ∈ qes Q, n ∈ qrw Q) : QX Q (qS Q bs) [bs] := by
  obtain ⟨rw, bx, sf, cb, ud, st, op, cs, hi, re, es⟩ := Q
  simp only [qrw, qst, qes] at h1 h2
  cases e : fstR rw cb bs with
  | some i =>
    obtain ⟨f1, f2⟩ := fstR_got e
    have eq : qS (rw, bx, sf, cb, ud, st, op, cs, hi, re, es) bs = (rw, bx, sf, cb, ud, st, op, useC (bx (rw.getD i 0)) cs, if bx (rw.getD i 0) ∈ cs then hi + 1 else hi, if bx (rw.getD i 0) ∈ cs then re else re + 1, es ++ [rw.getD i 0]) := by
      unfold qS
      dsimp only
      rw [e]
    rw [eq]
    clear eq e
    generalize rw.getD i 0 = n at *
    simp only [QX, qrw, qcb, qud, qst, qhi, qre, qes, List.map_cons, List.map_nil, List.sum_cons, List.sum_nil, List.length_singleton, List.length_append, byS_one]
    refine ⟨fun n hn => ⟨hn, by trivial⟩, by omega, by omega, ?_, fun b hb => ⟨n, f1, by rw [List.mem_singleton.mp hb]; exact f2⟩, fun _ => ⟨by trivial, by trivial⟩, by rw [f2, Nat.add_zero], by trivial, h1, fun x hx => ?_, fun x hx => Or.inl hx, Nat.le_refl _, Nat.le_refl _⟩
    · split <;> omega
    · rcases List.mem_append.mp hx with hx | hx
      · exact h2 x hx
      · rw [List.mem_singleton.mp hx]; exact f1
  | none =>
    have hn : st ∉ rw := fun q => absurd (h1 st q) (Nat.lt_irrefl _)
    have eq : qS (rw, bx, sf, cb, ud, st, op, cs, hi, re, es) bs = (rw ++ [st], up1 bx st (opR rw bx cb op bs.length), up1 sf st ud, up1 cb st bs, ud + bs.length, st + 1, opR rw bx cb op bs.length, useC (opR rw bx cb op bs.length) cs, hi, re + 1, es ++ [st]) := by
      unfold qS
      dsimp only
      rw [e]
    rw [eq]
    simp only [QX, qrw, qcb, qud, qst, qhi, qre, qes, List.map_cons, List.map_nil, List.sum_cons, List.sum_nil, List.length_singleton, List.length_append, byS_one]
    have hse : st ∉ es := fun q => hn (h2 st q)
    refine ⟨fun n hx => ⟨List.mem_append.mpr (Or.inl hx), upn hx hn⟩, by omega, by omega, by omega, fun b hb => ⟨st, List.mem_append.mpr (Or.inr (List.mem_singleton.mpr rfl)), by rw [List.mem_singleton.mp hb, up1_e, if_pos rfl]⟩, fun q => absurd e (q bs (List.mem_singleton.mpr rfl)), ?_, by trivial, fun x hx => ?_, fun x hx => ?_, fun x hx => ?_, by omega, by omega⟩
    · rw [byS_up hse, up1_e, if_pos rfl, Nat.add_zero]
    · rcases List.mem_append.mp hx with hx | hx
      · have := h1 x hx; omega
      · rw [List.mem_singleton.mp hx]; omega
    · rcases List.mem_append.mp hx with hx | hx
      · exact List.mem_append.mpr (Or.inl (h2 x hx))
      · exact List.mem_append.mpr (Or.inr hx)
    · rcases List.mem_append.mp hx with hx | hx
      · exact Or.inl hx
      · rw [List.mem_singleton.mp hx]; exact Or.inr (Nat.le_refl _)
theorem QX.tr {Q Q1 Q2 : QS} {L L' : List (List Nat)} (h : QX Q Q1 L) (h' : QX Q1 Q2 L') (h0 : ∀ n ∈ qrw Q, n < qst Q) : QX Q Q2 (L ++ L') := by
  obtain ⟨a1, a2, a3, a4, a5, a6, a7, a8, a9, a10, a11, a12, a13⟩ := h
  obtain ⟨b1, b2, b3, b4, b5, b6, b7, b8, b9, b10, b11, b12, b13⟩ := h'
  simp only [QX, List.map_append, List.sum_append, List.length_append]
  refine ⟨fun n hn => ?_, by omega, by omega, by omega, fun bs hb => ?_, fun q => ?_, by omega, by omega, b9, b10, fun n hn => ?_, by omega, by omega⟩
  · obtain ⟨x1, x2⟩ := a1 n hn
    obtain ⟨y1, y2⟩ := b1 n x1
    exact ⟨y1, by rw [y2, x2]⟩
  · rcases List.mem_append.mp hb with hb | hb
    · obtain ⟨n, hn, e⟩ := a5 bs hb
      obtain ⟨y1, y2⟩ := b1 n hn
      exact ⟨n, y1, by rw [y2, e]⟩
    · exact b5 bs hb
  · obtain ⟨x1, x2⟩ := a6 (fun bs hb => q bs (List.mem_append.mpr (Or.inl hb)))
    obtain ⟨y1, y2⟩ := b6 (fun bs hb e => by
      have := q bs (List.mem_append.mpr (Or.inr hb))
      refine this (fstR_none.mpr (fun n hn e2 => ?_))
      obtain ⟨z1, z2⟩ := a1 n hn
      exact fstR_none.mp e n z1 (by rw [z2, e2]))
    exact ⟨by omega, by omega⟩
  · rcases b11 n hn with q | q
    · exact a11 n q
    · exact Or.inr (by omega)
theorem QX.all : ∀ (L : List (List Nat)) (Q : QS), (∀ n ∈ qrw Q, n < qst Q) → (∀ n ∈ qes Q, n ∈ qrw Q) → QX Q (L.foldl qS Q) L := by
  intro L
  induction L with
  | nil =>
    intro Q h1 h2
    exact ⟨fun n hn => ⟨hn, rfl⟩, Nat.le_refl _, Nat.le_refl _, rfl, fun bs hb => absurd hb List.not_mem_nil, fun _ => ⟨rfl, rfl⟩, rfl, rfl, h1, h2, fun n hn => Or.inl hn, Nat.le_refl _, Nat.le_refl _⟩
  | cons bs L ih =>
    intro Q h1 h2
    have o := QX.one (bs := bs) h1 h2
    have o' := o
    obtain ⟨-, -, -, -, -, -, -, -, a9, a10, -⟩ := o'
    exact o.tr (ih (qS Q bs) a9 a10) h1
theorem ZQ.props {Z : ZS} {Q : QS} (h : ZQ U Z Q) : (∀ n ∈ qrw Q, n < qst Q) ∧ ∀ n ∈ qes Q, n ∈ qrw Q := by
  obtain ⟨rw, bx, sf, cb, ud, st, op, cs, hi, re, es⟩ := Q
  obtain ⟨e1, e2, e3, e4, e5, e6, e7, hS, hes, hU0, hU6⟩ := h
  exact ⟨fun n hn => (hS.2.2.1 n hn).1, hes⟩
/-- all pieces, both sides -/
theorem ZQ.run {pb : Nat → List Nat} : ∀ (L : List (List Nat)) (Z : ZS) (Q : QS), ZQ U Z Q → qOK L Q → qud Q ≤ 61440 → (∀ bs ∈ L, 1 ≤ bs.length ∧ bs.length ≤ 32) → (∀ m, m < L.length → pb m = L.getD m []) → (∀ m, m < L.length → zOK (zSn pb Z m) (pb m)) ∧ ZQ U (zSn pb Z L.length) (L.foldl qS Q) := by
  have fold : ∀ (pb : Nat → List Nat) (Z : ZS) (m : Nat), zSn pb Z (m + 1) = zSn (fun i => pb (i + 1)) (zS Z (pb 0)) m := by
    intro pb Z m
    induction m with
    | zero => rfl
    | succ m ih =>
      show zS (zSn pb Z (m + 1)) (pb (m + 1)) = zS (zSn (fun i => pb (i + 1)) (zS Z (pb 0)) m) (pb (m + 1))
      rw [ih]
  intro L
  induction L generalizing pb with
  | nil => intro Z Q h _ _ _ _; exact ⟨fun m hm => absurd hm (Nat.not_lt_zero m), h⟩
  | cons bs L ih =>
    intro Z Q h ho hud hl hp
    have hp0 : pb 0 = bs := hp 0 (Nat.succ_pos _)
    have hx := h.props
    have q1 := QX.one (bs := bs) hx.1 hx.2
    have ho1 := qS_ok ho
    have hud1 : qud (qS Q bs) ≤ 61440 := by
      obtain ⟨-, a2, -, -, -, a6, -⟩ := q1
      obtain ⟨rw, bx, sf, cb, ud, st, op, cs, hi, re, es⟩ := Q
      obtain ⟨-, -, -, -, -, -, o⟩ := ho
      rcases o with ⟨-, o⟩ | o
      · rw [List.map_cons, List.sum_cons] at o
        simp only [List.map_cons, List.map_nil, List.sum_cons, List.sum_nil, Nat.add_zero] at a2
        have : qud (rw, bx, sf, cb, ud, st, op, cs, hi, re, es) = ud := rfl
        omega
      · rw [(a6 (fun b hb => o b (by rw [List.mem_singleton.mp hb]; exact List.mem_cons_self ..))).1]
        exact hud
    have hst : zOK Z bs ∧ ZQ U (zS Z bs) (qS Q bs) := by
      obtain ⟨rw, bx, sf, cb, ud, st, op, cs, hi, re, es⟩ := Q
      exact h.step ho hud (hl bs (List.mem_cons_self ..)).1 (hl bs (List.mem_cons_self ..)).2
    obtain ⟨i1, i2⟩ := ih (pb := fun i => pb (i + 1)) (zS Z bs) (qS Q bs) hst.2 ho1 hud1 (fun b hb => hl b (List.mem_cons_of_mem _ hb)) (fun m hm => hp (m + 1) (Nat.succ_lt_succ hm))
    refine ⟨fun m hm => ?_, ?_⟩
    · cases m with
      | zero =>
        show zOK Z (pb 0)
        rw [hp0]
        exact hst.1
      | succ m =>
        rw [fold, hp0]
        exact i1 m (Nat.lt_of_succ_lt_succ hm)
    · rw [List.length_cons, fold, hp0]
      exact i2
end PU7
