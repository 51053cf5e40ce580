/-! collect, whole; what holds of the chunks -/
section PU5
variable {cb : Nat → List Nat} {U us : Nat → Nat}
def mm (bl0 : List Nat) (c : Nat) : Nat := ((List.range c).filter (fun k => decide (k ∈ bl0))).length
theorem col_all {bl0 rw0 : List Nat} {op0 G0 : Nat} {C0 : CS} {D0 : RC} (h : CI cb U us bl0 rw0 op0 G0 0 C0 D0) (hG : G0 ≤ 122880) (hall : byS cb rw0 < 1000000) : ∀ c, c ≤ op0 → CI cb U us bl0 rw0 op0 G0 c (cSn cb us C0 (mm bl0 c)) (cRn cb U D0 c) ∧ ∀ m, m < mm bl0 c → cOK cb us (cSn cb us C0 m) := by
  intro c
  induction c with
  | zero => intro _; exact ⟨h, fun m hm => absurd hm (Nat.not_lt_zero m)⟩
  | succ c ih =>
    intro hc
    obtain ⟨h1, h2⟩ := ih (by omega)
    have hm : mm bl0 (c + 1) = mm bl0 c + if decide (c ∈ bl0) = true then 1 else 0 := rf_succ _ c
    by_cases e : c ∈ bl0
    · rw [if_pos (decide_eq_true e)] at hm
      obtain ⟨-, -, k1, k2⟩ := h1.ok (by omega) e hG hall
      rw [hm]
      refine ⟨k2, fun m hmm => ?_⟩
      by_cases e2 : m = mm bl0 c
      · rw [e2]; exact k1
      · exact h2 m (by omega)
    · rw [if_neg (fun q => e (of_decide_eq_true q))] at hm
      have hm' : mm bl0 (c + 1) = mm bl0 c := hm
      rw [hm']
      refine ⟨?_, h2⟩
      obtain ⟨a1, a2, a3, a4, a5, a6, a7, a8⟩ := h1
      have hcn : c ∉ (cSn cb us C0 (mm bl0 c)).1 := fun q => e ((a7 c (Nat.le_refl _) (by omega)).mp q)
      have hb0 : bIn (cRn cb U D0 c).1 (cRn cb U D0 c).2.1 cb c = 0 := bIn_no (fun n hn q => hcn (a1.mem.mpr (Or.inr ⟨n, hn, q⟩)))
      have eR : cRn cb U D0 (c + 1) = cRn cb U D0 c := by
        show cR cb U (cRn cb U D0 c) c = _
        unfold cR
        rw [hb0, if_neg (Nat.not_lt_zero _)]
      rw [eR]
      refine ⟨a1, a2, a3, a4, a5, ?_, fun k q1 q2 => a7 k (by omega) q2, a8⟩
      rw [rf_succ, if_neg (fun q => hcn (of_decide_eq_true q)), Nat.add_zero]
      exact a6
theorem len_by : ∀ l : List Nat, (∀ n ∈ l, 1 ≤ (cb n).length) → l.length ≤ byS cb l := by
  intro l
  unfold byS
  induction l with
  | nil => intro _; exact Nat.le_refl _
  | cons a l ih =>
    intro q
    have q1 := q a (List.mem_cons_self ..)
    have q2 := ih (fun n hn => q n (List.mem_cons_of_mem _ hn))
    rw [List.length_cons, List.map_cons, List.sum_cons]
    omega
theorem rf_add (P : Nat → Bool) (a : Nat) : ∀ n, ((List.range (a + n)).filter P).length ≤ ((List.range a).filter P).length + n := by
  intro n
  induction n with
  | zero => exact Nat.le_refl _
  | succ n ih =>
    rw [← Nat.add_assoc, rf_succ]
    split <;> omega
theorem cSn_p (C : CS) : ∀ m, (cSn cb us C m).2.2.2.2.1 ≤ C.2.2.2.2.1 + m := by
  intro m
  induction m with
  | zero => exact Nat.le_refl _
  | succ m ih =>
    show (cS cb us (cSn cb us C m)).2.2.2.2.1 ≤ _
    unfold cS
    split <;> dsimp only <;> omega
/-- what holds of the chunks and containers, on both sides -/
def SI (U us : Nat → Nat) (cb : Nat → List Nat) (bl : List Nat) (co : Nat → List Nat) (op : Nat) (cs rw : List Nat) (bx : Nat → Nat) (ud st : Nat) : Prop :=
  BR (bl, co, op) rw bx ∧ rw.Nodup ∧ (∀ n ∈ rw, n < st ∧ 1 ≤ (cb n).length ∧ (cb n).length ≤ 32 ∧ us n = U n) ∧ (∀ n ∈ rw, ∀ n' ∈ rw, cb n = cb n' → n = n') ∧ pot cb rw bx op ≤ 2 * ud ∧ (∀ k, bIn rw bx cb k ≤ 128) ∧ ∀ k ∈ cs, k ∈ bl
theorem SI.op {bl : List Nat} {co : Nat → List Nat} {op : Nat} {cs rw : List Nat} {bx : Nat → Nat} {ud st : Nat} (h : SI U us cb bl co op cs rw bx ud st) (hu : ud ≤ 61440) : op ≤ 1266 ∧ bl.length ≤ 1267 ∧ byS cb rw ≤ 122880 ∧ rw.length ≤ 122880 := by
  obtain ⟨h1, h2, h3, h4, h5, h6, h7⟩ := h
  have a1 := h1.len
  dsimp only at a1
  have a2 := len_by (cb := cb) rw (fun n hn => (h3 n hn).2.1)
  unfold pot at h5
  omega
theorem col_fin {bl : List Nat} {co : Nat → List Nat} {op : Nat} {cs rw : List Nat} {bx : Nat → Nat} {ud st : Nat} (h : SI U us cb bl co op cs rw bx ud st) (hu : ud ≤ 61440) :
    (∀ m, m < bl.length - 1 → cOK cb us (cSn cb us (bl, co, op, cs, 0, 0) m)) ∧ 1 ≤ bl.length ∧
    (∀ k, k < op → (cRn cb U (rw, bx, op, cs, 0) k).1.Nodup ∧ k < (cRn cb U (rw, bx, op, cs, 0) k).2.2.1 ∧ (cRn cb U (rw, bx, op, cs, 0) k).2.2.1 + (cRn cb U (rw, bx, op, cs, 0) k).1.length < 1000000) ∧
    SI U us cb (cSn cb us (bl, co, op, cs, 0, 0) (bl.length - 1)).1 (cSn cb us (bl, co, op, cs, 0, 0) (bl.length - 1)).2.1 (cSn cb us (bl, co, op, cs, 0, 0) (bl.length - 1)).2.2.1 (cSn cb us (bl, co, op, cs, 0, 0) (bl.length - 1)).2.2.2.1 (cRn cb U (rw, bx, op, cs, 0) op).1 (cRn cb U (rw, bx, op, cs, 0) op).2.1 ud st ∧
    (cRn cb U (rw, bx, op, cs, 0) op).2.2.1 = (cSn cb us (bl, co, op, cs, 0, 0) (bl.length - 1)).2.2.1 ∧ (cRn cb U (rw, bx, op, cs, 0) op).2.2.2.1 = (cSn cb us (bl, co, op, cs, 0, 0) (bl.length - 1)).2.2.2.1 ∧ (cRn cb U (rw, bx, op, cs, 0) op).2.2.2.2 = (cSn cb us (bl, co, op, cs, 0, 0) (bl.length - 1)).2.2.2.2.2 ∧
    op ≤ (cSn cb us (bl, co, op, cs, 0, 0) (bl.length - 1)).2.2.1 ∧ (cSn cb us (bl, co, op, cs, 0, 0) (bl.length - 1)).2.2.2.2.1 ≤ bl.length - 1 ∧ (cSn cb us (bl, co, op, cs, 0, 0) (bl.length - 1)).1.length + op ≤ (cSn cb us (bl, co, op, cs, 0, 0) (bl.length - 1)).2.2.2.2.1 + (cSn cb us (bl, co, op, cs, 0, 0) (bl.length - 1)).2.2.1 + 1 ∧
    ∀ n ∈ rw, 0 < U n → n ∈ (cRn cb U (rw, bx, op, cs, 0) op).1 := by
  have hop := h.op hu
  obtain ⟨h1, h2, h3, h4, h5, h6, h7⟩ := h
  have h0 : CI cb U us bl rw op (2 * ud) 0 (bl, co, op, cs, 0, 0) (rw, bx, op, cs, 0) := by
    refine ⟨h1, rfl, rfl, rfl, Nat.le_refl _, rfl, fun k _ _ => Iff.rfl, h2, fun n hn => ⟨hn, (h3 n hn).2⟩, h5, h6, rfl, h7, fun n hn _ => hn⟩
  have A := col_all h0 (by omega) (by omega)
  have hbl : bl = (List.range (op + 1)).filter (fun k => decide (k ∈ bl)) := by
    have e := h1.1
    dsimp only at e
    rw [e]
    refine List.filter_congr (fun k hk => ?_)
    rw [← e]
    exact decide_eq_decide.mpr h1.mem.symm
  have hml : bl.length = mm bl op + 1 := by
    have e := congrArg List.length hbl
    rw [rf_succ, if_pos (decide_eq_true h1.o)] at e
    exact e
  have hm : mm bl op = bl.length - 1 := by omega
  obtain ⟨B1, B2⟩ := A op (Nat.le_refl _)
  rw [hm] at B1 B2
  refine ⟨B2, by omega, fun k hk => ?_, ?_, B1.2.1, B1.2.2.1, B1.2.2.2.1, B1.2.2.2.2.1, ?_, ?_, B1.2.2.2.2.2.2.2.2.2.2.2.2.2⟩
  · obtain ⟨⟨a1, a2, a3, a4, a5, a6, a7, a8, a9, a10, a11, a12, a13⟩, -⟩ := A k (by omega)
    have l1 := len_by (cb := cb) _ (fun n hn => (a9 n hn).2.1)
    refine ⟨a8, by omega, ?_⟩
    unfold pot at a10
    omega
  · obtain ⟨a1, a2, a3, a4, a5, a6, a7, a8, a9, a10, a11, a12, a13, a14⟩ := B1
    refine ⟨a1, a8, fun n hn => ⟨(h3 n (a9 n hn).1).1, (a9 n hn).2⟩, fun n hn n' hn' => h4 n (a9 n hn).1 n' (a9 n' hn').1, by rw [← a2]; exact a10, a11, a13⟩
  · have := cSn_p (cb := cb) (us := us) (bl, co, op, cs, 0, 0) (bl.length - 1)
    dsimp only at this
    omega
  · obtain ⟨a1, a2, a3, a4, a5, a6, -⟩ := B1
    rw [a6]
    generalize cSn cb us (bl, co, op, cs, 0, 0) (bl.length - 1) = C at *
    have e : C.1 = (List.range (op + (C.2.2.1 + 1 - op))).filter (fun k => decide (k ∈ C.1)) := by
      have e9 := a1.1
      dsimp only at e9
      rw [show op + (C.2.2.1 + 1 - op) = C.2.2.1 + 1 by omega]
      refine e9.trans ?_
      refine List.filter_congr (fun k hk => ?_)
      exact decide_eq_decide.mpr a1.mem.symm
    have e2 := congrArg List.length e
    have e3 := rf_add (fun k => decide (k ∈ C.1)) op (C.2.2.1 + 1 - op)
    omega
end PU5
