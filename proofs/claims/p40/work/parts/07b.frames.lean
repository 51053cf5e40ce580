/-! the frames that a method takes at most: printed by wip/p40/mach.py; and that no instruction of its code calls deeper -/
def frL : List Nat := [3, 1, 1, 1, 1, 3, 1, 6, 5, 3, 1, 1, 1, 1, 1, 1, 1, 1, 1, 1, 4, 1, 1, 2, 2, 7, 4, 4, 7, 4, 3, 2, 1, 1, 2, 4, 2, 1, 1, 1, 2, 3, 1, 2, 7, 1, 1, 2, 2, 4, 6, 5, 4, 4, 5, 9, 5, 8, 7, 6, 4, 9, 8, 4, 1, 1, 1, 1, 2, 4, 7, 4, 4, 1, 7, 7, 1, 6, 5, 8, 6, 7, 6, 6, 3, 2, 6, 10, 8, 7, 10, 2, 6, 6, 7, 7, 7, 7, 7, 7, 7, 8, 6, 5, 7, 7, 7, 7, 3, 3, 6, 2, 2, 5, 4, 6, 5, 1, 1, 1, 2, 4, 6, 6, 4, 7, 3, 2, 4, 1, 1, 2, 2, 8, 9, 8, 10, 8, 9, 7, 11, 8, 11, 8, 12]
def frT (k : Nat) : Nat := (frL[k]?).getD 1
/-- what an instruction asks of its method's frames -/
def frB (k o : Nat) (i : Instr) : Bool := match cixOf i with
  | some idx => match callOf o idx with
    | some (kk, mid) => decide (3 < kk) || decide (frT mid + 1 ≤ frT k)
    | none => true
  | none => match i with
    | .new idx => match clOf o idx with
      | some c => decide (c < 100) || decide (6 ≤ frT k)
      | none => true
    | _ => true
def frC (k : Nat) (M : MI) : Bool := (List.range M.2.1.size).all (fun pc => match decode M.2.1 pc with | .ok (i, _) => frB k M.2.2.2.2.1 i | .error _ => true)
def frQ (k : Nat) : Prop := ((mth k).map (frC k)).getD true = true
theorem u1_err {cc : ByteArray} {pc : Nat} (hp : ¬ pc < cc.size) : ∃ er, (Reader.u1 : Decoder Nat) cc pc = .error er := by
  refine ⟨HasTruncated.truncated pc, ?_⟩
  change (dite (pc < cc.size) _ _ : Decoder Nat) cc pc = _
  rw [dif_neg hp]
  rfl
theorem decode_lt {cc : ByteArray} {pc : Nat} {i : Instr} {len : Nat} (h : decode cc pc = .ok (i, len)) : pc < cc.size := by
  by_cases hp : pc < cc.size
  · exact hp
  · exfalso
    obtain ⟨er, e⟩ := u1_err hp
    unfold decode Decoder.instr at h
    change Except.bind (Except.bind ((Reader.u1 : Decoder Nat) cc pc) _) _ = _ at h
    rw [e] at h
    cases h
theorem frT_1 : ∀ k, 1 ≤ frT k := by
  have h : ∀ x ∈ frL, 1 ≤ x := by decide +kernel
  intro k
  unfold frT
  cases hz : frL[k]? with
  | none => exact Nat.le_refl 1
  | some x => exact h x (List.mem_of_getElem? hz)
