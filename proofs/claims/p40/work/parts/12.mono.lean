/-! what only grows; what a state keeps under warming -/
theorem hp_mono {o : Nat} {ini : Bool} {i : Instr} {st st' : List Value} {T T' : TS} (h : hpF o ini i st T = some (st', T')) : tn T ≤ tn T' ∧ tu T ≤ tu T' := by
  have e1 : ∀ f a v, tn (sI f a v T) = tn T ∧ tu (sI f a v T) = tu T := fun _ _ _ => ⟨rfl, rfl⟩
  unfold hpF at h
  split at h
  · split at h
    · cases hf : fldOf o _ with
      | none => rw [hf] at h; cases h
      | some f => rw [hf] at h; simp only [Option.bind_some] at h; split at h <;> cases h; exact ⟨Nat.le_refl _, Nat.le_refl _⟩
    · cases h
  · split at h
    · cases hf : fldOf o _ with
      | none => rw [hf] at h; cases h
      | some f => rw [hf] at h; simp only [Option.bind_some] at h; split at h <;> cases h; exact ⟨Nat.le_refl _, Nat.le_refl _⟩
    · cases hf : fldOf o _ with
      | none => rw [hf] at h; cases h
      | some f => rw [hf] at h; simp only [Option.bind_some] at h; split at h <;> cases h; exact ⟨Nat.le_refl _, Nat.le_refl _⟩
    · cases hf : fldOf o _ with
      | none => rw [hf] at h; cases h
      | some f => rw [hf] at h; simp only [Option.bind_some] at h; split at h <;> cases h; exact ⟨Nat.le_refl _, Nat.le_refl _⟩
    · cases h
  · split at h
    · split at h <;> cases h; exact ⟨Nat.le_refl _, Nat.le_refl _⟩
    · cases h
  · split at h
    · split at h <;> cases h; exact ⟨Nat.le_refl _, Nat.le_refl _⟩
    · cases h
  · split at h
    · split at h <;> cases h; exact ⟨Nat.le_refl _, Nat.le_refl _⟩
    · cases h
  · split at h
    · split at h <;> cases h; exact ⟨Nat.le_refl _, Nat.le_refl _⟩
    · cases h
  · split at h
    · split at h <;> cases h; exact ⟨Nat.le_refl _, Nat.le_refl _⟩
    · cases h
  · split at h
    · split at h <;> cases h; exact ⟨Nat.le_succ _, Nat.le_add_right _ _⟩
    · cases h
  · split at h
    · cases hf : clOf o _ with
      | none => rw [hf] at h; cases h
      | some f => rw [hf] at h; simp only [Option.bind_some] at h; split at h <;> cases h; exact ⟨Nat.le_refl _, Nat.le_refl _⟩
    · cases h
  · cases hf : clOf o _ with
    | none => rw [hf] at h; cases h
    | some f => rw [hf] at h; simp only [Option.bind_some] at h; split at h <;> cases h; exact ⟨Nat.le_succ _, Nat.le_add_right _ _⟩
  · cases h
theorem step_cases {o nL : Nat} {ini : Bool} {i : Instr} {pc pc' : Nat} {l l' : Loc0} {st st' : List Value} {T T' : TS} (h : step o nL ini i pc l st T = some (pc', l', st', T')) : (stkF o i st = some st' ∧ pc' = pc + ilen i ∧ l' = l ∧ T' = T) ∨ (locF nL i l st = some (l', st') ∧ pc' = pc + ilen i ∧ T' = T) ∨ (braF i pc st = some (pc', st') ∧ l' = l ∧ T' = T) ∨ (hpF o ini i st T = some (st', T') ∧ pc' = pc + ilen i ∧ l' = l) := by
  unfold step at h
  cases h1 : stkF o i st with
  | some x => rw [h1] at h; cases h; exact Or.inl ⟨rfl, rfl, rfl, rfl⟩
  | none =>
    rw [h1] at h
    cases h2 : locF nL i l st with
    | some x => obtain ⟨a, b⟩ := x; rw [h2] at h; cases h; exact Or.inr (Or.inl ⟨rfl, rfl, rfl⟩)
    | none =>
      rw [h2] at h
      cases h3 : braF i pc st with
      | some x => obtain ⟨a, b⟩ := x; rw [h3] at h; cases h; exact Or.inr (Or.inr (Or.inl ⟨rfl, rfl, rfl⟩))
      | none =>
        rw [h3] at h
        cases h4 : hpF o ini i st T with
        | some x => obtain ⟨a, b⟩ := x; rw [h4] at h; cases h; exact Or.inr (Or.inr (Or.inr ⟨rfl, rfl, rfl⟩))
        | none => rw [h4] at h; cases h
theorem step_mono {o nL : Nat} {ini : Bool} {i : Instr} {pc pc' : Nat} {l l' : Loc0} {st st' : List Value} {T T' : TS} (h : step o nL ini i pc l st T = some (pc', l', st', T')) : tn T ≤ tn T' ∧ tu T ≤ tu T' := by
  rcases step_cases h with ⟨-, -, -, rfl⟩ | ⟨-, -, rfl⟩ | ⟨-, -, rfl⟩ | ⟨h, -⟩
  · exact ⟨Nat.le_refl _, Nat.le_refl _⟩
  · exact ⟨Nat.le_refl _, Nat.le_refl _⟩
  · exact ⟨Nat.le_refl _, Nat.le_refl _⟩
  · exact hp_mono h
theorem run_mono {C : Nat → List Value → TS → Out → TS → Prop} (hC : ∀ mid As T r T1, C mid As T r T1 → tn T ≤ tn T1 ∧ tu T ≤ tu T1) {M : MI} {hs : Hn} : ∀ (n pc : Nat) (l : Loc0) (st : List Value) (T : TS) (out : Out) (T' : TS), run C M hs n pc l st T out T' → tn T ≤ tn T' ∧ tu T ≤ tu T' := by
  intro n
  induction n with
  | zero => intro pc l st T out T' h; cases h
  | succ n ih =>
    intro pc l st T out T' h
    obtain ⟨i, len, -, -, h⟩ := h
    split at h
    · obtain ⟨v, -, -, rfl⟩ := h
      exact ⟨Nat.le_refl _, Nat.le_refl _⟩
    · obtain ⟨idx, k, mid, -, -, -, -, h⟩ := h
      split at h
      · obtain ⟨a, st', -, -, h⟩ := h
        exact ih _ _ _ _ _ _ h
      · obtain ⟨x, y, st', -, -, h⟩ := h
        exact ih _ _ _ _ _ _ h
      · obtain ⟨M', As, st', st2, r, T1, -, -, -, -, hc, h⟩ := h
        have h1 := hC _ _ _ _ _ hc
        cases r with
        | inl v =>
          have h2 := ih _ _ _ _ _ _ h
          exact ⟨Nat.le_trans h1.1 h2.1, Nat.le_trans h1.2 h2.2⟩
        | inr x =>
          simp only at h
          split at h
          · obtain ⟨-, rfl⟩ := h
            exact h1
          · obtain ⟨k9, -, ⟨-, h⟩ | ⟨-, h⟩⟩ := h
            · have h2 := ih _ _ _ _ _ _ h
              exact ⟨Nat.le_trans h1.1 h2.1, Nat.le_trans h1.2 h2.2⟩
            · have h2 := ih _ _ _ _ _ _ h
              exact ⟨Nat.le_trans h1.1 h2.1, Nat.le_trans h1.2 h2.2⟩
    · obtain ⟨idx, ci, -, -, ⟨-, h⟩ | ⟨-, -, -, -, -, -, -, -, -, rfl⟩⟩ := h
      · have h2 := ih _ _ _ _ _ _ h
        exact ⟨Nat.le_trans (Nat.le_succ _) h2.1, Nat.le_trans (Nat.le_add_right _ _) h2.2⟩
      · exact ⟨Nat.le_succ _, Nat.le_add_right _ _⟩
    · obtain ⟨pc', l', st', T1, h1, h⟩ := h
      have h2 := ih _ _ _ _ _ _ h
      have h3 := step_mono h1
      exact ⟨Nat.le_trans h3.1 h2.1, Nat.le_trans h3.2 h2.2⟩
theorem lst_mono {mid : Nat} {As : List Value} {T T' : TS} {r : Out} (h : lst mid As T r T') : tn T ≤ tn T' ∧ tu T ≤ tu T' := by
  have hf : ∀ a, tn T ≤ tn (fit a T) ∧ tu T ≤ tu (fit a T) := by
    intro a
    unfold fit
    split
    · exact ⟨Nat.le_succ _, Nat.le_add_right _ _⟩
    · exact ⟨Nat.le_refl _, Nat.le_refl _⟩
  unfold lst at h
  split at h
  · obtain ⟨a, -, -, -, -, -, -, rfl⟩ := h; exact ⟨Nat.le_refl _, Nat.le_refl _⟩
  · obtain ⟨a, -, -, -, rfl⟩ := h; exact ⟨Nat.le_refl _, Nat.le_refl _⟩
  · obtain ⟨a, k, b, -, -, -, -, -, rfl⟩ := h; exact ⟨Nat.le_refl _, Nat.le_refl _⟩
  · obtain ⟨a, b, -, -, -, -, -, -, rfl⟩ := h; exact hf a
  · obtain ⟨a, k, b, -, -, -, -, -, -, -, -, rfl⟩ := h; exact hf a
  · obtain ⟨a, k, b, -, -, -, -, -, rfl⟩ := h; exact ⟨Nat.le_refl _, Nat.le_refl _⟩
  · cases h
theorem Call_mono : ∀ (d mid : Nat) (As : List Value) (T : TS) (r : Out) (T1 : TS), Call d mid As T r T1 → tn T ≤ tn T1 ∧ tu T ≤ tu T1 := by
  intro d
  induction d with
  | zero => intro mid As T r T1 h; cases h
  | succ d ih =>
    intro mid As T r T1 h
    rcases h with h | ⟨-, M, n, -, -, h⟩
    · exact lst_mono h
    · exact run_mono ih _ _ _ _ _ _ _ h
theorem NW_warm {w : Jvm.Cond} (hw : w ∈ NWl) {s U : State} (hW : s.WarmedH U.vm) (h : va_Nw w s) : va_Nw w U := by
  simp only [NWl, List.mem_cons, List.not_mem_nil, or_false] at hw
  rcases hw with rfl | rfl | rfl | rfl | rfl | rfl | rfl | rfl | rfl | rfl | rfl | rfl | rfl | rfl | rfl | rfl | rfl | rfl | rfl | rfl <;> first | exact va_Nw.warmM hW h | exact va_Nw.warmC hW h | exact va_Nw.warmD hW h
theorem GS.warm {G : GP} {s U : State} (hW : s.WarmedH U.vm) (h : GS G s) : GS G U := by
  obtain ⟨h1, h2, h3, h4, h5, h6, h7, ⟨f, h8⟩, h9, mi, h10⟩ := h
  exact ⟨va_K.moved hW.alike h1, fun w hw => NW_warm hw hW (h2 w hw), vx_Zq.moved hW.alike h3, vx_Zq.moved hW.alike h4, h5.moved hW.alike, h6, va_Z.moved hW.alike h7, ⟨f, va_T.moved hW.alike h8⟩, va_AO.moved hW.alike h9, mi, va_Mi.moved hW.alike h10⟩
