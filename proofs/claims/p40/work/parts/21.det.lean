/-! a run's outcome is one: calls are functions -/
theorem lst_det {mid : Nat} {As : List Value} {T T1 T2 : TS} {r r' : Out} (h : lst mid As T r T1) (h' : lst mid As T r' T2) : r = r' ∧ T1 = T2 := by
  unfold lst at h h'
  split at h
  · obtain ⟨a, rfl, -, -, -, -, rfl, rfl⟩ := h
    obtain ⟨a', e, -, -, -, -, rfl, rfl⟩ := h'
    cases e
    exact ⟨rfl, rfl⟩
  · obtain ⟨a, rfl, -, rfl, rfl⟩ := h
    obtain ⟨a', e, -, rfl, rfl⟩ := h'
    cases e
    exact ⟨rfl, rfl⟩
  · obtain ⟨a, k, b, rfl, -, h2, h3, rfl, rfl⟩ := h
    obtain ⟨a', k', b', e, -, h2', h3', rfl, rfl⟩ := h'
    simp only [List.cons.injEq, Value.ref.injEq, Value.int.injEq, and_true] at e
    obtain ⟨rfl, e⟩ := e
    have := (nI_eq h2 h2').mp e
    subst this
    cases h3.symm.trans h3'
    exact ⟨rfl, rfl⟩
  · obtain ⟨a, b, rfl, -, -, -, -, rfl, rfl⟩ := h
    obtain ⟨a', b', e, -, -, -, -, rfl, rfl⟩ := h'
    cases e
    exact ⟨rfl, rfl⟩
  · obtain ⟨a, k, b, rfl, -, -, -, -, -, h2, rfl, rfl⟩ := h
    obtain ⟨a', k', b', e, -, -, -, -, -, h2', rfl, rfl⟩ := h'
    simp only [List.cons.injEq, Value.ref.injEq, Value.int.injEq, and_true] at e
    obtain ⟨rfl, e, rfl⟩ := e
    have := (nI_eq h2 h2').mp e
    subst this
    exact ⟨rfl, rfl⟩
  · obtain ⟨a, k, b, rfl, -, h2, h3, rfl, rfl⟩ := h
    obtain ⟨a', k', b', e, -, h2', h3', rfl, rfl⟩ := h'
    simp only [List.cons.injEq, Value.ref.injEq, Value.int.injEq, and_true] at e
    obtain ⟨rfl, e⟩ := e
    have := (nI_eq h2 h2').mp e
    subst this
    cases h3.symm.trans h3'
    exact ⟨rfl, rfl⟩
  · cases h
theorem run_det {C : Nat → List Value → TS → Out → TS → Prop} (hC : ∀ mid As T r T1 r' T2, C mid As T r T1 → C mid As T r' T2 → r = r' ∧ T1 = T2) {M : MI} {hs : Hn} : ∀ (n n' pc : Nat) (l : Loc0) (st : List Value) (T : TS) (out out' : Out) (T1 T2 : TS), run C M hs n pc l st T out T1 → run C M hs n' pc l st T out' T2 → out = out' ∧ T1 = T2 := by
  intro n
  induction n with
  | zero => intro n' pc l st T out out' T1 T2 h; cases h
  | succ n ih =>
    intro n' pc l st T out out' T1 T2 h h'
    cases n' with
    | zero => cases h'
    | succ n' =>
      obtain ⟨i, len, hd, -, h⟩ := h
      obtain ⟨i', len', hd', -, h'⟩ := h'
      cases hd.symm.trans hd'
      split at h
      · rename_i hcl
        rw [hcl] at h'
        obtain ⟨v, h1, rfl, rfl⟩ := h
        obtain ⟨v', h1', rfl, rfl⟩ := h'
        cases h1.symm.trans h1'
        exact ⟨rfl, rfl⟩
      · rename_i hcl
        rw [hcl] at h'
        obtain ⟨idx, k, mid, hi, hc, -, -, h⟩ := h
        obtain ⟨idx', k', mid', hi', hc', -, -, h'⟩ := h'
        cases hi.symm.trans hi'
        cases hc.symm.trans hc'
        split at h
        · obtain ⟨a, st1, rfl, -, h⟩ := h
          obtain ⟨a', st1', e, -, h'⟩ := h'
          cases e
          exact ih _ _ _ _ _ _ _ _ _ h h'
        · obtain ⟨x, y, st1, rfl, -, h⟩ := h
          obtain ⟨x', y', st1', e, -, h'⟩ := h'
          cases e
          exact ih _ _ _ _ _ _ _ _ _ h h'
        · split at h'
          · rename_i q1 q2; exact absurd rfl q1
          · rename_i q1 q2; exact absurd rfl q2
          · obtain ⟨M', As, st', st2, r, T3, hM, hp, hv, -, hcall, h⟩ := h
            obtain ⟨M9, As9, st9, st29, r9, T39, hM9, hp9, hv9, -, hcall9, h9⟩ := h'
            cases hM.symm.trans hM9
            cases hp.symm.trans hp9
            obtain ⟨rfl, rfl⟩ := hC _ _ _ _ _ _ _ hcall hcall9
            have hst : st2 = st29 := by
              split at hv
              · rename_i hb
                rw [if_pos hb] at hv9
                rw [hv, hv9]
              · rename_i hb
                rw [if_neg hb] at hv9
                obtain ⟨a, e, -⟩ := hv
                obtain ⟨a9, e9, -⟩ := hv9
                rw [e] at e9
                cases e9
                rfl
            subst hst
            cases r with
            | inl v => exact ih _ _ _ _ _ _ _ _ _ h h9
            | inr x =>
              simp only at h h9
              split at h
              · rename_i hh
                rw [hh] at h9
                obtain ⟨rfl, rfl⟩ := h
                obtain ⟨rfl, rfl⟩ := h9
                exact ⟨rfl, rfl⟩
              · rename_i hq hh
                rw [hh] at h9
                obtain ⟨k9, -, ⟨⟨q, rfl, ha⟩, h⟩ | ⟨ha, h⟩⟩ := h
                · obtain ⟨k8, -, ⟨⟨q8, rfl, ha8⟩, h8⟩ | ⟨ha8, h8⟩⟩ := h9
                  · cases ha.symm.trans ha8
                    exact ih _ _ _ _ _ _ _ _ _ h h8
                  · cases ha.symm.trans ha8
                · obtain ⟨k8, -, ⟨⟨q8, rfl, ha8⟩, h8⟩ | ⟨ha8, h8⟩⟩ := h9
                  · cases ha.symm.trans ha8
                  · cases ha.symm.trans ha8
                    exact ih _ _ _ _ _ _ _ _ _ h h8
      · rename_i hcl
        rw [hcl] at h'
        obtain ⟨idx, ci, rfl, hc, h⟩ := h
        obtain ⟨idx', ci', e, hc', h'⟩ := h'
        cases e
        cases hc.symm.trans hc'
        rcases h with ⟨h8, h⟩ | ⟨-, h1, -, -, -, -, -, -, rfl, rfl⟩
        · rcases h' with ⟨-, h'⟩ | ⟨-, h1, -⟩
          · exact ih _ _ _ _ _ _ _ _ _ h h'
          · omega
        · rcases h' with ⟨h8, h'⟩ | ⟨-, -, -, -, -, -, -, -, rfl, rfl⟩
          · omega
          · exact ⟨rfl, rfl⟩
      · rename_i q1 q2 q3
        split at h'
        · rename_i q; exact absurd q q1
        · rename_i q; exact absurd q q2
        · rename_i q; exact absurd q q3
        · obtain ⟨pc', l', st', T3, h1, h⟩ := h
          obtain ⟨pc9, l9, st9, T39, h19, h9⟩ := h'
          cases h1.symm.trans h19
          exact ih _ _ _ _ _ _ _ _ _ h h9
theorem Call_det : ∀ (d mid : Nat) (As : List Value) (T : TS) (r : Out) (T1 : TS) (r' : Out) (T2 : TS), Call d mid As T r T1 → Call d mid As T r' T2 → r = r' ∧ T1 = T2 := by
  intro d
  induction d with
  | zero => intro mid As T r T1 r' T2 h; cases h
  | succ d ih =>
    intro mid As T r T1 r' T2 h h'
    rcases h with h | ⟨h12, M, n, hM, -, h⟩
    · rcases h' with h' | ⟨h12, -⟩
      · exact lst_det h h'
      · exact (lst_no h12 h).elim
    · rcases h' with h' | ⟨-, M9, n9, hM9, -, h'⟩
      · exact (lst_no h12 h').elim
      · cases hM.symm.trans hM9
        exact run_det ih _ _ _ _ _ _ _ _ _ _ h h'
theorem cq {d mid : Nat} {As : List Value} {T T1 : TS} {r : Out} (h : Call d mid As T r T1) (Q : Post) : CallQ d mid As T Q ↔ Q r T1 := by
  constructor
  · rintro ⟨r', T2, h', hq⟩
    obtain ⟨rfl, rfl⟩ := Call_det _ _ _ _ _ _ _ _ h h'
    exact hq
  · intro hq
    exact ⟨r, T1, h, hq⟩
theorem Call_of {d mid : Nat} {As : List Value} {T T1 : TS} {r : Out} (h : CallQ d mid As T (fun r' T' => r' = r ∧ T' = T1)) : Call d mid As T r T1 := by
  obtain ⟨r', T', h, rfl, rfl⟩ := h
  exact h
/-- deeper calls do no harm -/
theorem run_up {C C' : Nat → List Value → TS → Out → TS → Prop} (hC : ∀ mid As T r T1, C mid As T r T1 → C' mid As T r T1) {M : MI} {hs : Hn} : ∀ (n pc : Nat) (l : Loc0) (st : List Value) (T : TS) (out : Out) (T1 : TS), run C M hs n pc l st T out T1 → run C' M hs n pc l st T out T1 := by
  intro n
  induction n with
  | zero => intro pc l st T out T1 h; cases h
  | succ n ih =>
    intro pc l st T out T1 h
    obtain ⟨i, len, hd, hl, h⟩ := h
    refine ⟨i, len, hd, hl, ?_⟩
    split at h
    · exact h
    · obtain ⟨idx, k, mid, hi, hc, hs9, hk, h⟩ := h
      refine ⟨idx, k, mid, hi, hc, hs9, hk, ?_⟩
      split at h
      · obtain ⟨a, st1, e, h4, h⟩ := h
        exact ⟨a, st1, e, h4, ih _ _ _ _ _ _ h⟩
      · obtain ⟨x, y, st1, e, h4, h⟩ := h
        exact ⟨x, y, st1, e, h4, ih _ _ _ _ _ _ h⟩
      · obtain ⟨M', As, st', st2, r, T3, hM, hp, hv, h4, hcall, h⟩ := h
        refine ⟨M', As, st', st2, r, T3, hM, hp, hv, h4, hC _ _ _ _ _ hcall, ?_⟩
        cases r with
        | inl v => exact ih _ _ _ _ _ _ h
        | inr x =>
          simp only at h ⊢
          split at h
          · exact h
          · obtain ⟨k9, h9, ⟨ha, h⟩ | ⟨ha, h⟩⟩ := h
            · exact ⟨k9, h9, Or.inl ⟨ha, ih _ _ _ _ _ _ h⟩⟩
            · exact ⟨k9, h9, Or.inr ⟨ha, ih _ _ _ _ _ _ h⟩⟩
    · obtain ⟨idx, ci, e, hc, h⟩ := h
      refine ⟨idx, ci, e, hc, ?_⟩
      rcases h with ⟨h8, h⟩ | h
      · exact Or.inl ⟨h8, ih _ _ _ _ _ _ h⟩
      · exact Or.inr h
    · obtain ⟨pc', l', st', T3, h1, h⟩ := h
      exact ⟨pc', l', st', T3, h1, ih _ _ _ _ _ _ h⟩
theorem Call_up1 : ∀ (d mid : Nat) (As : List Value) (T : TS) (r : Out) (T1 : TS), Call d mid As T r T1 → Call (d + 1) mid As T r T1 := by
  intro d
  induction d with
  | zero => intro mid As T r T1 h; cases h
  | succ d ih =>
    intro mid As T r T1 h
    rcases h with h | ⟨h12, M, n, hM, hl, h⟩
    · exact Or.inl h
    · exact Or.inr ⟨h12, M, n, hM, hl, run_up ih _ _ _ _ _ _ _ h⟩
theorem Call_up {d d' mid : Nat} {As : List Value} {T : TS} {r : Out} {T1 : TS} (h : Call d mid As T r T1) (hd : d ≤ d') : Call d' mid As T r T1 := by
  obtain ⟨k, rfl⟩ := Nat.exists_eq_add_of_le hd
  induction k with
  | zero => exact h
  | succ k ih => exact Call_up1 _ _ _ _ _ _ (ih (Nat.le_add_right _ _))
/-! more locals do no harm -/
def ndB : List Nat → Bool
  | [] => true
  | k :: l => !(l.elem k) && ndB l
def nd (l : Loc0) : Prop := ndB (l.map Prod.fst) = true
/-- each of the first is in the second -/
def lsub : Loc0 → Loc0 → Prop
  | [], _ => True
  | (j, v) :: r, l => lget l j = some v ∧ lsub r l
theorem lsub_get {r l : Loc0} (h : lsub r l) {k : Nat} {v : Value} (hv : lget r k = some v) : lget l k = some v := by
  induction r with
  | nil => cases hv
  | cons q r ih =>
    obtain ⟨j, w⟩ := q
    rw [lget_cons] at hv
    split at hv
    · rename_i e
      cases hv
      subst e
      exact h.1
    · exact ih h.2 hv
theorem nd_cons {j : Nat} {v : Value} {l : Loc0} : nd ((j, v) :: l) ↔ lget l j = none ∧ nd l := by
  have h : ∀ l : Loc0, (l.map Prod.fst).elem j = false ↔ lget l j = none := by
    intro l
    induction l with
    | nil => simp [lget]
    | cons q l ih =>
      obtain ⟨i, w⟩ := q
      rw [lget_cons, List.map_cons, List.elem_cons]
      by_cases e : i = j
      · subst e; simp
      · rw [if_neg e]
        have : (j == i) = false := by simpa using fun h => e h.symm
        simp only [this, Bool.false_or]
        exact ih
  unfold nd
  rw [List.map_cons]
  show (!((l.map Prod.fst).elem j) && ndB (l.map Prod.fst)) = true ↔ _
  rw [Bool.and_eq_true, Bool.not_eq_true', h]
theorem ldel_none {l : Loc0} {k j : Nat} (h : lget l j = none) : lget (ldel l k) j = none := by
  induction l with
  | nil => rfl
  | cons q l ih =>
    obtain ⟨i, w⟩ := q
    rw [lget_cons] at h
    split at h
    · cases h
    · rename_i e
      rw [ldel_cons]
      split
      · exact ih h
      · rw [lget_cons, if_neg e]
        exact ih h
theorem ldel2_none {l : Loc0} {k j : Nat} (h : lget l j = none) : lget (ldel2 l k) j = none := by
  induction l with
  | nil => rfl
  | cons q l ih =>
    obtain ⟨i, w⟩ := q
    rw [lget_cons] at h
    split at h
    · cases h
    · rename_i e
      rw [ldel2_cons]
      split
      · exact ih h
      · rw [lget_cons, if_neg e]
        exact ih h
theorem ldel_get {l : Loc0} (hn : nd l) {k j : Nat} {v : Value} : lget (ldel l k) j = some v ↔ lget l j = some v ∧ j ≠ k ∧ ¬ (j + 1 = k ∧ v.category = 2) := by
  induction l with
  | nil => simp [lget, ldel]
  | cons q l ih =>
    obtain ⟨i, w⟩ := q
    rw [nd_cons] at hn
    rw [ldel_cons]
    by_cases hij : i = j
    · subst hij
      split
      · rename_i hc
        rw [ldel_none hn.1, lget_cons, if_pos rfl]
        constructor
        · intro h; cases h
        · rintro ⟨h, h1, h2⟩
          cases h
          rcases hc with hc | hc
          · exact absurd hc h1
          · exact absurd hc h2
      · rename_i hc
        rw [lget_cons, if_pos rfl, lget_cons, if_pos rfl]
        constructor
        · intro h
          cases h
          exact ⟨rfl, fun e => hc (Or.inl e), fun e => hc (Or.inr e)⟩
        · intro h; exact h.1
    · split
      · rw [ih hn.2, lget_cons, if_neg hij]
      · rw [lget_cons, if_neg hij, ih hn.2, lget_cons, if_neg hij]
theorem ldel2_get {l : Loc0} (hn : nd l) {k j : Nat} {v : Value} : lget (ldel2 l k) j = some v ↔ lget l j = some v ∧ j ≠ k ∧ j ≠ k + 1 ∧ ¬ (j + 1 = k ∧ v.category = 2) := by
  induction l with
  | nil => simp [lget, ldel2]
  | cons q l ih =>
    obtain ⟨i, w⟩ := q
    rw [nd_cons] at hn
    rw [ldel2_cons]
    by_cases hij : i = j
    · subst hij
      split
      · rename_i hc
        rw [ldel2_none hn.1, lget_cons, if_pos rfl]
        constructor
        · intro h; cases h
        · rintro ⟨h, h1, h2, h3⟩
          cases h
          rcases hc with hc | hc | hc
          · exact absurd hc h1
          · exact absurd hc h2
          · exact absurd hc h3
      · rename_i hc
        rw [lget_cons, if_pos rfl, lget_cons, if_pos rfl]
        constructor
        · intro h
          cases h
          exact ⟨rfl, fun e => hc (Or.inl e), fun e => hc (Or.inr (Or.inl e)), fun e => hc (Or.inr (Or.inr e))⟩
        · intro h; exact h.1
    · split
      · rw [ih hn.2, lget_cons, if_neg hij]
      · rw [lget_cons, if_neg hij, ih hn.2, lget_cons, if_neg hij]
theorem nd_ldel {l : Loc0} (hn : nd l) (k : Nat) : nd (ldel l k) := by
  induction l with
  | nil => exact hn
  | cons q l ih =>
    obtain ⟨i, w⟩ := q
    rw [nd_cons] at hn
    rw [ldel_cons]
    split
    · exact ih hn.2
    · rw [nd_cons]
      exact ⟨ldel_none hn.1, ih hn.2⟩
theorem nd_ldel2 {l : Loc0} (hn : nd l) (k : Nat) : nd (ldel2 l k) := by
  induction l with
  | nil => exact hn
  | cons q l ih =>
    obtain ⟨i, w⟩ := q
    rw [nd_cons] at hn
    rw [ldel2_cons]
    split
    · exact ih hn.2
    · rw [nd_cons]
      exact ⟨ldel2_none hn.1, ih hn.2⟩
def lmore (r l : Loc0) : Prop := nd r ∧ nd l ∧ ∀ k v, lget r k = some v → lget l k = some v
theorem lmore_st {r l : Loc0} (h : lmore r l) (k : Nat) (v : Value) : lmore ((k, v) :: ldel r k) ((k, v) :: ldel l k) := by
  have hz : ∀ l : Loc0, nd l → lget (ldel l k) k = none := by
    intro l hl
    cases hz : lget (ldel l k) k with
    | none => rfl
    | some w => exact absurd rfl ((ldel_get hl).mp hz).2.1
  refine ⟨nd_cons.mpr ⟨hz _ h.1, nd_ldel h.1 k⟩, nd_cons.mpr ⟨hz _ h.2.1, nd_ldel h.2.1 k⟩, fun j w hw => ?_⟩
  rw [lget_cons] at hw ⊢
  split at hw
  · rename_i e; rw [if_pos e]; exact hw
  · rename_i e
    rw [if_neg e, ldel_get h.2.1]
    rw [ldel_get h.1] at hw
    exact ⟨h.2.2 _ _ hw.1, hw.2⟩
theorem lmore_st2 {r l : Loc0} (h : lmore r l) (k : Nat) (v : Value) : lmore ((k, v) :: ldel2 r k) ((k, v) :: ldel2 l k) := by
  have hz : ∀ l : Loc0, nd l → lget (ldel2 l k) k = none := by
    intro l hl
    cases hz : lget (ldel2 l k) k with
    | none => rfl
    | some w => exact absurd rfl ((ldel2_get hl).mp hz).2.1
  refine ⟨nd_cons.mpr ⟨hz _ h.1, nd_ldel2 h.1 k⟩, nd_cons.mpr ⟨hz _ h.2.1, nd_ldel2 h.2.1 k⟩, fun j w hw => ?_⟩
  rw [lget_cons] at hw ⊢
  split at hw
  · rename_i e; rw [if_pos e]; exact hw
  · rename_i e
    rw [if_neg e, ldel2_get h.2.1]
    rw [ldel2_get h.1] at hw
    exact ⟨h.2.2 _ _ hw.1, hw.2⟩
theorem lmore_del {r l : Loc0} (h : lmore r l) (k : Nat) : lmore (ldel r k) (ldel l k) := by
  refine ⟨nd_ldel h.1 k, nd_ldel h.2.1 k, fun j w hw => ?_⟩
  rw [ldel_get h.2.1]
  rw [ldel_get h.1] at hw
  exact ⟨h.2.2 _ _ hw.1, hw.2⟩
theorem loc_more {nL : Nat} {i : Instr} {r l r' : Loc0} {st st' : List Value} (h : lmore r l) (hr : locF nL i r st = some (r', st')) : ∃ l', locF nL i l st = some (l', st') ∧ lmore r' l' := by
  unfold locF at hr ⊢
  split at hr
  all_goals try (cases hr; done)
  all_goals try
    (split at hr
     all_goals try (cases hr; done)
     all_goals try
       (rename_i hg
        have hg2 := h.2.2 _ _ hg
        simp only [hg2]
        first
        | (cases hr; exact ⟨_, rfl, h⟩)
        | (split at hr
           · rename_i hk
             cases hr
             rw [if_pos hk]
             exact ⟨_, rfl, lmore_st h _ _⟩
           · cases hr))
     all_goals try
       (split at hr
        · rename_i hk
          cases hr
          rw [if_pos hk]
          first | exact ⟨_, rfl, lmore_st h _ _⟩ | exact ⟨_, rfl, lmore_st2 h _ _⟩
        · cases hr))
theorem loc_none {nL : Nat} {i : Instr} {l : Loc0} {st : List Value} (hc : (∃ pc q, braF i pc st = some q) ∨ (∃ o ini T q, hpF o ini i st T = some q)) : locF nL i l st = none := by
  unfold locF
  split
  all_goals first
    | rfl
    | (exfalso
       rcases hc with ⟨pc, q, hc⟩ | ⟨o, ini, T, q, hc⟩
       · cases hc
       · cases hc)
theorem step_more {o nL : Nat} {ini : Bool} {i : Instr} {pc pc' : Nat} {r l r' : Loc0} {st st' : List Value} {T T' : TS} (h : lmore r l) (hs : step o nL ini i pc r st T = some (pc', r', st', T')) : ∃ l', step o nL ini i pc l st T = some (pc', l', st', T') ∧ lmore r' l' := by
  unfold step at hs ⊢
  split at hs
  · cases hs
    exact ⟨_, rfl, h⟩
  · split at hs
    · rename_i hl
      cases hs
      obtain ⟨l', h1, h2⟩ := loc_more h hl
      rw [h1]
      exact ⟨_, rfl, h2⟩
    · split at hs
      · rename_i hb
        cases hs
        rw [loc_none (Or.inl ⟨_, _, hb⟩)]
        exact ⟨_, rfl, h⟩
      · split at hs
        · rename_i hb
          cases hs
          rw [loc_none (Or.inr ⟨_, _, _, _, hb⟩)]
          exact ⟨_, rfl, h⟩
        · cases hs
theorem run_more {C : Nat → List Value → TS → Out → TS → Prop} {M : MI} {hs : Hn} : ∀ (n pc : Nat) (r l : Loc0) (st : List Value) (T : TS) (out : Out) (T1 : TS), lmore r l → run C M hs n pc r st T out T1 → run C M hs n pc l st T out T1 := by
  intro n
  induction n with
  | zero => intro pc r l st T out T1 _ h; cases h
  | succ n ih =>
    intro pc r l st T out T1 hm h
    obtain ⟨i, len, hd, hl, h⟩ := h
    refine ⟨i, len, hd, hl, ?_⟩
    split at h
    · exact h
    · obtain ⟨idx, k, mid, hi, hc, hs9, hk, h⟩ := h
      refine ⟨idx, k, mid, hi, hc, hs9, hk, ?_⟩
      split at h
      · obtain ⟨a, st1, e, h4, h⟩ := h
        exact ⟨a, st1, e, h4, ih _ _ _ _ _ _ _ hm h⟩
      · obtain ⟨x, y, st1, e, h4, h⟩ := h
        exact ⟨x, y, st1, e, h4, ih _ _ _ _ _ _ _ hm h⟩
      · obtain ⟨M', As, st', st2, r9, T3, hM, hp, hv, h4, hcall, h⟩ := h
        refine ⟨M', As, st', st2, r9, T3, hM, hp, hv, h4, hcall, ?_⟩
        cases r9 with
        | inl v => exact ih _ _ _ _ _ _ _ hm h
        | inr x =>
          simp only at h ⊢
          split at h
          · exact h
          · obtain ⟨k9, h9, ⟨ha, h⟩ | ⟨ha, h⟩⟩ := h
            · exact ⟨k9, h9, Or.inl ⟨ha, ih _ _ _ _ _ _ _ (lmore_del hm _) h⟩⟩
            · exact ⟨k9, h9, Or.inr ⟨ha, ih _ _ _ _ _ _ _ (lmore_del hm _) h⟩⟩
    · obtain ⟨idx, ci, e, hc, h⟩ := h
      refine ⟨idx, ci, e, hc, ?_⟩
      rcases h with ⟨h8, h⟩ | h
      · exact Or.inl ⟨h8, ih _ _ _ _ _ _ _ hm h⟩
      · exact Or.inr h
    · obtain ⟨pc', r', st', T3, h1, h⟩ := h
      obtain ⟨l', h2, h3⟩ := step_more hm h1
      exact ⟨pc', l', st', T3, h2, ih _ _ _ _ _ _ _ h3 h⟩
theorem ev_more {d : Nat} {M : MI} {hs : Hn} {pc : Nat} {r l : Loc0} {st : List Value} {T : TS} {Q : Post} (h : lsub r l) (h1 : nd r) (h2 : nd l) (hr : Ev d M hs pc r st T Q) : Ev d M hs pc l st T Q := by
  obtain ⟨n, out, T', hr, hq⟩ := hr
  exact ⟨n, out, T', run_more _ _ _ _ _ _ _ _ ⟨h1, h2, fun k v hv => lsub_get h hv⟩ hr, hq⟩
