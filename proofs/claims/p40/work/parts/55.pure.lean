/-! pure numbers and rows: what a list of chunks is asked (begun as parts of whole) -/
section PUR
variable {kl : List Nat} {vf vn : Nat → Nat} {vb ve : Nat → List Nat} {vp : Nat → Option Nat} {nx : Nat → Nat} {cb : Nat → List Nat} {rw : List Nat} {bx sf : Nat → Nat} {ud st op : Nat} {cs : List Nat} {hi re : Nat} {dr : List Nat}
def iO (o : Option Nat) : Int32 := match o with
  | none => -1
  | some k => nI k
/-- the last k below n with P -/
def lastK (P : Nat → Prop) [DecidablePred P] : Nat → Option Nat
  | 0 => none
  | k + 1 => if P k then some k else lastK P k
/-- the highest number of a file's versions below place n -/
def latN (kl : List Nat) (vf vn : Nat → Nat) (f : Int32) : Nat → Option Nat
  | 0 => none
  | k + 1 => match latN kl vf vn f k with
    | none => if k ∈ kl ∧ nI (vf k) = f then some (vn k) else none
    | some x => if k ∈ kl ∧ nI (vf k) = f ∧ x < vn k then some (vn k) else some x
/-- the bytes of a container's chunks -/
def bIn (rw : List Nat) (bx : Nat → Nat) (cb : Nat → List Nat) (c : Nat) : Nat := (rw.map (fun n => if bx n = c then (cb n).length else 0)).sum
def cntS (es : List Nat) (n : Nat) : Nat := (es.map (fun e => if e = n then 1 else 0)).sum
def uO (kl : List Nat) (ve : Nat → List Nat) (n : Nat) : Nat := sm (fun a => if a ∈ kl then cntS (ve a) n else 0) 20
theorem lastK_one {P : Nat → Prop} [DecidablePred P] {j : Nat} : ∀ n, j < n → P j → (∀ i, i < n → P i → i = j) → lastK P n = some j := by
  intro n
  induction n with
  | zero => intro h; omega
  | succ n ih =>
    intro hj hP hu
    unfold lastK
    by_cases e : P n
    · rw [if_pos e, hu n (Nat.lt_succ_self n) e]
    · rw [if_neg e]
      have : j ≠ n := fun q => e (q ▸ hP)
      exact ih (by omega) hP (fun i hi hPi => hu i (Nat.lt_succ_of_lt hi) hPi)
theorem lastK_none {P : Nat → Prop} [DecidablePred P] : ∀ n, (∀ i, i < n → ¬ P i) → lastK P n = none := by
  intro n
  induction n with
  | zero => intro _; rfl
  | succ n ih =>
    intro h
    unfold lastK
    rw [if_neg (h n (Nat.lt_succ_self n)), ih (fun i hi => h i (Nat.lt_succ_of_lt hi))]
theorem lastK_some {P : Nat → Prop} [DecidablePred P] : ∀ n k, lastK P n = some k → k < n ∧ P k := by
  intro n
  induction n with
  | zero => intro k h; cases h
  | succ n ih =>
    intro k h
    unfold lastK at h
    split at h
    · rename_i e; cases h; exact ⟨Nat.lt_succ_self n, e⟩
    · obtain ⟨h1, h2⟩ := ih k h
      exact ⟨by omega, h2⟩
/-- the first row with some bytes -/
def fstR (rw : List Nat) (cb : Nat → List Nat) (bs : List Nat) : Option Nat := if ups (fun i => ¬ cb (rw.getD i 0) = bs) rw.length 0 < rw.length then some (ups (fun i => ¬ cb (rw.getD i 0) = bs) rw.length 0) else none
/-- a version's place -/
def pl (kl : List Nat) (vf vn : Nat → Nat) (f v : Int32) : Option Nat := lastK (fun k => k ∈ kl ∧ nI (vf k) = f ∧ nI (vn k) = v) 20
/-- a chain ends within f steps -/
def chE (vp : Nat → Option Nat) : Nat → Option Nat → Prop
  | _, none => True
  | 0, some _ => False
  | f + 1, some k => chE vp f (vp k)
theorem lastK_ex {P : Nat → Prop} [DecidablePred P] : ∀ n i, i < n → P i → ∃ k, lastK P n = some k ∧ k < n ∧ P k := by
  intro n i hi hP
  cases e : lastK P n with
  | some k => exact ⟨k, rfl, lastK_some n k e⟩
  | none =>
    exfalso
    induction n with
    | zero => omega
    | succ n ih =>
      unfold lastK at e
      split at e
      · cases e
      · rename_i hn
        have : i ≠ n := fun q => hn (q ▸ hP)
        exact ih (by omega) e
/-- the last row of a number -/
def rI (rw : List Nat) (w : Int32) : Option Nat := lastK (fun i => nI (rw.getD i 0) = w) rw.length
theorem rI_some {w : Int32} {i : Nat} (h : rI rw w = some i) : i < rw.length ∧ nI (rw.getD i 0) = w := lastK_some _ i h
theorem rI_mem {e : Nat} (he : e ∈ rw) (hl : ∀ n ∈ rw, n < 1000000) : ∃ i, rI rw (nI e) = some i ∧ i < rw.length ∧ rw.getD i 0 = e := by
  obtain ⟨i, hi, e1⟩ := List.mem_iff_getElem.mp he
  have e2 : rw.getD i 0 = e := by rw [List.getD_eq_getElem?_getD, List.getElem?_eq_getElem hi, e1]; rfl
  obtain ⟨k, h1, h2, h3⟩ := lastK_ex (P := fun i => nI (rw.getD i 0) = nI e) rw.length i hi (by rw [e2])
  have a1 := hl _ (gD_mem h2)
  have a2 := hl _ he
  exact ⟨k, h1, h2, (nI_eq (by omega) (by omega)).mp h3⟩
/-- the stored chunk of a number -/
def rn (rw : List Nat) (w : Int32) : Option Nat := (rI rw w).map (fun i => rw.getD i 0)
/-- where a chunk of so many bytes goes -/
def opR (rw : List Nat) (bx : Nat → Nat) (cb : Nat → List Nat) (op l : Nat) : Nat := if bIn rw bx cb op + l ≤ 128 then op else op + 1
/-- the bytes of a container's chunks that versions have -/
def lvR (rw : List Nat) (bx : Nat → Nat) (cb : Nat → List Nat) (U : Nat → Nat) (c : Nat) : Nat := (rw.map (fun n => if bx n = c ∧ 0 < U n then (cb n).length else 0)).sum
/-- the rows when a container's rows have been looked at -/
def mvL (cb : Nat → List Nat) (U : Nat → Nat) (c : Nat) : List Nat → List Nat → List Nat → (Nat → Nat) → Nat → List Nat × (Nat → Nat) × Nat
  | [], A, C, bx, op => (A ++ C, bx, op)
  | n :: B, A, C, bx, op => if bx n = c then (if 0 < U n then mvL cb U c B A (C ++ [n]) (up1 bx n (opR (A ++ B ++ C) bx cb op (cb n).length)) (opR (A ++ B ++ C) bx cb op (cb n).length) else mvL cb U c B A C bx op) else mvL cb U c B (A ++ [n]) C bx op
abbrev RC : Type := List Nat × (Nat → Nat) × Nat × List Nat × Nat
/-- one container is looked at -/
def cR (cb : Nat → List Nat) (U : Nat → Nat) (S : RC) (c : Nat) : RC :=
  if 2 * lvR S.1 S.2.1 cb U c < bIn S.1 S.2.1 cb c then ((mvL cb U c S.1 [] [] S.2.1 S.2.2.1).1, (mvL cb U c S.1 [] [] S.2.1 S.2.2.1).2.1, (mvL cb U c S.1 [] [] S.2.1 S.2.2.1).2.2, S.2.2.2.1.filter (fun k => decide (k ≠ c)), S.2.2.2.2 + (bIn S.1 S.2.1 cb c - lvR S.1 S.2.1 cb U c)) else S
def cRn (cb : Nat → List Nat) (U : Nat → Nat) (S : RC) : Nat → RC
  | 0 => S
  | k + 1 => cR cb U (cRn cb U S k) k
theorem lvR_le (U : Nat → Nat) (c : Nat) : lvR rw bx cb U c ≤ bIn rw bx cb c := by
  unfold lvR bIn
  induction rw with
  | nil => exact Nat.le_refl 0
  | cons a l ih =>
    rw [List.map_cons, List.sum_cons, List.map_cons, List.sum_cons]
    by_cases e : bx a = c
    · rw [if_pos e]
      split <;> omega
    · rw [if_neg e, if_neg (fun q => e q.1)]
      omega
/-- what a save keeps of the chunks -/
abbrev QS : Type := List Nat × (Nat → Nat) × (Nat → Nat) × (Nat → List Nat) × Nat × Nat × Nat × List Nat × Nat × Nat × List Nat
/-- one piece -/
def qS (Z : QS) (bs : List Nat) : QS := match Z with
  | (rw, bx, sf, cb, ud, st, op, cs, hi, re, es) => match fstR rw cb bs with
    | some i => (rw, bx, sf, cb, ud, st, op, useC (bx (rw.getD i 0)) cs, if bx (rw.getD i 0) ∈ cs then hi + 1 else hi, if bx (rw.getD i 0) ∈ cs then re else re + 1, es ++ [rw.getD i 0])
    | none => (rw ++ [st], up1 bx st (opR rw bx cb op bs.length), up1 sf st ud, up1 cb st bs, ud + bs.length, st + 1, opR rw bx cb op bs.length, useC (opR rw bx cb op bs.length) cs, hi, re + 1, es ++ [st])
/-- room for the pieces L: bytes and rows, or all of them are there -/
def qOK (L : List (List Nat)) (Z : QS) : Prop := match Z with
  | (rw, bx, sf, cb, ud, st, op, cs, hi, re, es) => st + L.length < 1000000 ∧ op + L.length < 1000000 ∧ hi + L.length < 1000000 ∧ re + L.length < 1000000 ∧ es.length + L.length ≤ 30 ∧ (∀ k ∈ rw, k < st) ∧ ((rw.length + L.length ≤ 7690 ∧ ud + (L.map List.length).sum ≤ 61440) ∨ ∀ bs ∈ L, fstR rw cb bs ≠ none)
theorem fstR_some {bs : List Nat} {i : Nat} (h : fstR rw cb bs = some i) : i < rw.length ∧ cb (rw.getD i 0) = bs ∧ ∀ j, j < i → ¬ cb (rw.getD j 0) = bs := by
  unfold fstR at h
  obtain ⟨-, q1, q2, q3⟩ := ups_is (fun i => ¬ cb (rw.getD i 0) = bs) rw.length 0
  split at h
  · rename_i hl
    cases h
    refine ⟨hl, ?_, fun j hj => ?_⟩
    · have := q3.resolve_left (by omega)
      exact Classical.not_not.mp this
    · have := q2 j (Nat.zero_le _) (by omega)
      exact this
  · cases h
theorem qS_ok {L : List (List Nat)} {Z : QS} {bs : List Nat} (h : qOK (bs :: L) Z) : qOK L (qS Z bs) := by
  obtain ⟨rw, bx, sf, cb, ud, st, op, cs, hi, re, es⟩ := Z
  obtain ⟨h3, h4, h5, h6, h7, h8, h9⟩ := h
  rw [List.length_cons] at h3 h4 h5 h6 h7 h9
  unfold qS
  dsimp only
  cases e : fstR rw cb bs with
  | some i =>
    refine ⟨by omega, by omega, ?_, ?_, ?_, h8, ?_⟩
    · split <;> omega
    · split <;> omega
    · rw [List.length_append, List.length_singleton]; omega
    · rcases h9 with ⟨h1, h2⟩ | h9
      · rw [List.map_cons, List.sum_cons] at h2
        exact Or.inl ⟨by omega, by omega⟩
      · exact Or.inr (fun b hb => h9 b (List.mem_cons_of_mem _ hb))
  | none =>
    rcases h9 with ⟨h1, h2⟩ | h9
    · rw [List.map_cons, List.sum_cons] at h2
      refine ⟨by omega, ?_, by omega, by omega, ?_, fun k hk => ?_, Or.inl ⟨?_, by omega⟩⟩
      · unfold opR; split <;> omega
      · rw [List.length_append, List.length_singleton]; omega
      · rcases List.mem_append.mp hk with hk | hk
        · have := h8 k hk; omega
        · rw [List.mem_singleton] at hk; omega
      · rw [List.length_append, List.length_singleton]; omega
    · exact absurd e (h9 bs (List.mem_cons_self ..))
/-- a new version's base -/
def newM (kl : List Nat) (vf vn : Nat → Nat) (ve : Nat → List Nat) (vp : Nat → Option Nat) (a j n : Nat) (es : List Nat) : Option Nat := match latN kl vf vn (nI j) 20 with
  | none => none
  | some x => match pl (kl ++ [a]) (up1 vf a j) (up1 vn a n) (nI j) (nI x) with
    | none => none
    | some o => if chO vp 3 (vp o) < 3 ∧ dif es (ve o) < es.length then some o else none
/-- the bytes that would be stored: P the pieces seen -/
def wouldM (rw : List Nat) (cb : Nat → List Nat) (dr : List Nat) : List (Nat × Nat) → List (Nat × Nat) → Nat
  | _, [] => 0
  | P, q :: R => (if fstR rw cb (sub dr q) = none ∧ ∀ p ∈ P, ¬ sub dr p = sub dr q then q.2 else 0) + wouldM rw cb dr (P ++ [q]) R
end PUR
