/-! both sides in one store: what holds between calls -/
section LIS
variable {S X m o L : Nat} {xs : Nat → Int32} {n0 u0 c D : Nat} {va ba ca : Nat → Nat} {dr kl : List Nat} {vf vn : Nat → Nat} {vb ve : Nat → List Nat} {vp : Nat → Option Nat} {nx : Nat → Nat} {sv : Nat} {cb : Nat → List Nat} {us : Nat → Nat} {bl cs : List Nat} {co : Nat → List Nat} {op hi re st : Nat} {rw : List Nat} {bx sf : Nat → Nat} {ud : Nat} {T T' T1 : TS}
/-- the row of answers, the script -/
def OS (m o S L : Nat) (xs : Nat → Int32) (T : TS) : Prop := wf T ∧ (tK T o = 22 ∧ tl T o = 1) ∧ tK T S = 26 ∧ tl T S = L ∧ tA T S = xs
/-- what was made so far -/
def RO (n0 u0 c : Nat) (ba : Nat → Nat) (op : Nat) (bl : List Nat) (T : TS) : Prop := tn T ≤ n0 + 300 * c + gcl (tc T (ba op + 1)) + 11 * op + 9 * (op + 1 - bl.length) ∧ tu T ≤ u0 + 4000 * c + gsl (tc T (ba op + 1)) + 2740 * op + 477 * (op + 1 - bl.length)
def LIp (S X m o L : Nat) (xs : Nat → Int32) (n0 u0 c : Nat) (T : TS) (va ba ca : Nat → Nat) (dr kl : List Nat) (vf vn : Nat → Nat) (vb ve : Nat → List Nat) (vp : Nat → Option Nat) (nx : Nat → Nat) (sv : Nat) (cb : Nat → List Nat) (us : Nat → Nat) (bl : List Nat) (co : Nat → List Nat) (op : Nat) (cs : List Nat) (hi re st : Nat) (rw : List Nat) (bx sf : Nat → Nat) (ud : Nat) : Prop :=
  XR T X va ba ca dr kl vf vn vb ve vp nx sv cb us bl co op cs hi re st ∧ MR T m dr kl vf vn vb ve vp nx rw bx sf cb ud st op cs hi re ∧ KI kl vf vn vb ve vp nx cb rw ∧ SI (uO kl ve) us cb bl co op cs rw bx ud st ∧ CT c dr rw cb nx sv ud st hi re ∧ OS m o S L xs T ∧ RO n0 u0 c ba op bl T
def LI (S X m o L : Nat) (xs : Nat → Int32) (n0 u0 c : Nat) (T : TS) : Prop := ∃ va ba ca dr kl vf vn vb ve vp nx sv cb us bl co op cs hi re st rw bx sf ud, LIp S X m o L xs n0 u0 c T va ba ca dr kl vf vn vb ve vp nx sv cb us bl co op cs hi re st rw bx sf ud
/-- the kinds of the reference's cells -/
theorem mdl.k (h : mdl T m) {a : Nat} (h1 : m ≤ a) (h2 : a ≤ m + 15) : (a = m ∧ tK T a = 9) ∨ (m < a ∧ (tK T a = 20 ∨ tK T a = 21)) := by
  obtain ⟨m1, -, ⟨k1, k2, k3, k4, k5, k6, k7, k8, k9, k10, k11, k12, k13, k14, k15⟩, -⟩ := h
  have e : a = m ∨ a = m + 1 ∨ a = m + 2 ∨ a = m + 3 ∨ a = m + 4 ∨ a = m + 5 ∨ a = m + 6 ∨ a = m + 7 ∨ a = m + 8 ∨ a = m + 9 ∨ a = m + 10 ∨ a = m + 11 ∨ a = m + 12 ∨ a = m + 13 ∨ a = m + 14 ∨ a = m + 15 := by omega
  rcases e with rfl | rfl | rfl | rfl | rfl | rfl | rfl | rfl | rfl | rfl | rfl | rfl | rfl | rfl | rfl | rfl
  · exact Or.inl ⟨rfl, m1⟩
  all_goals refine Or.inr ⟨by omega, ?_⟩
  · exact Or.inl k1
  · exact Or.inl k2
  · exact Or.inl k3
  · exact Or.inl k4
  · exact Or.inl k5
  · exact Or.inl k6
  · exact Or.inl k7
  · exact Or.inl k8
  · exact Or.inl k9
  · exact Or.inl k10
  · exact Or.inl k11
  · exact Or.inl k12
  · exact Or.inl k13
  · exact Or.inr k14
  · exact Or.inl k15
/-- a cell that is not the reference's, by its kind -/
theorem mdl.no (h : mdl T m) {a : Nat} (hk : tK T a ≠ 9 ∧ tK T a ≠ 20 ∧ tK T a ≠ 21) : ¬ (m ≤ a ∧ a ≤ m + 15) := fun q => by
  rcases h.k q.1 q.2 with ⟨-, e⟩ | ⟨-, e | e⟩
  · exact hk.1 e
  · exact hk.2.1 e
  · exact hk.2.2 e
/-- a row of ints that is not the reference's, by the cell ahead of it -/
theorem mdl.no2 (h : mdl T m) {a : Nat} (h1 : tK T (a + 1) = 20) (h2 : tK T a ≠ 9 ∧ tK T a ≠ 20 ∧ tK T a ≠ 21) : ¬ (m ≤ a + 1 ∧ a + 1 ≤ m + 15) := fun q => by
  rcases h.k q.1 q.2 with ⟨-, e⟩ | ⟨e, -⟩
  · rw [h1] at e; cases e
  · exact h.no h2 ⟨by omega, by omega⟩
/-- the class's cells, all of them -/
def xD (X : Nat) (va ba ca : Nat → Nat) (kl bl cs : List Nat) (co : Nat → List Nat) (a : Nat) : Prop := a = X ∨ a = X + 1 ∨ a = X + 2 ∨ a = X + 3 ∨ a = X + 4 ∨ (∃ k ∈ kl, a = va k ∨ a = va k + 1 ∨ a = va k + 2 ∨ a = va k + 3) ∨ shD (X + 5) ba ca bl cs co a
theorem XR.of (h : XR T X va ba ca dr kl vf vn vb ve vp nx sv cb us bl co op cs hi re st) (e : ∀ a, xD X va ba ca kl bl cs co a → cell T' a = cell T a) : XR T' X va ba ca dr kl vf vn vb ve vp nx sv cb us bl co op cs hi re st := by
  obtain ⟨⟨x1, x2, x3, x4, x5, x6, x7⟩, ⟨h1, hd⟩, h2, ⟨h3, hk20⟩, h4, h5⟩ := h
  have e0 := e X (Or.inl rfl)
  have e1 := e (X + 1) (Or.inr (Or.inl rfl))
  have e2 := e (X + 2) (Or.inr (Or.inr (Or.inl rfl)))
  have e3 := e (X + 3) (Or.inr (Or.inr (Or.inr (Or.inl rfl))))
  have e4 := e (X + 4) (Or.inr (Or.inr (Or.inr (Or.inr (Or.inl rfl)))))
  refine ⟨⟨by rw [ce_K e0]; exact x1, by rw [ce_R e0]; exact x2, by rw [ce_R e0]; exact x3, by rw [ce_R e0]; exact x4, by rw [ce_R e0]; exact x5, by rw [ce_I e0]; exact x6, x7⟩, ⟨h1.of e1 e2, hd⟩, ?_, ⟨h3.of e3 (fun k hk => ?_), hk20⟩, h4.of (fun a ha => e a (Or.inr (Or.inr (Or.inr (Or.inr (Or.inr (Or.inr ha))))))), h5⟩
  · rw [ce_K e4, ce_l e4, ce_A e4]
    exact h2
  · have w : ∀ a, (a = va k ∨ a = va k + 1 ∨ a = va k + 2 ∨ a = va k + 3) → cell T' a = cell T a := fun a ha => e a (Or.inr (Or.inr (Or.inr (Or.inr (Or.inr (Or.inl ⟨k, hk, ha⟩))))))
    exact ⟨w _ (Or.inl rfl), w _ (Or.inr (Or.inl rfl)), w _ (Or.inr (Or.inr (Or.inl rfl))), w _ (Or.inr (Or.inr (Or.inr rfl)))⟩
/-- the kinds of the class's cells: none is the reference's, none holds the answers or the script -/
theorem XR.kx (h : XR T X va ba ca dr kl vf vn vb ve vp nx sv cb us bl co op cs hi re st) {a : Nat} (ha : xD X va ba ca kl bl cs co a) : (tK T a = 8 ∨ tK T a = 5 ∨ tK T a = 23 ∨ tK T a = 7 ∨ tK T a = 6 ∨ tK T a = 3 ∨ tK T a = 2 ∨ tK T a = 4) ∨ (tK T a = 20 ∧ ∃ b, a = b + 1 ∧ (tK T b = 5 ∨ tK T b = 23)) := by
  obtain ⟨⟨x1, -⟩, ⟨h1, -⟩, h2, ⟨h3, -⟩, h4, -⟩ := h
  rcases ha with rfl | rfl | rfl | rfl | rfl | ⟨k, hk, q⟩ | q
  · exact Or.inl (Or.inl x1)
  · exact Or.inl (Or.inr (Or.inl h1.1))
  · exact Or.inr ⟨h1.2.2.2.1, X + 1, rfl, Or.inl h1.1⟩
  · exact Or.inl (Or.inr (Or.inr (Or.inl h3.1.1)))
  · exact Or.inr ⟨h2.1, X + 3, rfl, Or.inr h3.1.1⟩
  · obtain ⟨v1, v2, v3, v4⟩ := (h3.2 k hk).1.ks
    rcases q with rfl | rfl | rfl | rfl
    · exact Or.inl (Or.inr (Or.inr (Or.inr (Or.inl v1))))
    · exact Or.inl (Or.inr (Or.inl v2))
    · exact Or.inr ⟨v3, va k + 1, rfl, Or.inl v2⟩
    · exact Or.inl (Or.inr (Or.inr (Or.inl v4)))
  · obtain ⟨s1, s2, s3⟩ := h4.ks
    rcases q with rfl | rfl | rfl | ⟨k, hk, rfl⟩ | ⟨k, hk, rfl | rfl | ⟨n, hn, q⟩⟩
    · exact Or.inl (Or.inr (Or.inr (Or.inr (Or.inr (Or.inl s1)))))
    · exact Or.inl (Or.inr (Or.inr (Or.inl s2)))
    · exact Or.inl (Or.inr (Or.inr (Or.inl s3)))
    · exact Or.inl (Or.inr (Or.inr (Or.inr (Or.inr (Or.inr (Or.inl (h4.2.2.2.2.1 k hk).1))))))
    · exact Or.inl (Or.inr (Or.inr (Or.inr (Or.inr (Or.inr (Or.inl (h4.kb hk).1))))))
    · exact Or.inl (Or.inr (Or.inr (Or.inl (h4.kb hk).2.1)))
    · obtain ⟨d1, d2, d3, d4, -⟩ := h4.kn hk hn
      rcases q with rfl | rfl | rfl | rfl
      · exact Or.inl (Or.inr (Or.inr (Or.inr (Or.inr (Or.inr (Or.inr (Or.inl d1)))))))
      · exact Or.inl (Or.inr (Or.inl d2))
      · exact Or.inr ⟨d3, ca n + 1, rfl, Or.inl d2⟩
      · exact Or.inl (Or.inr (Or.inr (Or.inr (Or.inr (Or.inr (Or.inr (Or.inr d4)))))))
theorem XR.ap (h : XR T X va ba ca dr kl vf vn vb ve vp nx sv cb us bl co op cs hi re st) (hm : mdl T m) (hO : OS m o S L xs T) {a : Nat} (ha : xD X va ba ca kl bl cs co a) : ¬ (m ≤ a ∧ a ≤ m + 15) ∧ a ≠ o ∧ a ≠ S ∧ tK T a ≠ 0 := by
  obtain ⟨-, ⟨o1, -⟩, o2, -⟩ := hO
  rcases h.kx ha with q | ⟨q, b, rfl, q2⟩
  · refine ⟨hm.no (by omega), fun e => ?_, fun e => ?_, by omega⟩
    · rw [e, o1] at q; omega
    · rw [e, o2] at q; omega
  · refine ⟨hm.no2 q (by omega), fun e => ?_, fun e => ?_, by omega⟩
    · rw [e, o1] at q; omega
    · rw [e, o2] at q; omega
/-- the class stays as it is while the reference works -/
theorem XR.ms (h : XR T X va ba ca dr kl vf vn vb ve vp nx sv cb us bl co op cs hi re st) (hm : mdl T m) (hO : OS m o S L xs T) (hs : ms m T T') : XR T' X va ba ca dr kl vf vn vb ve vp nx sv cb us bl co op cs hi re st :=
  h.of (fun a ha => hs.2.2.2.2.2 a (by have := (h.ap hm hO ha).1; omega))
theorem OS.ms (hm : mdl T m) (h : OS m o S L xs T) (hs : ms m T T') : OS m o S L xs T' := by
  obtain ⟨o1, ⟨o2, o3⟩, o4, o5, o6⟩ := h
  have a1 : cell T' o = cell T o := hs.2.2.2.2.2 o (by have := hm.no (a := o) (by omega); omega)
  have a2 : cell T' S = cell T S := hs.2.2.2.2.2 S (by have := hm.no (a := S) (by omega); omega)
  exact ⟨hs.okw o1, ⟨by rw [ce_K a1]; exact o2, by rw [ce_l a1]; exact o3⟩, by rw [ce_K a2]; exact o4, by rw [ce_l a2]; exact o5, by rw [ce_A a2]; exact o6⟩
/-- a frame that keeps off the reference, the answers, the script -/
def offW (m o S : Nat) (T : TS) (W : Nat → Prop) : Prop := ∀ a, W a → tK T a = 0 ∨ (¬ (m ≤ a ∧ a ≤ m + 15) ∧ a ≠ o ∧ a ≠ S)
theorem MR.fr {W : Nat → Prop} {n u : Nat} (h : MR T m dr kl vf vn vb ve vp nx rw bx sf cb ud st op cs hi re) (hW : offW m o S T W) (F : fr W n u T T') : MR T' m dr kl vf vn vb ve vp nx rw bx sf cb ud st op cs hi re :=
  h.ce (fun a h1 h2 => by
    have hk : tK T a ≠ 0 := by rcases h.1.k h1 h2 with ⟨-, e⟩ | ⟨-, e | e⟩ <;> omega
    exact F.2.2.2.2.2 a hk (fun q => by
      rcases hW a q with e | ⟨e, -⟩
      · exact hk e
      · exact e ⟨h1, h2⟩))
theorem OS.fr {W : Nat → Prop} {n u : Nat} (h : OS m o S L xs T) (hW : offW m o S T W) (F : fr W n u T T') : OS m o S L xs T' := by
  obtain ⟨o1, ⟨o2, o3⟩, o4, o5, o6⟩ := h
  have a1 : cell T' o = cell T o := F.2.2.2.2.2 o (by omega) (fun q => by
    rcases hW o q with e | ⟨-, e, -⟩
    · omega
    · exact e rfl)
  have a2 : cell T' S = cell T S := F.2.2.2.2.2 S (by omega) (fun q => by
    rcases hW S q with e | ⟨-, -, e⟩
    · omega
    · exact e rfl)
  exact ⟨F.ok, ⟨by rw [ce_K a1]; exact o2, by rw [ce_l a1]; exact o3⟩, by rw [ce_K a2]; exact o4, by rw [ce_l a2]; exact o5, by rw [ce_A a2]; exact o6⟩
/-- the answer is put into its row -/
theorem XR.sJ {i : Nat} {v : Int64} (h : XR T X va ba ca dr kl vf vn vb ve vp nx sv cb us bl co op cs hi re st) (hm : mdl T m) (hO : OS m o S L xs T) : XR (sJ o i v T) X va ba ca dr kl vf vn vb ve vp nx sv cb us bl co op cs hi re st :=
  h.of (fun a ha => ce_sJ (h.ap hm hO ha).2.1)
theorem MR.sJ {i : Nat} {v : Int64} (h : MR T m dr kl vf vn vb ve vp nx rw bx sf cb ud st op cs hi re) (hO : OS m o S L xs T) : MR (sJ o i v T) m dr kl vf vn vb ve vp nx rw bx sf cb ud st op cs hi re :=
  h.ce (fun a h1 h2 => ce_sJ (fun e => by
    have o1 := hO.2.1.1
    rcases h.1.k h1 h2 with ⟨-, q⟩ | ⟨-, q | q⟩ <;> rw [e, o1] at q <;> cases q))
theorem OS.sJ {i : Nat} {v : Int64} (h : OS m o S L xs T) : OS m o S L xs (sJ o i v T) := by
  obtain ⟨o1, ⟨o2, o3⟩, o4, o5, o6⟩ := h
  exact ⟨o1, ⟨o2, o3⟩, o4, o5, o6⟩
theorem RO.sJ {i : Nat} {v : Int64} (h : RO n0 u0 c ba op bl T) : RO n0 u0 c ba op bl (sJ o i v T) := h
theorem RO.ms (h : RO n0 u0 c ba op bl T) (hm : mdl T m) (hk : tK T (ba op + 1) = 23) (hs : ms m T T') : RO n0 u0 c ba op bl T' := by
  have e : cell T' (ba op + 1) = cell T (ba op + 1) := hs.2.2.2.2.2 _ (by have := hm.no (a := ba op + 1) (by omega); omega)
  unfold RO
  rw [hs.1, hs.2.1, ce_c e]
  exact h
theorem RO.am {n u : Nat} {ba' : Nat → Nat} {op' : Nat} {bl' : List Nat} (h : RO n0 u0 c ba op bl T) (ha : am n u T T' (ba op) (ba' op') op op') (h1 : n + 9 * (op + 1 - bl.length) ≤ 300 + 9 * (op' + 1 - bl'.length)) (h2 : u + 477 * (op + 1 - bl.length) ≤ 4000 + 477 * (op' + 1 - bl'.length)) : RO n0 u0 (c + 1) ba' op' bl' T' := by
  obtain ⟨a1, a2⟩ := h
  obtain ⟨b1, b2⟩ := ha
  exact ⟨by omega, by omega⟩
end LIS
