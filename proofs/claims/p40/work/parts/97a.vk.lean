/-! a vault between the law's steps -/
section VK
variable {d S X G L n0 u0 c : Nat} {va ba ca : Nat → Nat} {dr kl : List Nat} {vf vn : Nat → Nat} {vb ve : Nat → List Nat} {vp : Nat → Option Nat} {nx na : Nat → Nat} {sv : Nat} {cb : Nat → List Nat} {us : Nat → Nat} {bl cs : List Nat} {co : Nat → List Nat} {op hi re st : Nat} {rw : List Nat} {bx : Nat → Nat} {ud : Nat} {T T' T1 : TS}
/-- the class's cells, all of them -/
def xD (X : Nat) (va ba ca : Nat → Nat) (kl bl cs : List Nat) (co : Nat → List Nat) (a : Nat) : Prop := a = X ∨ a = X + 1 ∨ a = X + 2 ∨ a = X + 3 ∨ a = X + 4 ∨ (∃ k ∈ kl, a = va k ∨ a = va k + 1 ∨ a = va k + 2 ∨ a = va k + 3) ∨ shD (X + 5) ba ca bl cs co a
theorem XR.of (h : XR T X va ba ca dr kl vf vn vb ve vp nx sv cb us bl co op cs hi re st) (e : ∀ a, xD X va ba ca kl bl cs co a → cell T' a = cell T a) : XR T' X va ba ca dr kl vf vn vb ve vp nx sv cb us bl co op cs hi re st := by
  obtain ⟨⟨x1, x2, x3, x4, x5, x6, x7⟩, ⟨h1, hd⟩, h2, ⟨h3, hk20⟩, h4, h5⟩ := h
  have e0 := e X (Or.inl rfl)
  have e1 := e (X + 1) (Or.inr (Or.inl rfl))
  have e2 := e (X + 2) (Or.inr (Or.inr (Or.inl rfl)))
  have e3 := e (X + 3) (Or.inr (Or.inr (Or.inr (Or.inl rfl))))
  have e4 := e (X + 4) (Or.inr (Or.inr (Or.inr (Or.inr (Or.inl rfl)))))
  refine ⟨⟨by rw [ce_K e0]; exact x1, by rw [ce_R e0]; exact x2, by rw [ce_R e0]; exact x3, by rw [ce_R e0]; exact x4, by rw [ce_R e0]; exact x5, by rw [ce_I e0]; exact x6, x7⟩, ⟨h1.of e1 e2, hd⟩, ?_, ⟨h3.of e3 (fun k hk => ?_), hk20⟩, h4.of (fun a ha => e a (Or.inr (Or.inr (Or.inr (Or.inr (Or.inr (Or.inr ha))))))), h5⟩
  · rw [ce_K e4, ce_l e4, ce_A e4]
    exact h2
  · have w : ∀ a, (a = va k ∨ a = va k + 1 ∨ a = va k + 2 ∨ a = va k + 3) → cell T' a = cell T a := fun a ha => e a (Or.inr (Or.inr (Or.inr (Or.inr (Or.inr (Or.inl ⟨k, hk, ha⟩))))))
    exact ⟨w _ (Or.inl rfl), w _ (Or.inr (Or.inl rfl)), w _ (Or.inr (Or.inr (Or.inl rfl))), w _ (Or.inr (Or.inr (Or.inr rfl)))⟩
/-- the kinds of the class's cells: none is the reference's, none holds the answers or the script -/
theorem XR.kx (h : XR T X va ba ca dr kl vf vn vb ve vp nx sv cb us bl co op cs hi re st) {a : Nat} (ha : xD X va ba ca kl bl cs co a) : (tK T a = 8 ∨ tK T a = 5 ∨ tK T a = 23 ∨ tK T a = 7 ∨ tK T a = 6 ∨ tK T a = 3 ∨ tK T a = 2 ∨ tK T a = 4) ∨ (tK T a = 20 ∧ ∃ b, a = b + 1 ∧ (tK T b = 5 ∨ tK T b = 23)) := by
  obtain ⟨⟨x1, -⟩, ⟨h1, -⟩, h2, ⟨h3, -⟩, h4, -⟩ := h
  rcases ha with rfl | rfl | rfl | rfl | rfl | ⟨k, hk, q⟩ | q
  · exact Or.inl (Or.inl x1)
  · exact Or.inl (Or.inr (Or.inl h1.1))
  · exact Or.inr ⟨h1.2.2.2.1, X + 1, rfl, Or.inl h1.1⟩
  · exact Or.inl (Or.inr (Or.inr (Or.inl h3.1.1)))
  · exact Or.inr ⟨h2.1, X + 3, rfl, Or.inr h3.1.1⟩
  · obtain ⟨v1, v2, v3, v4⟩ := (h3.2 k hk).1.ks
    rcases q with rfl | rfl | rfl | rfl
    · exact Or.inl (Or.inr (Or.inr (Or.inr (Or.inl v1))))
    · exact Or.inl (Or.inr (Or.inl v2))
    · exact Or.inr ⟨v3, va k + 1, rfl, Or.inl v2⟩
    · exact Or.inl (Or.inr (Or.inr (Or.inl v4)))
  · obtain ⟨s1, s2, s3⟩ := h4.ks
    rcases q with rfl | rfl | rfl | ⟨k, hk, rfl⟩ | ⟨k, hk, rfl | rfl | ⟨n, hn, q⟩⟩
    · exact Or.inl (Or.inr (Or.inr (Or.inr (Or.inr (Or.inl s1)))))
    · exact Or.inl (Or.inr (Or.inr (Or.inl s2)))
    · exact Or.inl (Or.inr (Or.inr (Or.inl s3)))
    · exact Or.inl (Or.inr (Or.inr (Or.inr (Or.inr (Or.inr (Or.inl (h4.2.2.2.2.1 k hk).1))))))
    · exact Or.inl (Or.inr (Or.inr (Or.inr (Or.inr (Or.inr (Or.inl (h4.kb hk).1))))))
    · exact Or.inl (Or.inr (Or.inr (Or.inl (h4.kb hk).2.1)))
    · obtain ⟨d1, d2, d3, d4, -⟩ := h4.kn hk hn
      rcases q with rfl | rfl | rfl | rfl
      · exact Or.inl (Or.inr (Or.inr (Or.inr (Or.inr (Or.inr (Or.inr (Or.inl d1)))))))
      · exact Or.inl (Or.inr (Or.inl d2))
      · exact Or.inr ⟨d3, ca n + 1, rfl, Or.inl d2⟩
      · exact Or.inl (Or.inr (Or.inr (Or.inr (Or.inr (Or.inr (Or.inr (Or.inr d4)))))))

/-- the first free place -/
def fre (kl : List Nat) : Nat := ups (fun i => i ∈ kl) 20 0
theorem sm_all {n : Nat} (h : ∀ i, i < n → i ∈ kl) : sm (fun k => if k ∈ kl then 1 else 0) n = n := by
  induction n with
  | zero => rfl
  | succ n ih =>
    show sm _ n + (if n ∈ kl then 1 else 0) = n + 1
    rw [ih (fun i hi => h i (Nat.lt_succ_of_lt hi)), if_pos (h n (Nat.lt_succ_self n))]
theorem fre_is (h : sm (fun k => if k ∈ kl then 1 else 0) 20 ≠ 20) : fre kl < 20 ∧ fre kl ∉ kl ∧ ∀ i, i < fre kl → i ∈ kl := by
  obtain ⟨-, q1, q2, q3⟩ := ups_is (fun i => i ∈ kl) 20 0
  have e : ups (fun i => i ∈ kl) 20 0 = fre kl := rfl
  rw [e] at q1 q2 q3
  have hne : fre kl ≠ 20 := fun q => h (sm_all (fun i hi => q2 i (Nat.zero_le _) (by omega)))
  exact ⟨by omega, q3.resolve_left (by omega), fun i hi => q2 i (Nat.zero_le _) hi⟩
/-- what was made so far -/
def RV (n0 u0 c : Nat) (ba : Nat → Nat) (op : Nat) (bl : List Nat) (T : TS) : Prop := tn T ≤ n0 + 400 * c + gcl (tc T (ba op + 1)) + 11 * op + 9 * (op + 1 - bl.length) ∧ tu T ≤ u0 + 6000 * c + gsl (tc T (ba op + 1)) + 2740 * op + 477 * (op + 1 - bl.length)
theorem RV.am {n u : Nat} {ba' : Nat → Nat} {op' : Nat} {bl' : List Nat} (h : RV n0 u0 c ba op bl T) (ha : am n u T T' (ba op) (ba' op') op op') (h1 : n + 9 * (op + 1 - bl.length) ≤ 400 + 9 * (op' + 1 - bl'.length)) (h2 : u + 477 * (op + 1 - bl.length) ≤ 6000 + 477 * (op' + 1 - bl'.length)) : RV n0 u0 (c + 1) ba' op' bl' T' := by
  obtain ⟨a1, a2⟩ := h
  obtain ⟨b1, b2⟩ := ha
  exact ⟨by omega, by omega⟩
/-- the law's numbers of the next versions; the script -/
def nR (T : TS) (N : Nat) (na : Nat → Nat) : Prop := tK T N = 20 ∧ tl T N = 6 ∧ ∀ i, i < 6 → tA T N i = nI (na i)
def scR (T : TS) (S L : Nat) : Prop := tK T S = 26 ∧ tl T S = L
def VK (S X G L n0 u0 c : Nat) (na : Nat → Nat) (T : TS) (va ba ca : Nat → Nat) (dr kl : List Nat) (vf vn : Nat → Nat) (vb ve : Nat → List Nat) (vp : Nat → Option Nat) (nx : Nat → Nat) (sv : Nat) (cb : Nat → List Nat) (us : Nat → Nat) (bl : List Nat) (co : Nat → List Nat) (op : Nat) (cs : List Nat) (hi re st : Nat) (rw : List Nat) (bx : Nat → Nat) (ud : Nat) : Prop :=
  LV T X va ba ca dr kl vf vn vb ve vp nx sv cb us bl co op cs hi re st rw bx ud ∧ CT c dr rw cb nx sv ud st hi re ∧ RV n0 u0 c ba op bl T ∧ wf T ∧ gR T G kl vf vn st ∧ nR T (G + 1) na ∧ scR T S L
/-- the law's cells are none of the class's -/
theorem XR.law (h : XR T X va ba ca dr kl vf vn vb ve vp nx sv cb us bl co op cs hi re st) (g1 : tK T G = 22) (g3 : tK T (G + 1) = 20) (g2 : tK T S = 26) {a : Nat} (ha : xD X va ba ca kl bl cs co a) : a ≠ G ∧ a ≠ G + 1 ∧ a ≠ S ∧ tK T a ≠ 0 := by
  rcases h.kx ha with q | ⟨q, b, rfl, q2⟩
  · refine ⟨fun e => ?_, fun e => ?_, fun e => ?_, by omega⟩
    · rw [e, g1] at q; omega
    · rw [e, g3] at q; omega
    · rw [e, g2] at q; omega
  · refine ⟨fun e => ?_, fun e => ?_, fun e => ?_, by omega⟩
    · rw [e, g1] at q; omega
    · have : b = G := by omega
      rw [this, g1] at q2; omega
    · rw [e, g2] at q; omega
theorem VK.off (h : VK S X G L n0 u0 c na T va ba ca dr kl vf vn vb ve vp nx sv cb us bl co op cs hi re st rw bx ud) {a : Nat} (ha : xD X va ba ca kl bl cs co a) : a ≠ G ∧ a ≠ G + 1 ∧ a ≠ S ∧ tK T a ≠ 0 := by
  obtain ⟨h1, h2, h3, h4, h5, h6, h7⟩ := h
  exact h1.1.law h5.1 h6.1 h7.1 ha
/-- the law's cells stay while the class works -/
theorem VK.keep {W : Nat → Prop} {n u : Nat} (h : VK S X G L n0 u0 c na T va ba ca dr kl vf vn vb ve vp nx sv cb us bl co op cs hi re st rw bx ud) (F : fr W n u T T') (hW : ∀ a, W a → xD X va ba ca kl bl cs co a) : cell T' G = cell T G ∧ cell T' (G + 1) = cell T (G + 1) ∧ cell T' S = cell T S := by
  have hh := fun a (q : W a) => h.off (hW a q)
  obtain ⟨h1, h2, h3, h4, h5, h6, h7⟩ := h
  exact ⟨F.2.2.2.2.2 G (by rw [h5.1]; decide) (fun q => (hh G q).1 rfl), F.2.2.2.2.2 (G + 1) (by rw [h6.1]; decide) (fun q => (hh _ q).2.1 rfl), F.2.2.2.2.2 S (by rw [h7.1]; decide) (fun q => (hh S q).2.2.1 rfl)⟩
theorem gR.of (h : gR T G kl vf vn st) (e : cell T' G = cell T G) : gR T' G kl vf vn st := by
  unfold gR
  rw [ce_K e, ce_l e, ce_J e]
  exact h
theorem nR.of {N : Nat} (h : nR T N na) (e : cell T' N = cell T N) : nR T' N na := by
  unfold nR
  rw [ce_K e, ce_l e, ce_A e]
  exact h
theorem scR.of (h : scR T S L) (e : cell T' S = cell T S) : scR T' S L := by
  unfold scR
  rw [ce_K e, ce_l e]
  exact h
theorem LV.x (h : LV T X va ba ca dr kl vf vn vb ve vp nx sv cb us bl co op cs hi re st rw bx ud) {dr' : List Nat} (hx : XR T' X va ba ca dr' kl vf vn vb ve vp nx sv cb us bl co op cs hi re st) : LV T' X va ba ca dr' kl vf vn vb ve vp nx sv cb us bl co op cs hi re st rw bx ud := ⟨hx, h.2⟩
theorem XR.bk (h : XR T X va ba ca dr kl vf vn vb ve vp nx sv cb us bl co op cs hi re st) : tK T (ba op) = 3 ∧ tK T (ba op + 1) = 23 := by
  have := h.2.2.2.2.1.kb h.2.2.2.2.1.2.2.2.1
  exact ⟨this.1, this.2.1⟩
theorem drW (h : XR T X va ba ca dr kl vf vn vb ve vp nx sv cb us bl co op cs hi re st) : ¬ (ba op + 1 = X + 1 ∨ ba op + 1 = X + 2) := fun q => by
  have k := h.bk.2
  rcases q with q | q
  · rw [q, h.2.1.1.1] at k; cases k
  · rw [q, show tK T (X + 2) = 20 from h.2.1.1.2.2.2.1] at k; cases k
/-- a call that changes the draft -/
theorem VK.draft {dr' : List Nat} (h : VK S X G L n0 u0 c na T va ba ca dr kl vf vn vb ve vp nx sv cb us bl co op cs hi re st rw bx ud) (hc : c < 512) (hx : XR T' X va ba ca dr' kl vf vn vb ve vp nx sv cb us bl co op cs hi re st) (F : fr (fun a => a = X + 1 ∨ a = X + 2) 0 0 T T') : VK S X G L n0 u0 (c + 1) na T' va ba ca dr' kl vf vn vb ve vp nx sv cb us bl co op cs hi re st rw bx ud := by
  obtain ⟨k1, k2, k3⟩ := h.keep F (fun a q => q.elim (fun q => Or.inr (Or.inl q)) (fun q => Or.inr (Or.inr (Or.inl q))))
  obtain ⟨h1, h2, h3, h4, h5, h6, h7⟩ := h
  exact ⟨h1.x hx, h2.next hc, h3.am (am_fr F (ce_c (F.ce h1.1.bk.2 (drW h1.1)))) (by omega) (by omega), F.ok, h5.of k1, h6.of k2, h7.of k3⟩
/-- a call that only makes cells -/
theorem VK.mk {n u : Nat} (h : VK S X G L n0 u0 c na T va ba ca dr kl vf vn vb ve vp nx sv cb us bl co op cs hi re st rw bx ud) (hx : XR T' X va ba ca dr kl vf vn vb ve vp nx sv cb us bl co op cs hi re st) (F : fr (fun _ => False) n u T T') : LV T' X va ba ca dr kl vf vn vb ve vp nx sv cb us bl co op cs hi re st rw bx ud ∧ gR T' G kl vf vn st ∧ nR T' (G + 1) na ∧ scR T' S L ∧ wf T' ∧ am n u T T' (ba op) (ba op) op op := by
  obtain ⟨k1, k2, k3⟩ := h.keep F (fun a q => q.elim)
  obtain ⟨h1, h2, h3, h4, h5, h6, h7⟩ := h
  exact ⟨h1.x hx, h5.of k1, h6.of k2, h7.of k3, F.ok, am_fr F (ce_c (F.ce h1.1.bk.2 (fun q => q)))⟩
theorem VK.c1 (h : VK S X G L n0 u0 c na T va ba ca dr kl vf vn vb ve vp nx sv cb us bl co op cs hi re st rw bx ud) (hc : c < 512) : VK S X G L n0 u0 (c + 1) na T va ba ca dr kl vf vn vb ve vp nx sv cb us bl co op cs hi re st rw bx ud := by
  obtain ⟨h1, h2, ⟨a1, a2⟩, h4, h5, h6, h7⟩ := h
  exact ⟨h1, h2.next hc, ⟨by omega, by omega⟩, h4, h5, h6, h7⟩
/-- the law's sets are written: the class stays -/
theorem LV.sJ {i : Nat} {v : Int64} (h : LV T X va ba ca dr kl vf vn vb ve vp nx sv cb us bl co op cs hi re st rw bx ud) (g1 : tK T G = 22) : LV (sJ G i v T) X va ba ca dr kl vf vn vb ve vp nx sv cb us bl co op cs hi re st rw bx ud :=
  h.x (h.1.of (fun a ha => ce_sJ (fun e => by
    rcases h.1.kx ha with q | ⟨q, -⟩ <;> rw [e, g1] at q <;> omega)))
end VK
/-! a draft's calls -/
