/-! collect: both sides, step by step -/
section PU3
variable {cb : Nat → List Nat} {U us : Nat → Nat}
theorem bIn_skip {A B C : List Nat} {bx : Nat → Nat} {c k : Nat} (hk : k ≠ c) : bIn (A ++ B ++ C) bx cb k = bIn (A ++ B.filter (fun n => decide (bx n ≠ c)) ++ C) bx cb k := by
  rw [bIn_f, bIn_f]
  congr 1
  rw [List.filter_append, List.filter_append, List.filter_append, List.filter_append, List.filter_filter]
  congr 2
  refine List.filter_congr (fun x _ => ?_)
  rw [← Bool.decide_and]
  exact decide_eq_decide.mpr ⟨fun q => ⟨q, by rw [q]; exact hk⟩, fun q => q.1⟩
theorem pS_mono (S : BX) (n : Nat) {k : Nat} (hk : k ∈ S.1) : k ∈ (pS cb S n).1 ∧ S.2.2 ≤ (pS cb S n).2.2 := by
  refine ⟨?_, opF_ge _ _ _ _⟩
  show k ∈ blF cb S.2.1 S.2.2 (cb n).length S.1
  unfold blF
  split
  · exact hk
  · exact List.mem_append.mpr (Or.inl hk)
theorem pSs_mono : ∀ (ms : List Nat) (S : BX) {k : Nat}, k ∈ S.1 → k ∈ (pSs cb S ms).1 ∧ S.2.2 ≤ (pSs cb S ms).2.2 := by
  intro ms
  induction ms with
  | nil => intro S k hk; exact ⟨hk, Nat.le_refl _⟩
  | cons n ms ih =>
    intro S k hk
    obtain ⟨h1, h2⟩ := pS_mono (cb := cb) S n hk
    obtain ⟨h3, h4⟩ := ih (pS cb S n) h1
    exact ⟨h3, Nat.le_trans h2 h4⟩
/-- the chunks of a container that move -/
def mvd (U : Nat → Nat) (bx : Nat → Nat) (c : Nat) (B : List Nat) : List Nat := (B.filter (fun n => decide (bx n = c))).filter (fun n => decide (0 < U n))
theorem mvd_y {bx : Nat → Nat} {c n : Nat} {B : List Nat} (h : bx n = c) (hu : 0 < U n) : mvd U bx c (n :: B) = n :: mvd U bx c B := by
  unfold mvd
  rw [List.filter_cons, if_pos (decide_eq_true h), List.filter_cons, if_pos (decide_eq_true hu)]
theorem mvd_u {bx : Nat → Nat} {c n : Nat} {B : List Nat} (h : bx n = c) (hu : ¬ 0 < U n) : mvd U bx c (n :: B) = mvd U bx c B := by
  unfold mvd
  rw [List.filter_cons, if_pos (decide_eq_true h), List.filter_cons, if_neg (fun q => hu (of_decide_eq_true q))]
theorem mvd_n {bx : Nat → Nat} {c n : Nat} {B : List Nat} (h : ¬ bx n = c) : mvd U bx c (n :: B) = mvd U bx c B := by
  unfold mvd
  rw [List.filter_cons, if_neg (fun q => h (of_decide_eq_true q))]
theorem mvd_up {bx : Nat → Nat} {c n o : Nat} {B : List Nat} (h : n ∉ B) : mvd U (up1 bx n o) c B = mvd U bx c B := by
  unfold mvd
  congr 1
  exact List.filter_congr (fun x hx => by rw [upn hx h])
theorem mem_mvd {bx : Nat → Nat} {c n : Nat} {B : List Nat} : n ∈ mvd U bx c B ↔ n ∈ B ∧ bx n = c ∧ 0 < U n := by
  unfold mvd
  rw [List.mem_filter, List.mem_filter, decide_eq_true_eq, decide_eq_true_eq]
  exact ⟨fun ⟨⟨h1, h2⟩, h3⟩ => ⟨h1, h2, h3⟩, fun ⟨h1, h2, h3⟩ => ⟨⟨h1, h2⟩, h3⟩⟩
theorem mvL_is {c : Nat} : ∀ (B A C : List Nat) (bx : Nat → Nat) (S : BX), (A ++ B ++ C).Nodup → (∀ n ∈ B, (cb n).length ≤ 32) → c < S.2.2 → BR S (A ++ B.filter (fun n => decide (bx n ≠ c)) ++ C) bx → (mvL cb U c B A C bx S.2.2).1 = A ++ B.filter (fun n => decide (bx n ≠ c)) ++ C ++ mvd U bx c B ∧ (mvL cb U c B A C bx S.2.2).2.2 = (pSs cb S (mvd U bx c B)).2.2 ∧ BR (pSs cb S (mvd U bx c B)) (mvL cb U c B A C bx S.2.2).1 (mvL cb U c B A C bx S.2.2).2.1 ∧ (∀ n, n ∉ mvd U bx c B → (mvL cb U c B A C bx S.2.2).2.1 n = bx n) ∧ (∀ n ∈ mvd U bx c B, S.2.2 ≤ (mvL cb U c B A C bx S.2.2).2.1 n) ∧ pot cb (mvL cb U c B A C bx S.2.2).1 (mvL cb U c B A C bx S.2.2).2.1 (mvL cb U c B A C bx S.2.2).2.2 ≤ pot cb (A ++ B.filter (fun n => decide (bx n ≠ c)) ++ C) bx S.2.2 + 2 * byS cb (mvd U bx c B) ∧ ((∀ k, bIn (A ++ B.filter (fun n => decide (bx n ≠ c)) ++ C) bx cb k ≤ 128) → ∀ k, bIn (mvL cb U c B A C bx S.2.2).1 (mvL cb U c B A C bx S.2.2).2.1 cb k ≤ 128) := by
  intro B
  induction B with
  | nil =>
    intro A C bx S hnd hl hc h
    have e0 : A ++ [] ++ C = A ++ C := by rw [List.append_nil]
    have h' : BR S (A ++ [] ++ C) bx := h
    rw [e0] at h'
    refine ⟨?_, rfl, h', fun n _ => rfl, fun n hn => absurd (mem_mvd.mp hn).1 (List.not_mem_nil), ?_, fun q => by rw [show A ++ List.filter (fun n => decide (bx n ≠ c)) [] ++ C = A ++ C from e0] at q; exact q⟩
    · show A ++ C = A ++ [] ++ C ++ []
      rw [e0, List.append_nil]
    · show pot cb (A ++ C) bx S.2.2 ≤ pot cb (A ++ [] ++ C) bx S.2.2 + 0
      rw [e0]
      exact Nat.le_refl _
  | cons n B ih =>
    intro A C bx S hnd hl hc h
    have hnB : n ∉ B := by
      have := (List.nodup_append.mp hnd).1
      have := (List.nodup_append.mp this).2.1
      exact (List.nodup_cons.mp this).1
    have hlB : ∀ n ∈ B, (cb n).length ≤ 32 := fun x hx => hl x (List.mem_cons_of_mem _ hx)
    have hln := hl n (List.mem_cons_self ..)
    have hnA : n ∉ A := fun q => (List.nodup_append.mp (List.nodup_append.mp hnd).1).2.2 n q n (List.mem_cons_self ..) rfl
    have hnC : n ∉ C := fun q => (List.nodup_append.mp hnd).2.2 n (List.mem_append.mpr (Or.inr (List.mem_cons_self ..))) n q rfl
    have hndB : (A ++ B ++ C).Nodup := by
      refine hnd.sublist ?_
      exact List.Sublist.append (List.Sublist.append (List.Sublist.refl _) (List.sublist_cons_self _ _)) (List.Sublist.refl _)
    by_cases e : bx n = c
    · have ef : (n :: B).filter (fun n => decide (bx n ≠ c)) = B.filter (fun n => decide (bx n ≠ c)) := by
        rw [List.filter_cons, if_neg (fun q => absurd e (of_decide_eq_true q))]
      rw [ef] at h ⊢
      by_cases eu : 0 < U n
      · have em : mvL cb U c (n :: B) A C bx S.2.2 = mvL cb U c B A (C ++ [n]) (up1 bx n (opR (A ++ B ++ C) bx cb S.2.2 (cb n).length)) (opR (A ++ B ++ C) bx cb S.2.2 (cb n).length) := by
          show (if bx n = c then _ else _) = _
          rw [if_pos e, if_pos eu]
        have eo : opR (A ++ B ++ C) bx cb S.2.2 (cb n).length = opR (A ++ B.filter (fun n => decide (bx n ≠ c)) ++ C) bx cb S.2.2 (cb n).length := by
          unfold opR
          rw [bIn_skip (c := c) (k := S.2.2) (by omega)]
        have hnR : n ∉ A ++ B.filter (fun n => decide (bx n ≠ c)) ++ C := by
          intro q
          rcases List.mem_append.mp q with q | q
          · rcases List.mem_append.mp q with q | q
            · exact hnA q
            · exact hnB (List.mem_filter.mp q).1
          · exact hnC q
        obtain ⟨p1, p2⟩ := h.put (cb := cb) (n := n) hnR (by omega)
        have p3 := pot_put (cb := cb) hnR h.2.2 hln
        have p4 := cap_put (cb := cb) hnR h.2.2 hln
        have ge := (opR_le (cb := cb) (R := A ++ B.filter (fun n => decide (bx n ≠ c)) ++ C) (bx := bx) S.2.2 (cb n).length).1
        rw [em, mvd_y e eu, eo]
        generalize opR (A ++ B.filter (fun n => decide (bx n ≠ c)) ++ C) bx cb S.2.2 (cb n).length = o at *
        have ef2 : B.filter (fun x => decide (up1 bx n o x ≠ c)) = B.filter (fun x => decide (bx x ≠ c)) := List.filter_congr (fun x hx => by rw [upn hx hnB])
        have hnd2 : (A ++ B ++ (C ++ [n])).Nodup := by
          rw [← List.append_assoc]
          refine List.nodup_append.mpr ⟨hndB, (by simp), fun a ha b hb q => ?_⟩
          rw [List.mem_singleton.mp hb] at q
          subst q
          rcases List.mem_append.mp ha with ha | ha
          · rcases List.mem_append.mp ha with ha | ha
            · exact hnA ha
            · exact hnB ha
          · exact hnC ha
        have IH := ih A (C ++ [n]) (up1 bx n o) (pS cb S n) hnd2 hlB (by omega) (by rw [ef2, ← List.append_assoc]; exact p1)
        rw [p2, ef2, mvd_up hnB, ← List.append_assoc] at IH
        obtain ⟨i1, i2, i3, i4, i5, i6, i7⟩ := IH
        refine ⟨?_, i2, i3, fun x hx => ?_, fun x hx => ?_, ?_, fun q => i7 (p4 q)⟩
        · rw [i1, List.append_assoc _ [n]]
          rfl
        · rw [i4 x (fun q => hx (List.mem_cons_of_mem _ q)), up1_nea (fun q => hx (by rw [q]; exact List.mem_cons_self ..))]
        · rcases List.mem_cons.mp hx with rfl | hx
          · rw [i4 x (fun q => hnB (mem_mvd.mp q).1), up1_e, if_pos rfl]
            exact ge
          · exact Nat.le_trans ge (i5 x hx)
        · have eb : byS cb (n :: mvd U bx c B) = (cb n).length + byS cb (mvd U bx c B) := rfl
          rw [eb]
          omega
      · have em : mvL cb U c (n :: B) A C bx S.2.2 = mvL cb U c B A C bx S.2.2 := by
          show (if bx n = c then _ else _) = _
          rw [if_pos e, if_neg eu]
        rw [em, mvd_u e eu]
        exact ih A C bx S hndB hlB hc h
    · have ef : (n :: B).filter (fun n => decide (bx n ≠ c)) = n :: B.filter (fun n => decide (bx n ≠ c)) := by
        rw [List.filter_cons, if_pos (decide_eq_true e)]
      have em : mvL cb U c (n :: B) A C bx S.2.2 = mvL cb U c B (A ++ [n]) C bx S.2.2 := by
        show (if bx n = c then _ else _) = _
        rw [if_neg e]
      have ea : A ++ n :: B.filter (fun n => decide (bx n ≠ c)) = A ++ [n] ++ B.filter (fun n => decide (bx n ≠ c)) := by
        rw [List.append_assoc]; rfl
      rw [ef, ea] at h
      rw [ef, ea, em, mvd_n e]
      refine ih (A ++ [n]) C bx S ?_ hlB hc h
      have : A ++ [n] ++ B ++ C = A ++ n :: B ++ C := by rw [List.append_assoc A]; rfl
      rw [this]
      exact hnd
end PU3
