/-! both sides' containers: the class's lists, the reference's rows -/
section PU1
variable {cb : Nat → List Nat} {R : List Nat} {bx : Nat → Nat} {S : BX}
/-- the class's containers and the rows agree -/
def BR (S : BX) (R : List Nat) (bx : Nat → Nat) : Prop := S.1 = (List.range (S.2.2 + 1)).filter (fun k => decide (k = S.2.2 ∨ ∃ n ∈ R, bx n = k)) ∧ (∀ k ∈ S.1, S.2.1 k = R.filter (fun n => decide (bx n = k))) ∧ ∀ n ∈ R, bx n ≤ S.2.2
theorem bIn_f (R : List Nat) (bx : Nat → Nat) (cb : Nat → List Nat) (c : Nat) : bIn R bx cb c = byS cb (R.filter (fun n => decide (bx n = c))) := by
  unfold bIn byS
  induction R with
  | nil => rfl
  | cons a l ih =>
    rw [List.map_cons, List.sum_cons, ih, List.filter_cons]
    by_cases e : bx a = c
    · rw [if_pos e, if_pos (decide_eq_true e), List.map_cons, List.sum_cons]
    · rw [if_neg e, if_neg (fun q => e (of_decide_eq_true q)), Nat.zero_add]
theorem BR.mem (h : BR S R bx) {k : Nat} : k ∈ S.1 ↔ k = S.2.2 ∨ ∃ n ∈ R, bx n = k := by
  rw [h.1, List.mem_filter, List.mem_range, decide_eq_true_eq]
  constructor
  · exact fun q => q.2
  · intro q
    refine ⟨?_, q⟩
    rcases q with q | ⟨n, hn, q⟩
    · omega
    · have := h.2.2 n hn
      omega
theorem BR.o (h : BR S R bx) : S.2.2 ∈ S.1 := h.mem.mpr (Or.inl rfl)
theorem BR.le (h : BR S R bx) {k : Nat} (hk : k ∈ S.1) : k ≤ S.2.2 := by
  rcases h.mem.mp hk with q | ⟨n, hn, q⟩
  · omega
  · have := h.2.2 n hn
    omega
theorem BR.len (h : BR S R bx) : S.1.length ≤ S.2.2 + 1 := by
  rw [h.1]
  refine Nat.le_trans (List.length_filter_le _ _) ?_
  rw [List.length_range]
  exact Nat.le_refl _
theorem BR.nd (h : BR S R bx) : S.1.Nodup := by
  rw [h.1]
  exact List.nodup_range.filter _
theorem BR.co (h : BR S R bx) {k n : Nat} (hk : k ∈ S.1) : n ∈ S.2.1 k ↔ n ∈ R ∧ bx n = k := by
  rw [h.2.1 k hk, List.mem_filter, decide_eq_true_eq]
theorem BR.at (h : BR S R bx) {n : Nat} (hn : n ∈ R) : bx n ∈ S.1 ∧ n ∈ S.2.1 (bx n) := by
  have h1 : bx n ∈ S.1 := h.mem.mpr (Or.inr ⟨n, hn, rfl⟩)
  exact ⟨h1, (h.co h1).mpr ⟨hn, rfl⟩⟩
theorem BR.opf (h : BR S R bx) (l : Nat) : opF cb S.2.1 S.2.2 l = opR R bx cb S.2.2 l := by
  unfold opF opR
  rw [bIn_f, h.2.1 _ h.o]
theorem upn {α : Type} {f : Nat → α} {n x : Nat} {v : α} {R : List Nat} (hx : x ∈ R) (hn : n ∉ R) : up1 f n v x = f x := up1_nea (fun e => by rw [e] at hx; exact hn hx)
theorem filt_up {n o k : Nat} (hn : n ∉ R) : (R ++ [n]).filter (fun x => decide (up1 bx n o x = k)) = R.filter (fun x => decide (bx x = k)) ++ if o = k then [n] else [] := by
  rw [List.filter_append]
  congr 1
  · refine List.filter_congr (fun x hx => ?_)
    rw [upn hx hn]
  · rw [List.filter_cons, up1_e, if_pos rfl]
    by_cases e : o = k
    · rw [if_pos (decide_eq_true e), if_pos e]; rfl
    · rw [if_neg (fun q => e (of_decide_eq_true q)), if_neg e]; rfl
theorem opR_le (op l : Nat) : op ≤ opR R bx cb op l ∧ opR R bx cb op l ≤ op + 1 := by
  unfold opR
  split <;> omega
theorem bIn_pos {c : Nat} (h : 0 < bIn R bx cb c) : ∃ n ∈ R, bx n = c := by
  rw [bIn_f] at h
  cases e : R.filter (fun n => decide (bx n = c)) with
  | nil => rw [e] at h; exact absurd h (Nat.lt_irrefl 0)
  | cons x l =>
    have hx : x ∈ R.filter (fun n => decide (bx n = c)) := by rw [e]; exact List.mem_cons_self ..
    obtain ⟨h1, h2⟩ := List.mem_filter.mp hx
    exact ⟨x, h1, of_decide_eq_true h2⟩
theorem filt_none {c : Nat} (h : ∀ n ∈ R, bx n ≠ c) : R.filter (fun n => decide (bx n = c)) = [] := by
  refine List.filter_eq_nil_iff.mpr (fun x hx q => h x hx (of_decide_eq_true q))
/-- a chunk is put behind the others -/
theorem BR.put {n : Nat} (h : BR S R bx) (hn : n ∉ R) (hl : (cb n).length ≤ 128) : BR (pS cb S n) (R ++ [n]) (up1 bx n (opR R bx cb S.2.2 (cb n).length)) ∧ (pS cb S n).2.2 = opR R bx cb S.2.2 (cb n).length := by
  have h2 : (pS cb S n).2.2 = opR R bx cb S.2.2 (cb n).length := h.opf _
  obtain ⟨ol1, ol2⟩ := opR_le (cb := cb) (R := R) (bx := bx) S.2.2 (cb n).length
  have hfit : byS cb (S.2.1 S.2.2) = bIn R bx cb S.2.2 := by rw [bIn_f, h.2.1 _ h.o]
  have h1 : (pS cb S n).1 = (List.range (opR R bx cb S.2.2 (cb n).length + 1)).filter (fun k => decide (k = opR R bx cb S.2.2 (cb n).length ∨ ∃ x ∈ R ++ [n], up1 bx n (opR R bx cb S.2.2 (cb n).length) x = k)) := by
    show blF cb S.2.1 S.2.2 (cb n).length S.1 = _
    unfold blF
    rw [hfit]
    unfold opR
    by_cases e : bIn R bx cb S.2.2 + (cb n).length ≤ 128
    · rw [if_pos e, if_pos e, h.1]
      refine List.filter_congr (fun k _ => ?_)
      refine decide_eq_decide.mpr ⟨fun q => ?_, fun q => ?_⟩
      · rcases q with q | ⟨x, hx, q⟩
        · exact Or.inl q
        · exact Or.inr ⟨x, List.mem_append.mpr (Or.inl hx), by rw [upn hx hn]; exact q⟩
      · rcases q with q | ⟨x, hx, q⟩
        · exact Or.inl q
        · rcases List.mem_append.mp hx with hx | hx
          · rw [upn hx hn] at q
            exact Or.inr ⟨x, hx, q⟩
          · rw [List.mem_singleton.mp hx, up1_e, if_pos rfl] at q
            exact Or.inl q.symm
    · rw [if_neg e, if_neg e, h.1, List.range_succ (n := S.2.2 + 1), List.filter_append]
      congr 1
      · refine List.filter_congr (fun k hk => ?_)
        have hk2 := List.mem_range.mp hk
        refine decide_eq_decide.mpr ⟨fun q => ?_, fun q => ?_⟩
        · rcases q with q | ⟨x, hx, q⟩
          · obtain ⟨x, hx, q2⟩ := bIn_pos (c := S.2.2) (R := R) (bx := bx) (cb := cb) (by omega)
            exact Or.inr ⟨x, List.mem_append.mpr (Or.inl hx), by rw [upn hx hn, q2, q]⟩
          · exact Or.inr ⟨x, List.mem_append.mpr (Or.inl hx), by rw [upn hx hn]; exact q⟩
        · rcases q with q | ⟨x, hx, q⟩
          · omega
          · rcases List.mem_append.mp hx with hx | hx
            · rw [upn hx hn] at q
              exact Or.inr ⟨x, hx, q⟩
            · rw [List.mem_singleton.mp hx, up1_e, if_pos rfl] at q
              omega
      · rw [List.filter_cons, if_pos (decide_eq_true (Or.inl rfl))]
        rfl
  refine ⟨⟨by rw [h2]; exact h1, fun k hk => ?_, fun x hx => ?_⟩, h2⟩
  · rw [filt_up hn]
    show up1 (coF cb S.2.1 S.2.2 (cb n).length) (opF cb S.2.1 S.2.2 (cb n).length) (coF cb S.2.1 S.2.2 (cb n).length (opF cb S.2.1 S.2.2 (cb n).length) ++ [n]) k = _
    have hc : coF cb S.2.1 S.2.2 (cb n).length k = R.filter (fun x => decide (bx x = k)) := by
      rw [h1] at hk
      have hk3 := List.mem_filter.mp hk
      have hk4 := of_decide_eq_true hk3.2
      unfold coF
      rw [hfit]
      unfold opR at hk4
      by_cases e : bIn R bx cb S.2.2 + (cb n).length ≤ 128
      · rw [if_pos e]
        rw [if_pos e] at hk4
        refine h.2.1 k (h.mem.mpr ?_)
        rcases hk4 with q | ⟨x, hx, q⟩
        · exact Or.inl q
        · rcases List.mem_append.mp hx with hx | hx
          · rw [upn hx hn] at q
            exact Or.inr ⟨x, hx, q⟩
          · rw [List.mem_singleton.mp hx, up1_e, if_pos rfl] at q
            exact Or.inl q.symm
      · rw [if_neg e, up1_e]
        rw [if_neg e] at hk4
        by_cases e2 : k = S.2.2 + 1
        · rw [if_pos e2]
          exact (filt_none (fun x hx => by have := h.2.2 x hx; omega)).symm
        · rw [if_neg e2]
          refine h.2.1 k (h.mem.mpr ?_)
          rcases hk4 with q | ⟨x, hx, q⟩
          · exact absurd q e2
          · rcases List.mem_append.mp hx with hx | hx
            · rw [upn hx hn] at q
              exact Or.inr ⟨x, hx, q⟩
            · rw [List.mem_singleton.mp hx, up1_e, if_pos rfl] at q
              exact absurd q.symm e2
    rw [h.opf, up1_e]
    by_cases e : k = opR R bx cb S.2.2 (cb n).length
    · rw [if_pos e, if_pos e.symm, ← e, hc]
    · rw [if_neg e, if_neg (fun q => e q.symm), hc, List.append_nil]
  · rw [h2]
    rcases List.mem_append.mp hx with hx | hx
    · rw [upn hx hn]
      exact Nat.le_trans (h.2.2 x hx) ol1
    · rw [List.mem_singleton.mp hx, up1_e, if_pos rfl]
      exact Nat.le_refl _
theorem era_filt : ∀ (xs : List Nat) (p : Nat), xs.Nodup → p < xs.length → xs.eraseIdx p = xs.filter (fun k => decide (k ≠ xs.getD p 0)) := by
  intro xs
  induction xs with
  | nil => intro p _ h; exact absurd h (Nat.not_lt_zero _)
  | cons x l ih =>
    intro p hnd hp
    obtain ⟨h1, h2⟩ := List.nodup_cons.mp hnd
    cases p with
    | zero =>
      show l = (x :: l).filter (fun k => decide (k ≠ x))
      rw [List.filter_cons, if_neg (by simp)]
      refine (List.filter_eq_self.mpr (fun y hy => ?_)).symm
      exact decide_eq_true (fun e => h1 (e ▸ hy))
    | succ p =>
      have hp2 : p < l.length := Nat.lt_of_succ_lt_succ hp
      show x :: l.eraseIdx p = (x :: l).filter (fun k => decide (k ≠ l.getD p 0))
      have hx : x ≠ l.getD p 0 := fun e => h1 (by rw [e]; exact gD_mem hp2)
      rw [List.filter_cons, if_pos (decide_eq_true hx), ih p h2 hp2]
/-- a container is taken out, with its rows -/
theorem BR.del {p : Nat} (h : BR S R bx) (hp : p < S.1.length) (hne : S.1.getD p 0 ≠ S.2.2) : BR (S.1.eraseIdx p, S.2.1, S.2.2) (R.filter (fun n => decide (bx n ≠ S.1.getD p 0))) bx := by
  have hnd := h.nd
  have her := era_filt S.1 p hnd hp
  have hcl : ∀ x, x ∈ R.filter (fun n => decide (bx n ≠ S.1.getD p 0)) ↔ x ∈ R ∧ bx x ≠ S.1.getD p 0 := fun x => by rw [List.mem_filter, decide_eq_true_eq]
  refine ⟨?_, fun k hk => ?_, fun n hn => h.2.2 n (List.mem_filter.mp hn).1⟩
  · show S.1.eraseIdx p = _
    rw [her]
    generalize S.1.getD p 0 = c at *
    rw [h.1, List.filter_filter]
    refine List.filter_congr (fun k _ => ?_)
    rw [← Bool.decide_and]
    refine decide_eq_decide.mpr ⟨fun ⟨q1, q2⟩ => ?_, fun q => ?_⟩
    · rcases q2 with q2 | ⟨x, hx, q2⟩
      · exact Or.inl q2
      · exact Or.inr ⟨x, (hcl x).mpr ⟨hx, by rw [q2]; exact q1⟩, q2⟩
    · rcases q with q | ⟨x, hx, q⟩
      · exact ⟨by rw [q]; exact fun e => hne e.symm, Or.inl q⟩
      · obtain ⟨hx1, hx2⟩ := (hcl x).mp hx
        exact ⟨by rw [← q]; exact hx2, Or.inr ⟨x, hx1, q⟩⟩
  · have hk1 : k ∈ S.1.eraseIdx p := hk
    rw [her] at hk1
    obtain ⟨hk2, hk3⟩ := List.mem_filter.mp hk1
    have hk4 := of_decide_eq_true hk3
    show S.2.1 k = _
    rw [h.2.1 k hk2, List.filter_filter]
    refine List.filter_congr (fun x _ => ?_)
    rw [← Bool.decide_and]
    exact decide_eq_decide.mpr ⟨fun q => ⟨q, by rw [q]; exact hk4⟩, fun q => q.1⟩
end PU1
