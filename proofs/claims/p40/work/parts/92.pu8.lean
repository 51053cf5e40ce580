/-! the kept versions, both sides -/
section PU8
variable {kl : List Nat} {vf vn : Nat → Nat} {vb ve : Nat → List Nat} {vp : Nat → Option Nat}
theorem sm_addf (f g : Nat → Nat) : ∀ n, sm (fun k => f k + g k) n = sm f n + sm g n := by
  intro n
  induction n with
  | zero => rfl
  | succ n ih => show sm _ n + (f n + g n) = (sm f n + f n) + (sm g n + g n); rw [ih]; omega
theorem sm_is0 {f : Nat → Nat} : ∀ n, (∀ k, k < n → f k = 0) → sm f n = 0 := by
  intro n
  induction n with
  | zero => intro _; rfl
  | succ n ih => intro h; show sm f n + f n = 0; rw [ih (fun k hk => h k (by omega)), h n (by omega)]
theorem sm_at {a v : Nat} : ∀ n, a < n → sm (fun k => if k = a then v else 0) n = v := by
  intro n
  induction n with
  | zero => intro h; omega
  | succ n ih =>
    intro h
    show sm _ n + (if n = a then v else 0) = v
    by_cases e : n = a
    · rw [if_pos e, sm_is0 n (fun k hk => if_neg (by omega)), Nat.zero_add]
    · rw [if_neg e, ih (by omega)]
      rfl
theorem sm_in (g : Nat → Nat) {N : Nat} : ∀ kl : List Nat, kl.Nodup → (∀ k ∈ kl, k < N) → sm (fun k => if k ∈ kl then g k else 0) N = (kl.map g).sum := by
  intro kl
  induction kl with
  | nil => intro _ _; exact sm_is0 N (fun k _ => if_neg List.not_mem_nil)
  | cons a l ih =>
    intro h1 h2
    obtain ⟨n1, n2⟩ := List.nodup_cons.mp h1
    have e : sm (fun k => if k ∈ a :: l then g k else 0) N = sm (fun k => (if k = a then g a else 0) + if k ∈ l then g k else 0) N := sm_congr (fun k _ => by
      by_cases e : k = a
      · subst e
        rw [if_pos (List.mem_cons_self ..), if_pos rfl, if_neg n1]
        rfl
      · by_cases e2 : k ∈ l
        · rw [if_pos (List.mem_cons_of_mem _ e2), if_neg e, if_pos e2, Nat.zero_add]
        · rw [if_neg (fun q => (List.mem_cons.mp q).elim e e2), if_neg e, if_neg e2])
    rw [e, sm_addf, sm_at N (h2 a (List.mem_cons_self ..)), ih n2 (fun k hk => h2 k (List.mem_cons_of_mem _ hk)), List.map_cons, List.sum_cons]
theorem sm_one_le {P : Nat → Prop} [DecidablePred P] : ∀ n, sm (fun k => if P k then 1 else 0) n ≤ n := by
  intro n
  induction n with
  | zero => exact Nat.le_refl _
  | succ n ih =>
    show sm _ n + (if P n then 1 else 0) ≤ n + 1
    split <;> omega
theorem nd_len {rw : List Nat} {N : Nat} (h1 : rw.Nodup) (h2 : ∀ k ∈ rw, k < N) : rw.length ≤ N := by
  have e := sm_in (fun _ => 1) rw h1 h2
  rw [sum_len] at e
  rw [← e]
  exact sm_one_le (P := fun k => k ∈ rw) N
/-- what holds of the kept versions -/
def KI (kl : List Nat) (vf vn : Nat → Nat) (vb ve : Nat → List Nat) (vp : Nat → Option Nat) (nx : Nat → Nat) (cb : Nat → List Nat) (rw : List Nat) : Prop :=
  kl.Nodup ∧ (∀ k ∈ kl, k < 20) ∧ kl.Pairwise (fun a b => vf a = vf b → vn a < vn b) ∧ (∀ k ∈ kl, vf k < 6 ∧ vn k < nx (vf k) ∧ vn k < 1000000) ∧ (∀ k ∈ kl, ∀ j, vp k = some j → j ∈ kl ∧ vf j = vf k) ∧ (∀ k ∈ kl, chE vp 3 (vp k)) ∧ ∀ k ∈ kl, (∀ n ∈ ve k, n ∈ rw) ∧ byS cb (ve k) = (vb k).length ∧ (ve k).length ≤ 30
theorem pw_un (h : kl.Pairwise (fun a b => vf a = vf b → vn a < vn b)) : ∀ k ∈ kl, ∀ k' ∈ kl, vf k = vf k' → vn k = vn k' → k = k' := by
  induction kl with
  | nil => intro k hk; exact absurd hk List.not_mem_nil
  | cons a l ih =>
    obtain ⟨h1, h2⟩ := List.pairwise_cons.mp h
    intro k hk k' hk' e1 e2
    rcases List.mem_cons.mp hk with q | q
    · rcases List.mem_cons.mp hk' with q' | q'
      · rw [q, q']
      · subst q
        have := h1 k' q' e1
        omega
    · rcases List.mem_cons.mp hk' with q' | q'
      · subst q'
        have := h1 k q e1.symm
        omega
      · exact ih h2 k q k' q' e1 e2
theorem ff_inj {a b : Nat} (ha : a < 1000000) (hb : b < 1000000) (h : nI a = nI b) : a = b := (nI_eq (by omega) (by omega)).mp h
/-- a version's place, both sides -/
theorem fv_pl (hpw : kl.Pairwise (fun a b => vf a = vf b → vn a < vn b)) (h20 : ∀ k ∈ kl, k < 20) (hb : ∀ k ∈ kl, vf k < 6 ∧ vn k < 1000000) (f v : Int32) : pl kl vf vn f v = fv kl vf vn f v := by
  have hun := pw_un hpw
  have hu : ∀ k ∈ kl, nI (vf k) = f ∧ nI (vn k) = v → ∀ k' ∈ kl, nI (vf k') = f ∧ nI (vn k') = v → k = k' := fun k hk q k' hk' q' => by
    have a1 := hb k hk
    have a2 := hb k' hk'
    exact hun k hk k' hk' (ff_inj (by omega) (by omega) (by rw [q.1, q'.1])) (ff_inj (by omega) (by omega) (by rw [q.2, q'.2]))
  cases e : fv kl vf vn f v with
  | some k =>
    obtain ⟨h1, h2⟩ := fv_mem e
    refine lastK_one 20 (h20 k h1) ⟨h1, h2⟩ (fun i _ q => hu i q.1 q.2 k h1 h2)
  | none =>
    refine lastK_none 20 (fun i _ q => ?_)
    unfold fv at e
    have := List.find?_eq_none.mp e i q.1
    exact this (decide_eq_true q.2)
theorem pl_at (hpw : kl.Pairwise (fun a b => vf a = vf b → vn a < vn b)) (h20 : ∀ k ∈ kl, k < 20) (hb : ∀ k ∈ kl, vf k < 6 ∧ vn k < 1000000) {k : Nat} (hk : k ∈ kl) : pl kl vf vn (nI (vf k)) (nI (vn k)) = some k := by
  refine lastK_one 20 (h20 k hk) ⟨hk, rfl, rfl⟩ (fun i _ q => ?_)
  have a1 := hb k hk
  have a2 := hb i q.1
  exact pw_un hpw i q.1 k hk (ff_inj (by omega) (by omega) q.2.1) (ff_inj (by omega) (by omega) q.2.2)
theorem latN_is (f : Int32) : ∀ n, (latN kl vf vn f n = none ∧ ∀ k, k < n → ¬ (k ∈ kl ∧ nI (vf k) = f)) ∨ ∃ k, k < n ∧ k ∈ kl ∧ nI (vf k) = f ∧ latN kl vf vn f n = some (vn k) ∧ ∀ i, i < n → i ∈ kl → nI (vf i) = f → vn i ≤ vn k := by
  intro n
  induction n with
  | zero => exact Or.inl ⟨rfl, fun k hk => absurd hk (Nat.not_lt_zero k)⟩
  | succ n ih =>
    rcases ih with ⟨h1, h2⟩ | ⟨k, h1, h2, h3, h4, h5⟩
    · have e : latN kl vf vn f (n + 1) = if n ∈ kl ∧ nI (vf n) = f then some (vn n) else none := by
        show (match latN kl vf vn f n with | none => _ | some x => _) = _
        rw [h1]
      by_cases q : n ∈ kl ∧ nI (vf n) = f
      · rw [if_pos q] at e
        refine Or.inr ⟨n, Nat.lt_succ_self n, q.1, q.2, e, fun i hi q1 q2 => ?_⟩
        by_cases e2 : i = n
        · rw [e2]; exact Nat.le_refl _
        · exact absurd ⟨q1, q2⟩ (h2 i (by omega))
      · rw [if_neg q] at e
        refine Or.inl ⟨e, fun k hk q2 => ?_⟩
        by_cases e2 : k = n
        · rw [e2] at q2; exact q q2
        · exact h2 k (by omega) q2
    · have e : latN kl vf vn f (n + 1) = if n ∈ kl ∧ nI (vf n) = f ∧ vn k < vn n then some (vn n) else some (vn k) := by
        show (match latN kl vf vn f n with | none => _ | some x => _) = _
        rw [h4]
      by_cases q : n ∈ kl ∧ nI (vf n) = f ∧ vn k < vn n
      · rw [if_pos q] at e
        refine Or.inr ⟨n, Nat.lt_succ_self n, q.1, q.2.1, e, fun i hi q1 q2 => ?_⟩
        by_cases e2 : i = n
        · rw [e2]; exact Nat.le_refl _
        · have := h5 i (by omega) q1 q2
          omega
      · rw [if_neg q] at e
        refine Or.inr ⟨k, by omega, h2, h3, e, fun i hi q1 q2 => ?_⟩
        by_cases e2 : i = n
        · rw [e2] at q1 q2 ⊢
          by_cases e3 : vn k < vn n
          · exact absurd ⟨q1, q2, e3⟩ q
          · omega
        · exact h5 i (by omega) q1 q2
/-- the latest version, both sides -/
theorem lk_lat (hpw : kl.Pairwise (fun a b => vf a = vf b → vn a < vn b)) (h20 : ∀ k ∈ kl, k < 20) (hb : ∀ k ∈ kl, vf k < 6 ∧ vn k < 1000000) (f : Int32) : latN kl vf vn f 20 = (lk kl vf f).map vn := by
  rcases latN_is (kl := kl) (vf := vf) (vn := vn) f 20 with ⟨h1, h2⟩ | ⟨k, h1, h2, h3, h4, h5⟩
  · rw [h1]
    cases e : lk kl vf f with
    | none => rfl
    | some j =>
      obtain ⟨a1, a2⟩ := lk_mem e
      exact absurd ⟨a1, a2⟩ (h2 j (h20 j a1))
  · rw [h4]
    cases e : lk kl vf f with
    | none =>
      unfold lk at e
      have := List.find?_eq_none.mp e k (List.mem_reverse.mpr h2)
      exact absurd (decide_eq_true h3) this
    | some j =>
      obtain ⟨a1, a2⟩ := lk_mem e
      have a3 := h5 j (h20 j a1) a1 a2
      unfold lk at e
      obtain ⟨-, as, bs, e2, e3⟩ := List.find?_eq_some_iff_append.mp e
      have e4 : kl = bs.reverse ++ j :: as.reverse := by
        rw [← List.reverse_reverse kl, e2, List.reverse_append, List.reverse_cons, List.append_assoc]
        rfl
      have hk : k ∈ bs.reverse ++ j :: as.reverse := by rw [← e4]; exact h2
      have hff : vf k = vf j := ff_inj (by have := hb k h2; omega) (by have := hb j a1; omega) (by rw [h3, a2])
      show some (vn k) = some (vn j)
      rcases List.mem_append.mp hk with q | q
      · rw [e4] at hpw
        have := (List.pairwise_append.mp hpw).2.2 k q j (List.mem_cons_self ..) hff
        omega
      · rcases List.mem_cons.mp q with q | q
        · rw [q]
        · have := e3 k (List.mem_reverse.mp q)
          rw [decide_eq_true h3] at this
          cases this
end PU8
