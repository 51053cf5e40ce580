/-! sums over the containers; what is held in all -/
section PU2
variable {cb : Nat → List Nat} {R : List Nat} {bx : Nat → Nat} {S : BX}
theorem sum_add {α : Type} (f g : α → Nat) : ∀ l : List α, (l.map (fun x => f x + g x)).sum = (l.map f).sum + (l.map g).sum := by
  intro l
  induction l with
  | nil => rfl
  | cons a l ih => rw [List.map_cons, List.sum_cons, ih, List.map_cons, List.sum_cons, List.map_cons, List.sum_cons]; omega
theorem sum_zero {α : Type} (l : List α) : (l.map (fun _ => 0)).sum = 0 := by
  induction l with
  | nil => rfl
  | cons a l ih => rw [List.map_cons, List.sum_cons, ih]
theorem sum_one : ∀ (bl : List Nat) (c v : Nat), bl.Nodup → c ∈ bl → (bl.map (fun k => if c = k then v else 0)).sum = v := by
  intro bl
  induction bl with
  | nil => intro c v _ h; exact nomatch h
  | cons a l ih =>
    intro c v hnd h
    obtain ⟨h1, h2⟩ := List.nodup_cons.mp hnd
    rw [List.map_cons, List.sum_cons]
    by_cases e : c = a
    · rw [if_pos e]
      have : l.map (fun k => if c = k then v else 0) = l.map (fun _ => 0) := List.map_congr_left (fun k hk => if_neg (fun q => h1 (by rw [← e, q]; exact hk)))
      rw [this, sum_zero, Nat.add_zero]
    · rw [if_neg e, ih c v h2 ((List.mem_cons.mp h).resolve_left e), Nat.zero_add]
/-- a sum over all rows is one over the containers -/
theorem part_sum (f : Nat → Nat) {bl : List Nat} (hnd : bl.Nodup) : ∀ R : List Nat, (∀ n ∈ R, bx n ∈ bl) → (bl.map (fun k => ((R.filter (fun n => decide (bx n = k))).map f).sum)).sum = (R.map f).sum := by
  intro R
  induction R with
  | nil => intro _; exact sum_zero bl
  | cons a l ih =>
    intro h
    have e : bl.map (fun k => (((a :: l).filter (fun n => decide (bx n = k))).map f).sum) = bl.map (fun k => (if bx a = k then f a else 0) + ((l.filter (fun n => decide (bx n = k))).map f).sum) := by
      refine List.map_congr_left (fun k _ => ?_)
      rw [List.filter_cons]
      by_cases e : bx a = k
      · rw [if_pos (decide_eq_true e), if_pos e, List.map_cons, List.sum_cons]
      · rw [if_neg (fun q => e (of_decide_eq_true q)), if_neg e, Nat.zero_add]
    rw [e, sum_add, sum_one bl (bx a) (f a) hnd (h a (List.mem_cons_self ..)), ih (fun n hn => h n (List.mem_cons_of_mem _ hn)), List.map_cons, List.sum_cons]
theorem BR.sum (h : BR S R bx) (f : Nat → Nat) : (S.1.map (fun k => ((S.2.1 k).map f).sum)).sum = (R.map f).sum := by
  have e : S.1.map (fun k => ((S.2.1 k).map f).sum) = S.1.map (fun k => ((R.filter (fun n => decide (bx n = k))).map f).sum) := List.map_congr_left (fun k hk => by rw [h.2.1 k hk])
  rw [e]
  exact part_sum f h.nd R (fun n hn => (h.at hn).1)
theorem sum_len {α : Type} (l : List α) : (l.map (fun _ => 1)).sum = l.length := by
  induction l with
  | nil => rfl
  | cons a l ih => rw [List.map_cons, List.sum_cons, ih, List.length_cons]; omega
theorem BR.chunks (h : BR S R bx) : (S.1.map (fun k => (S.2.1 k).length)).sum = R.length := by
  have := h.sum (fun _ => 1)
  simp only [sum_len] at this
  exact this
theorem BR.bytes (h : BR S R bx) (cb : Nat → List Nat) : (S.1.map (fun k => byS cb (S.2.1 k))).sum = byS cb R := h.sum (fun n => (cb n).length)
theorem gb_one (us : Nat → Nat) (cb : Nat → List Nat) : ∀ ns : List Nat, byS cb ns - lvS us cb ns = (ns.map (fun n => if us n = 0 then (cb n).length else 0)).sum := by
  have key : ∀ ns : List Nat, byS cb ns = lvS us cb ns + (ns.map (fun n => if us n = 0 then (cb n).length else 0)).sum := by
    intro ns
    unfold byS lvS
    induction ns with
    | nil => rfl
    | cons a l ih =>
      rw [List.map_cons, List.sum_cons, ih, List.map_cons, List.sum_cons, List.map_cons, List.sum_cons]
      unfold liveB
      by_cases e : us a = 0
      · rw [if_pos e, if_neg (by omega)]; omega
      · rw [if_neg e, if_pos (by omega)]; omega
  intro ns
  rw [key]
  omega
theorem BR.garbage (h : BR S R bx) (us : Nat → Nat) (cb : Nat → List Nat) : (S.1.map (fun k => byS cb (S.2.1 k) - lvS us cb (S.2.1 k))).sum = (R.map (fun n => if us n = 0 then (cb n).length else 0)).sum := by
  rw [← h.sum]
  congr 1
  exact List.map_congr_left (fun k _ => gb_one us cb _)
theorem filt_sm (p : Nat → Bool) : ∀ n, ((List.range n).filter p).length = sm (fun k => if p k = true then 1 else 0) n := by
  intro n
  induction n with
  | zero => rfl
  | succ n ih =>
    rw [List.range_succ, List.filter_append, List.length_append, ih]
    show _ = sm _ n + _
    congr 1
    show _ = if p n = true then 1 else 0
    rw [List.filter_cons]
    by_cases e : p n = true
    · rw [if_pos e, if_pos e]; rfl
    · rw [if_neg e, if_neg e]; rfl
theorem bIn_at {c n : Nat} (hn : n ∈ R) (e : bx n = c) : (cb n).length ≤ bIn R bx cb c := by
  unfold bIn
  induction R with
  | nil => exact nomatch hn
  | cons a l ih =>
    rw [List.map_cons, List.sum_cons]
    rcases List.mem_cons.mp hn with rfl | hn
    · rw [if_pos e]; omega
    · have := ih hn; omega
theorem bIn_iff {c : Nat} (h : ∀ n ∈ R, 1 ≤ (cb n).length) : 0 < bIn R bx cb c ↔ ∃ n ∈ R, bx n = c := by
  refine ⟨bIn_pos, fun ⟨n, hn, e⟩ => ?_⟩
  have h1 := h n hn
  have h2 := bIn_at (cb := cb) hn e
  omega
theorem BR.count (h : BR S R bx) (hl : ∀ n ∈ R, 1 ≤ (cb n).length) : S.1.length = 1 + sm (fun k => if 0 < bIn R bx cb k then 1 else 0) S.2.2 := by
  rw [h.1, filt_sm]
  show sm _ S.2.2 + (if decide (S.2.2 = S.2.2 ∨ _) = true then 1 else 0) = _
  rw [if_pos (decide_eq_true (Or.inl rfl)), Nat.add_comm]
  congr 1
  refine sm_congr (fun k hk => ?_)
  by_cases e : ∃ n ∈ R, bx n = k
  · rw [if_pos (decide_eq_true (Or.inr e)), if_pos ((bIn_iff hl).mpr e)]
  · rw [if_neg (fun q => (of_decide_eq_true q).elim (by omega) e), if_neg (fun q => e ((bIn_iff hl).mp q))]
/-- what is held against the bytes that came in -/
def pot (cb : Nat → List Nat) (R : List Nat) (bx : Nat → Nat) (op : Nat) : Nat := 97 * op + bIn R bx cb op + byS cb R
theorem bIn_put {n o c : Nat} (hn : n ∉ R) : bIn (R ++ [n]) (up1 bx n o) cb c = bIn R bx cb c + if o = c then (cb n).length else 0 := by
  rw [bIn_f, filt_up hn, bIn_f]
  unfold byS
  rw [List.map_append, List.sum_append]
  congr 1
  split <;> rfl
theorem bIn_no {c : Nat} (h : ∀ n ∈ R, bx n ≠ c) : bIn R bx cb c = 0 := by
  rw [bIn_f, filt_none h]
  rfl
theorem pot_put {n op : Nat} (hn : n ∉ R) (hb : ∀ x ∈ R, bx x ≤ op) (hl : (cb n).length ≤ 32) : pot cb (R ++ [n]) (up1 bx n (opR R bx cb op (cb n).length)) (opR R bx cb op (cb n).length) ≤ pot cb R bx op + 2 * (cb n).length := by
  unfold pot
  rw [bIn_put hn, if_pos rfl, byS_app]
  unfold opR
  by_cases e : bIn R bx cb op + (cb n).length ≤ 128
  · rw [if_pos e]; omega
  · rw [if_neg e, bIn_no (c := op + 1) (fun x hx => by have := hb x hx; omega)]
    omega
theorem cap_put {n op : Nat} (hn : n ∉ R) (hb : ∀ x ∈ R, bx x ≤ op) (hl : (cb n).length ≤ 32) (h : ∀ k, bIn R bx cb k ≤ 128) : ∀ k, bIn (R ++ [n]) (up1 bx n (opR R bx cb op (cb n).length)) cb k ≤ 128 := by
  intro k
  rw [bIn_put hn]
  by_cases e : opR R bx cb op (cb n).length = k
  · rw [if_pos e, ← e]
    unfold opR
    by_cases e2 : bIn R bx cb op + (cb n).length ≤ 128
    · rw [if_pos e2]; exact e2
    · rw [if_neg e2, bIn_no (c := op + 1) (fun x hx => by have := hb x hx; omega)]
      omega
  · rw [if_neg e]
    exact h k
end PU2
