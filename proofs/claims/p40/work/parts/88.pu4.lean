/-! collect: the containers one after another -/
section PU4
variable {cb : Nat → List Nat} {U us : Nat → Nat}
theorem rf_cut {P : Nat → Bool} {c : Nat} : ∀ n, c < n → P c = true → ((List.range n).filter P).getD ((List.range c).filter P).length 0 = c ∧ ((List.range c).filter P).length < ((List.range n).filter P).length := by
  intro n
  induction n with
  | zero => intro h; omega
  | succ n ih =>
    intro h hP
    rw [List.range_succ, List.filter_append]
    by_cases e : c = n
    · subst e
      have e1 : [c].filter P = [c] := by rw [List.filter_cons, if_pos hP]; rfl
      rw [e1]
      refine ⟨?_, ?_⟩
      · rw [List.getD_eq_getElem?_getD, List.getElem?_append_right (Nat.le_refl _), Nat.sub_self]
        rfl
      · rw [List.length_append]
        exact Nat.lt_succ_self _
    · obtain ⟨h1, h2⟩ := ih (by omega) hP
      refine ⟨?_, ?_⟩
      · rw [List.getD_eq_getElem?_getD, List.getElem?_append_left h2, ← List.getD_eq_getElem?_getD]
        exact h1
      · rw [List.length_append]
        omega
theorem rf_succ (P : Nat → Bool) (c : Nat) : ((List.range (c + 1)).filter P).length = ((List.range c).filter P).length + if P c = true then 1 else 0 := by
  rw [filt_sm, filt_sm]
  rfl
/-- the class at its list's place, the reference at the number c -/
def CI (cb : Nat → List Nat) (U us : Nat → Nat) (bl0 rw0 : List Nat) (op0 G0 c : Nat) (C : CS) (D : RC) : Prop :=
  BR (C.1, C.2.1, C.2.2.1) D.1 D.2.1 ∧ D.2.2.1 = C.2.2.1 ∧ D.2.2.2.1 = C.2.2.2.1 ∧ D.2.2.2.2 = C.2.2.2.2.2 ∧ op0 ≤ C.2.2.1 ∧ C.2.2.2.2.1 = ((List.range c).filter (fun k => decide (k ∈ C.1))).length ∧ (∀ k, c ≤ k → k < op0 → (k ∈ C.1 ↔ k ∈ bl0)) ∧ D.1.Nodup ∧ (∀ n ∈ D.1, n ∈ rw0 ∧ 1 ≤ (cb n).length ∧ (cb n).length ≤ 32 ∧ us n = U n) ∧ pot cb D.1 D.2.1 D.2.2.1 ≤ G0 ∧ (∀ k, bIn D.1 D.2.1 cb k ≤ 128) ∧ byS cb D.1 + D.2.2.2.2 = byS cb rw0 ∧ (∀ k ∈ C.2.2.2.1, k ∈ C.1) ∧ ∀ n ∈ rw0, 0 < U n → n ∈ D.1
theorem usd_is {S : BX} {R : List Nat} {bx : Nat → Nat} {c : Nat} (h : BR S R bx) (hc : c ∈ S.1) (hu : ∀ n ∈ R, us n = U n) : usd us (S.2.1 c) = mvd U bx c R := by
  unfold usd mvd
  rw [h.2.1 c hc]
  exact List.filter_congr (fun x hx => by rw [hu x (List.mem_filter.mp hx).1])
theorem lv_is {S : BX} {R : List Nat} {bx : Nat → Nat} {c : Nat} (h : BR S R bx) (hc : c ∈ S.1) (hu : ∀ n ∈ R, us n = U n) : lvS us cb (S.2.1 c) = lvR R bx cb U c := by
  rw [h.2.1 c hc]
  clear h hc
  unfold lvS lvR
  induction R with
  | nil => rfl
  | cons a l ih =>
    rw [List.map_cons, List.sum_cons, ← ih (fun n hn => hu n (List.mem_cons_of_mem _ hn)), List.filter_cons]
    by_cases e : bx a = c
    · rw [if_pos (decide_eq_true e), List.map_cons, List.sum_cons]
      congr 1
      unfold liveB
      rw [hu a (List.mem_cons_self ..)]
      by_cases e2 : 0 < U a
      · rw [if_pos e2, if_pos ⟨e, e2⟩]
      · rw [if_neg e2, if_neg (fun q => e2 q.2)]
    · rw [if_neg (fun q => e (of_decide_eq_true q)), if_neg (fun q => e q.1), Nat.zero_add]
theorem by_is {S : BX} {R : List Nat} {bx : Nat → Nat} {c : Nat} (h : BR S R bx) (hc : c ∈ S.1) : byS cb (S.2.1 c) = bIn R bx cb c := by
  rw [bIn_f, h.2.1 c hc]
theorem lvR_mvd (R : List Nat) (bx : Nat → Nat) (c : Nat) : lvR R bx cb U c = byS cb (mvd U bx c R) := by
  unfold lvR byS
  induction R with
  | nil => rfl
  | cons a l ih =>
    rw [List.map_cons, List.sum_cons, ih]
    by_cases e : bx a = c
    · by_cases e2 : 0 < U a
      · rw [mvd_y e e2, if_pos ⟨e, e2⟩, List.map_cons, List.sum_cons]
      · rw [mvd_u e e2, if_neg (fun q => e2 q.2), Nat.zero_add]
    · rw [mvd_n e, if_neg (fun q => e q.1), Nat.zero_add]
theorem byS_split (R : List Nat) (bx : Nat → Nat) (c : Nat) : byS cb R = byS cb (R.filter (fun n => decide (bx n ≠ c))) + bIn R bx cb c := by
  unfold byS bIn
  induction R with
  | nil => rfl
  | cons a l ih =>
    rw [List.map_cons, List.sum_cons, ih, List.map_cons, List.sum_cons, List.filter_cons]
    by_cases e : bx a = c
    · rw [if_neg (fun q => absurd e (of_decide_eq_true q)), if_pos e]
      omega
    · rw [if_pos (decide_eq_true e), if_neg e, List.map_cons, List.sum_cons]
      omega
theorem byS_app2 (A B : List Nat) : byS cb (A ++ B) = byS cb A + byS cb B := by
  unfold byS
  rw [List.map_append, List.sum_append]
/-- the class's step keeps its own numbers; what it wants -/
theorem CI.ok {bl0 rw0 : List Nat} {op0 G0 c : Nat} {C : CS} {D : RC} (h : CI cb U us bl0 rw0 op0 G0 c C D) (hc : c < op0) (hb : c ∈ bl0) (hG : G0 ≤ 122880) (hall : byS cb rw0 < 1000000) : C.1.getD C.2.2.2.2.1 0 = c ∧ C.2.2.2.2.1 < C.1.length ∧ cOK cb us C ∧ CI cb U us bl0 rw0 op0 G0 (c + 1) (cS cb us C) (cR cb U D c) := by
  obtain ⟨h1, h2, h3, h4, h5, h6, h7, h8, h9, h10, hcap, h11, h12, h13⟩ := h
  obtain ⟨bl, co, op, cs, p, f⟩ := C
  obtain ⟨rw, bx, op', cs', g⟩ := D
  dsimp only at h1 h2 h3 h4 h5 h6 h7 h8 h9 h10 hcap h11 h12 h13
  subst h2 h3 h4
  have hcb : c ∈ bl := (h7 c (Nat.le_refl _) hc).mpr hb
  have hcR : (fun k => decide (k ∈ bl)) c = true := decide_eq_true hcb
  have hblf : bl = (List.range (op' + 1)).filter (fun k => decide (k ∈ bl)) := by
    have e := h1.1
    dsimp only at e
    rw [e]
    refine List.filter_congr (fun k hk => ?_)
    rw [← e]
    exact decide_eq_decide.mpr h1.mem.symm
  have hcut := rf_cut (P := fun k => decide (k ∈ bl)) (c := c) (op' + 1) (by omega) hcR
  rw [← hblf, ← h6] at hcut
  obtain ⟨hg1, hg2⟩ := hcut
  have hu : ∀ n ∈ rw, us n = U n := fun n hn => (h9 n hn).2.2.2
  have e1 := lv_is (cb := cb) h1 hcb hu
  have e2 := by_is (cb := cb) h1 hcb
  have e3 := usd_is h1 hcb hu
  dsimp only at e1 e2 e3
  have hcne : c ≠ op' := by omega
  have hnd := h1.nd
  dsimp only at hnd
  have hdel := h1.del (p := p) hg2 (by rw [hg1]; exact hcne)
  dsimp only at hdel
  rw [hg1] at hdel
  have hle := fun k (hk : k ∈ cs') => h1.le (h12 k hk)
  dsimp only at hle
  -- the pieces that move, one after another
  have hmv : ∀ ms : List Nat, ms.Nodup → (∀ n ∈ ms, n ∈ rw ∧ bx n = c) → ∃ R2 bx2, BR (pSs cb (bl.eraseIdx p, co, op') ms) R2 bx2 ∧ (∀ n ∈ R2, n ∈ rw) ∧ pot cb R2 bx2 (pSs cb (bl.eraseIdx p, co, op') ms).2.2 ≤ pot cb (rw.filter (fun n => decide (bx n ≠ c))) bx op' + 2 * byS cb ms ∧ ∀ n ∈ R2, bx n ≠ c ∨ n ∈ ms := by
    have key : ∀ (ms : List Nat) (S : BX) (R2 : List Nat) (bx2 : Nat → Nat), BR S R2 bx2 → (∀ n ∈ R2, n ∈ rw) → ms.Nodup → (∀ n ∈ ms, n ∈ rw ∧ n ∉ R2) → ∃ R3 bx3, BR (pSs cb S ms) R3 bx3 ∧ (∀ n ∈ R3, n ∈ rw) ∧ pot cb R3 bx3 (pSs cb S ms).2.2 ≤ pot cb R2 bx2 S.2.2 + 2 * byS cb ms ∧ ∀ n ∈ R3, n ∈ R2 ∨ n ∈ ms := by
      intro ms
      induction ms with
      | nil => intro S R2 bx2 a1 a2 _ _; exact ⟨R2, bx2, a1, a2, Nat.le_add_right _ _, fun n hn => Or.inl hn⟩
      | cons x ms ih =>
        intro S R2 bx2 a1 a2 a3 a4
        obtain ⟨b1, b2⟩ := List.nodup_cons.mp a3
        obtain ⟨b3, b4⟩ := a4 x (List.mem_cons_self ..)
        have hl := (h9 x b3).2.2.1
        obtain ⟨p1, p2⟩ := a1.put (cb := cb) b4 (by omega)
        have p3 := pot_put (cb := cb) b4 a1.2.2 hl
        obtain ⟨R3, bx3, c1, c2, c3, c4⟩ := ih (pS cb S x) (R2 ++ [x]) _ p1 (fun n hn => by
          rcases List.mem_append.mp hn with hn | hn
          · exact a2 n hn
          · rw [List.mem_singleton.mp hn]; exact b3) b2 (fun n hn => ⟨(a4 n (List.mem_cons_of_mem _ hn)).1, fun q => by
          rcases List.mem_append.mp q with q | q
          · exact (a4 n (List.mem_cons_of_mem _ hn)).2 q
          · rw [List.mem_singleton.mp q] at hn; exact b1 hn⟩)
        rw [p2] at c3
        refine ⟨R3, bx3, c1, c2, ?_, fun n hn => ?_⟩
        · have eb : byS cb (x :: ms) = (cb x).length + byS cb ms := rfl
          have c3' : pot cb R3 bx3 (pSs cb S (x :: ms)).2.2 ≤ _ := c3
          omega
        · rcases c4 n hn with q | q
          · rcases List.mem_append.mp q with q | q
            · exact Or.inl q
            · rw [List.mem_singleton.mp q]; exact Or.inr (List.mem_cons_self ..)
          · exact Or.inr (List.mem_cons_of_mem _ q)
    intro ms a1 a2
    obtain ⟨R3, bx3, c1, c2, c3, c4⟩ := key ms _ _ bx hdel (fun n hn => (List.mem_filter.mp hn).1) a1 (fun n hn => ⟨(a2 n hn).1, fun q => absurd (a2 n hn).2 (of_decide_eq_true (List.mem_filter.mp q).2)⟩)
    refine ⟨R3, bx3, c1, c2, c3, fun n hn => ?_⟩
    rcases c4 n hn with q | q
    · exact Or.inl (of_decide_eq_true (List.mem_filter.mp q).2)
    · exact Or.inr q
  have hms : (mvd U bx c rw).Nodup ∧ ∀ n ∈ mvd U bx c rw, n ∈ rw ∧ bx n = c := ⟨(h8.filter _).filter _, fun n hn => ⟨(mem_mvd.mp hn).1, (mem_mvd.mp hn).2.1⟩⟩
  have hLB := lvR_le (rw := rw) (bx := bx) (cb := cb) U c
  have hL := lvR_mvd (cb := cb) (U := U) rw bx c
  have hB := hcap c
  have hsp := byS_split (cb := cb) rw bx c
  have hbo : bIn (rw.filter (fun n => decide (bx n ≠ c))) bx cb op' = bIn rw bx cb op' := by
    have := bIn_skip (cb := cb) (A := []) (B := rw) (C := []) (bx := bx) (c := c) (k := op') (by omega)
    rw [List.nil_append, List.nil_append, List.append_nil, List.append_nil] at this
    exact this.symm
  have hpd : pot cb (rw.filter (fun n => decide (bx n ≠ c))) bx op' + bIn rw bx cb c = pot cb rw bx op' := by
    unfold pot
    rw [hbo]
    omega
  have hok : cOK cb us (bl, co, op', cs', p, g) := by
    refine ⟨hnd, hg2, by dsimp only; rw [hg1]; exact hcne, hle, ?_, fun n hn => ?_, ?_, fun m hm => ?_⟩
    · dsimp only
      have h2c := h1.2.1 c hcb
      dsimp only at h2c
      rw [hg1, h2c]
      exact h8.filter _
    · dsimp only at hn
      rw [hg1] at hn
      have := h9 n ((h1.co hcb).mp hn).1
      omega
    · dsimp only
      omega
    · dsimp only at hm ⊢
      rw [hg1, e3] at hm ⊢
      obtain ⟨R2, bx2, c1, c2, c3, c4⟩ := hmv ((mvd U bx c rw).take m) (hms.1.sublist (List.take_sublist _ _)) (fun n hn => hms.2 n (List.mem_of_mem_take hn))
      have htk : byS cb ((mvd U bx c rw).take m) ≤ byS cb (mvd U bx c rw) := by
        have := byS_app2 (cb := cb) ((mvd U bx c rw).take m) ((mvd U bx c rw).drop m)
        rw [List.take_append_drop] at this
        omega
      have hlen := c1.len
      have hpo : 97 * (pSs cb (bl.eraseIdx p, co, op') ((mvd U bx c rw).take m)).2.2 ≤ pot cb R2 bx2 (pSs cb (bl.eraseIdx p, co, op') ((mvd U bx c rw).take m)).2.2 := by
        unfold pot
        omega
      refine ⟨by omega, by omega, ?_⟩
      have hl1 : ∀ l : List Nat, (∀ n ∈ l, 1 ≤ (cb n).length) → l.length ≤ byS cb l := by
        intro l
        unfold byS
        induction l with
        | nil => intro _; exact Nat.le_refl _
        | cons a l ih =>
          intro q
          have q1 := q a (List.mem_cons_self ..)
          have q2 := ih (fun n hn => q n (List.mem_cons_of_mem _ hn))
          rw [List.length_cons, List.map_cons, List.sum_cons]
          omega
      refine hl1 _ (fun n hn => ?_)
      have hn2 := ((c1.co c1.o).mp hn).1
      exact (h9 n (c2 n hn2)).2.1
  refine ⟨hg1, hg2, hok, ?_⟩
  have hPs := rf_succ (fun k => decide (k ∈ bl)) c
  by_cases e : 2 * lvR rw bx cb U c < bIn rw bx cb c
  · have eC : cS cb us (bl, co, op', cs', p, g) = ((pSs cb (bl.eraseIdx p, co, op') (mvd U bx c rw)).1, (pSs cb (bl.eraseIdx p, co, op') (mvd U bx c rw)).2.1, (pSs cb (bl.eraseIdx p, co, op') (mvd U bx c rw)).2.2, cs'.filter (fun k => decide (k ≠ c)), p, g + (bIn rw bx cb c - lvR rw bx cb U c)) := by
      unfold cS
      dsimp only
      rw [hg1, e1, e2, e3, if_pos e]
    have eD : cR cb U (rw, bx, op', cs', g) c = ((mvL cb U c rw [] [] bx op').1, (mvL cb U c rw [] [] bx op').2.1, (mvL cb U c rw [] [] bx op').2.2, cs'.filter (fun k => decide (k ≠ c)), g + (bIn rw bx cb c - lvR rw bx cb U c)) := by
      unfold cR
      dsimp only
      rw [if_pos e]
    rw [eC, eD]
    have M := mvL_is (cb := cb) (U := U) (c := c) rw [] [] bx (bl.eraseIdx p, co, op') (by rw [List.nil_append, List.append_nil]; exact h8) (fun n hn => (h9 n hn).2.2.1) (by dsimp only; omega) (by rw [List.nil_append, List.append_nil]; exact hdel)
    dsimp only at M
    rw [List.nil_append, List.append_nil] at M
    obtain ⟨M1, M2, M3, M4, M5, M6, M7⟩ := M
    have hmono := fun k (hk : k ∈ bl.eraseIdx p) => pSs_mono (cb := cb) (mvd U bx c rw) (bl.eraseIdx p, co, op') hk
    have hgeo : op' ≤ (pSs cb (bl.eraseIdx p, co, op') (mvd U bx c rw)).2.2 := by
      have hoin : op' ∈ bl.eraseIdx p := mem_era h1.o hg2 (by rw [hg1]; exact hcne)
      exact (hmono op' hoin).2
    have hfm : ∀ x, x ∈ rw.filter (fun n => decide (bx n ≠ c)) ↔ x ∈ rw ∧ bx x ≠ c := fun x => by rw [List.mem_filter, decide_eq_true_eq]
    have hR' : ∀ n, n ∈ (mvL cb U c rw [] [] bx op').1 ↔ n ∈ rw ∧ (bx n ≠ c ∨ 0 < U n) := fun n => by
      rw [M1, List.mem_append, hfm, mem_mvd]
      constructor
      · rintro (⟨q1, q2⟩ | ⟨q1, q2, q3⟩)
        · exact ⟨q1, Or.inl q2⟩
        · exact ⟨q1, Or.inr q3⟩
      · rintro ⟨q1, q2⟩
        by_cases e5 : bx n = c
        · exact Or.inr ⟨q1, e5, q2.resolve_left (fun q => q e5)⟩
        · exact Or.inl ⟨q1, e5⟩
    -- who is a container then, below the open one of the beginning
    have hbl' : ∀ k, k < op' → (k ∈ (pSs cb (bl.eraseIdx p, co, op') (mvd U bx c rw)).1 ↔ k ∈ bl ∧ k ≠ c) := by
      intro k hk
      rw [M3.mem, h1.mem]
      dsimp only
      constructor
      · rintro (q | ⟨n, hn, q⟩)
        · omega
        · have hn2 := (hR' n).mp hn
          by_cases e5 : n ∈ mvd U bx c rw
          · have := M5 n e5
            omega
          · rw [M4 n e5] at q
            refine ⟨Or.inr ⟨n, hn2.1, q⟩, fun q2 => e5 (mem_mvd.mpr ⟨hn2.1, by rw [q, q2], ?_⟩)⟩
            exact hn2.2.resolve_left (fun q3 => q3 (by rw [q, q2]))
      · rintro ⟨q | ⟨n, hn, q⟩, q2⟩
        · omega
        · refine Or.inr ⟨n, (hR' n).mpr ⟨hn, Or.inl (by rw [q]; exact q2)⟩, ?_⟩
          rw [M4 n (fun q3 => q2 (by rw [← q]; exact (mem_mvd.mp q3).2.1)), q]
    refine ⟨M3, M2, rfl, rfl, by dsimp only; omega, ?_, fun k hk1 hk2 => ?_, ?_, fun n hn => h9 n ((hR' n).mp hn).1, ?_, ?_, ?_, fun k hk => ?_, fun n hn hun => (hR' n).mpr ⟨h13 n hn hun, Or.inr hun⟩⟩
    · dsimp only
      rw [rf_succ, if_neg (fun q => ((hbl' c (by omega)).mp (of_decide_eq_true q)).2 rfl), Nat.add_zero]
      refine h6.trans ?_
      congr 1
      refine List.filter_congr (fun k hk => ?_)
      have hk2 := List.mem_range.mp hk
      exact decide_eq_decide.mpr ⟨fun q => (hbl' k (by omega)).mpr ⟨q, by omega⟩, fun q => ((hbl' k (by omega)).mp q).1⟩
    · dsimp only
      rw [hbl' k (by omega), h7 k (by omega) hk2]
      exact ⟨fun q => q.1, fun q => ⟨q, by omega⟩⟩
    · dsimp only
      rw [M1]
      refine List.nodup_append.mpr ⟨h8.filter _, hms.1, fun a ha b hb q => ?_⟩
      subst q
      exact ((hfm a).mp ha).2 (mem_mvd.mp hb).2.1
    · dsimp only
      omega
    · exact M7 (fun k => by
        have := hcap k
        by_cases e5 : k = c
        · subst e5
          rw [bIn_no (fun n hn => ((hfm n).mp hn).2)]
          omega
        · have h9 := bIn_skip (cb := cb) (A := []) (B := rw) (C := []) (bx := bx) (c := c) (k := k) e5
          rw [List.nil_append, List.nil_append, List.append_nil, List.append_nil] at h9
          rw [← h9]
          exact this)
    · dsimp only
      rw [M1, byS_app2]
      omega
    · dsimp only at hk ⊢
      obtain ⟨hk1, hk2⟩ := List.mem_filter.mp hk
      have hk3 := of_decide_eq_true hk2
      exact (hmono k (mem_era (h12 k hk1) hg2 (by rw [hg1]; exact fun q => hk3 q.symm))).1
  · have eC : cS cb us (bl, co, op', cs', p, g) = (bl, co, op', cs', p + 1, g) := by
      unfold cS
      dsimp only
      rw [hg1, e1, e2, if_neg e]
    have eD : cR cb U (rw, bx, op', cs', g) c = (rw, bx, op', cs', g) := by
      unfold cR
      dsimp only
      rw [if_neg e]
    rw [eC, eD]
    refine ⟨h1, rfl, rfl, rfl, h5, ?_, fun k hk1 hk2 => h7 k (by omega) hk2, h8, h9, h10, hcap, h11, h12, h13⟩
    dsimp only
    rw [hPs, if_pos hcR, h6]
end PU4
