/-! the kept versions: saved, forgotten; answers of both sides -/
section PU9
variable {kl : List Nat} {vf vn : Nat → Nat} {vb ve : Nat → List Nat} {vp : Nat → Option Nat} {nx : Nat → Nat} {cb : Nat → List Nat} {rw : List Nat} {co : Nat → List Nat} {bl : List Nat} {op : Nat} {bx : Nat → Nat}
theorem uO_sum (h1 : kl.Nodup) (h2 : ∀ k ∈ kl, k < 20) (n : Nat) : uO kl ve n = (kl.map (fun a => cntS (ve a) n)).sum := sm_in (fun a => cntS (ve a) n) kl h1 h2
theorem uO_pos {k n : Nat} (h1 : kl.Nodup) (h2 : ∀ k ∈ kl, k < 20) (hk : k ∈ kl) (hn : n ∈ ve k) : 0 < uO kl ve n := by
  rw [uO_sum h1 h2]
  have hc : 0 < cntS (ve k) n := by
    unfold cntS
    generalize ve k = es at hn
    induction es with
    | nil => exact absurd hn List.not_mem_nil
    | cons a l ih =>
      rw [List.map_cons, List.sum_cons]
      rcases List.mem_cons.mp hn with q | q
      · rw [if_pos q.symm]; omega
      · have := ih q; omega
  clear h1 h2
  induction kl with
  | nil => exact absurd hk List.not_mem_nil
  | cons a l ih =>
    rw [List.map_cons, List.sum_cons]
    rcases List.mem_cons.mp hk with q | q
    · rw [← q]; omega
    · have := ih q; omega
theorem uO_zero {n : Nat} (h1 : kl.Nodup) (h2 : ∀ k ∈ kl, k < 20) (h : ∀ k ∈ kl, n ∉ ve k) : uO kl ve n = 0 := by
  rw [uO_sum h1 h2]
  have : kl.map (fun a => cntS (ve a) n) = kl.map (fun _ => 0) := List.map_congr_left (fun k hk => cntS_no (h k hk))
  rw [this, sum_zero]
theorem uO_le {n : Nat} (h1 : kl.Nodup) (h2 : ∀ k ∈ kl, k < 20) (h : ∀ k ∈ kl, (ve k).length ≤ 30) : uO kl ve n ≤ 600 := by
  have hb : uO kl ve n ≤ 30 * 20 := sm_le (fun i _ => by
    split
    · rename_i q
      exact Nat.le_trans (cntS_len _ _) (h i q)
    · exact Nat.zero_le _)
  exact hb
theorem uO_save {z n : Nat} {es : List Nat} (h1 : kl.Nodup) (h2 : ∀ k ∈ kl, k < 20) (hz : z ∉ kl) (hz2 : z < 20) : uO (kl ++ [z]) (up1 ve z es) n = uO kl ve n + cntS es n := by
  have hn : (kl ++ [z]).Nodup := List.nodup_append.mpr ⟨h1, (by simp), fun a ha b hb q => hz (by rw [← List.mem_singleton.mp hb, ← q]; exact ha)⟩
  have hl : ∀ k ∈ kl ++ [z], k < 20 := fun k hk => by
    rcases List.mem_append.mp hk with q | q
    · exact h2 k q
    · rw [List.mem_singleton.mp q]; exact hz2
  rw [uO_sum hn hl, uO_sum h1 h2, List.map_append, List.sum_append]
  congr 1
  · congr 1
    exact List.map_congr_left (fun k hk => by rw [upn hk hz])
  · show cntS (up1 ve z es z) n + 0 = _
    rw [up1_e, if_pos rfl, Nat.add_zero]
theorem cnt_eq (es : List Nat) (n : Nat) : cntS es n = es.count n := by
  unfold cntS
  induction es with
  | nil => rfl
  | cons a l ih =>
    rw [List.map_cons, List.sum_cons, ih, List.count_cons]
    by_cases e : a = n
    · rw [if_pos e, if_pos (by rw [e]; exact beq_self_eq_true n)]; omega
    · rw [if_neg e, if_neg (fun q => e (eq_of_beq q))]; omega
theorem sum_filt {g : Nat} (f : Nat → Nat) : ∀ kl : List Nat, kl.Nodup → g ∈ kl → (kl.map f).sum = ((kl.filter (fun k => decide (k ≠ g))).map f).sum + f g := by
  intro kl
  induction kl with
  | nil => intro _ h; exact absurd h List.not_mem_nil
  | cons a l ih =>
    intro h1 h2
    obtain ⟨n1, n2⟩ := List.nodup_cons.mp h1
    rw [List.map_cons, List.sum_cons, List.filter_cons]
    by_cases e : a = g
    · rw [if_neg (fun q => absurd e (of_decide_eq_true q))]
      have : l.filter (fun k => decide (k ≠ g)) = l := List.filter_eq_self.mpr (fun y hy => decide_eq_true (fun q => n1 (by rw [e, ← q]; exact hy)))
      rw [this, e]
      omega
    · rw [if_pos (decide_eq_true e), List.map_cons, List.sum_cons, ih n2 ((List.mem_cons.mp h2).resolve_left (fun q => e q.symm))]
      omega
theorem uO_forget {g n : Nat} (h1 : kl.Nodup) (h2 : ∀ k ∈ kl, k < 20) (hg : g ∈ kl) : uO (kl.filter (fun k => decide (k ≠ g))) ve n = uO kl ve n - (ve g).count n ∧ (ve g).count n ≤ uO kl ve n := by
  have e := sum_filt (fun a => cntS (ve a) n) kl h1 hg
  rw [uO_sum h1 h2, uO_sum (h1.filter _) (fun k hk => h2 k (List.mem_filter.mp hk).1), e, ← cnt_eq]
  omega
theorem chE_up {vp' : Nat → Option Nat} (hc : ∀ k ∈ kl, ∀ j, vp k = some j → j ∈ kl) (he : ∀ k ∈ kl, vp' k = vp k) : ∀ f o, (∀ k, o = some k → k ∈ kl) → chE vp f o → chE vp' f o := by
  intro f
  induction f with
  | zero => intro o _ h; cases o with
    | none => trivial
    | some k => exact h.elim
  | succ f ih => intro o ho h; cases o with
    | none => trivial
    | some k =>
      show chE vp' f (vp' k)
      rw [he k (ho k rfl)]
      exact ih (vp k) (fun j hj => hc k (ho k rfl) j hj) h
theorem chE_lt : ∀ f o, chE vp (f + 1) o → chO vp (f + 1) o < f + 1 → chE vp f o := by
  intro f
  induction f with
  | zero => intro o _ h; cases o with
    | none => trivial
    | some k => exact absurd h (by show ¬ (1 + 0 < 0 + 1); omega)
  | succ f ih => intro o h1 h2; cases o with
    | none => trivial
    | some k =>
      have h3 : 1 + chO vp (f + 1) (vp k) < f + 1 + 1 := h2
      exact ih (vp k) h1 (by omega)
theorem chE_cut {g : Nat} : ∀ f o, chE vp f o → chE (fun k => if vp k = some g then none else vp k) f (if o = some g then none else o) := by
  intro f
  induction f with
  | zero => intro o h; cases o with
    | none => rw [if_neg (by intro q; cases q)]; trivial
    | some k => exact h.elim
  | succ f ih => intro o h; cases o with
    | none => rw [if_neg (by intro q; cases q)]; trivial
    | some k =>
      by_cases e : some k = some g
      · rw [if_pos e]; trivial
      · rw [if_neg e]
        exact ih (vp k) h
theorem KI.b6 (h : KI kl vf vn vb ve vp nx cb rw) : ∀ k ∈ kl, vf k < 6 ∧ vn k < 1000000 := fun k hk => ⟨(h.2.2.2.1 k hk).1, (h.2.2.2.1 k hk).2.2⟩
theorem KI.fvpl (h : KI kl vf vn vb ve vp nx cb rw) (f v : Int32) : pl kl vf vn f v = fv kl vf vn f v := fv_pl h.2.2.1 h.2.1 h.b6 f v
theorem KI.len (h : KI kl vf vn vb ve vp nx cb rw) : sm (fun k => if k ∈ kl then 1 else 0) 20 = kl.length := by
  rw [sm_in (fun _ => 1) kl h.1 h.2.1, sum_len]
theorem KI.saved (h : KI kl vf vn vb ve vp nx cb rw) : sm (fun k => if k ∈ kl then (vb k).length else 0) 20 = (kl.map (fun k => (vb k).length)).sum := sm_in (fun k => (vb k).length) kl h.1 h.2.1
theorem KI.late (h : KI kl vf vn vb ve vp nx cb rw) (f : Int32) : iO (latN kl vf vn f 20) = numO vn (lk kl vf f) := by
  rw [lk_lat h.2.2.1 h.2.1 h.b6]
  cases lk kl vf f with
  | none => rfl
  | some k => rfl
/-- a version is saved -/
theorem KI.save {z j : Nat} {es dr : List Nat} {cb' : Nat → List Nat} {rw' : List Nat} (h : KI kl vf vn vb ve vp nx cb rw) (hz : z ∉ kl) (hz2 : z < 20) (hj : j < 6) (hn : nx j + 1 < 1000000) (hr : ∀ n ∈ rw, n ∈ rw' ∧ cb' n = cb n) (he : (∀ n ∈ es, n ∈ rw') ∧ byS cb' es = dr.length ∧ es.length ≤ 30) : KI (kl ++ [z]) (up1 vf z j) (up1 vn z (nx j)) (up1 vb z dr) (up1 ve z es) (up1 vp z (newB kl vf ve vp j es)) (up1 nx j (nx j + 1)) cb' rw' := by
  obtain ⟨h1, h2, h3, h4, h5, h6, h7⟩ := h
  have hin : ∀ k ∈ kl ++ [z], k ∈ kl ∨ k = z := fun k hk => by
    rcases List.mem_append.mp hk with q | q
    · exact Or.inl q
    · exact Or.inr (List.mem_singleton.mp q)
  have hnb : ∀ k, newB kl vf ve vp j es = some k → k ∈ kl ∧ vf k = j ∧ chO vp 3 (vp k) < 3 := fun k e => by
    unfold newB at e
    cases e2 : lk kl vf (nI j) with
    | none => rw [e2] at e; cases e
    | some x =>
      rw [e2] at e
      dsimp only at e
      split at e
      · rename_i q
        cases e
        obtain ⟨a1, a2⟩ := lk_mem e2
        exact ⟨a1, ff_inj (by have := h4 k a1; omega) (by omega) a2, q.1⟩
      · cases e
  have hup : ∀ f o, (∀ k, o = some k → k ∈ kl) → chE vp f o → chE (up1 vp z (newB kl vf ve vp j es)) f o := chE_up (fun k hk j hj => (h5 k hk j hj).1) (fun k hk => upn hk hz)
  refine ⟨List.nodup_append.mpr ⟨h1, (by simp), fun a ha b hb q => hz (by rw [← List.mem_singleton.mp hb, ← q]; exact ha)⟩, fun k hk => ?_, ?_, fun k hk => ?_, fun k hk i hi => ?_, fun k hk => ?_, fun k hk => ?_⟩
  · rcases hin k hk with q | q
    · exact h2 k q
    · rw [q]; exact hz2
  · refine List.pairwise_append.mpr ⟨?_, List.pairwise_singleton _ _, fun a ha b hb q => ?_⟩
    · refine h3.imp_of_mem (fun {a b} ha hb q e => ?_)
      rw [upn ha hz, upn hb hz] at e ⊢
      exact q e
    · rw [List.mem_singleton.mp hb] at q ⊢
      rw [upn ha hz, up1_e, if_pos rfl] at q ⊢
      have := (h4 a ha).2.1
      rw [q] at this
      exact this
  · rcases hin k hk with q | q
    · obtain ⟨a1, a2, a3⟩ := h4 k q
      rw [upn q hz, upn q hz, up1_e]
      refine ⟨a1, ?_, a3⟩
      split
      · rename_i e; rw [e] at a2; omega
      · exact a2
    · rw [q, up1_e, up1_e, if_pos rfl, if_pos rfl, up1_e, if_pos rfl]
      exact ⟨hj, by omega, by omega⟩
  · rcases hin k hk with q | q
    · rw [upn q hz] at hi
      obtain ⟨a1, a2⟩ := h5 k q i hi
      refine ⟨List.mem_append.mpr (Or.inl a1), ?_⟩
      rw [upn a1 hz, upn q hz, a2]
    · rw [q, up1_e, if_pos rfl] at hi
      obtain ⟨a1, a2, -⟩ := hnb i hi
      refine ⟨List.mem_append.mpr (Or.inl a1), ?_⟩
      rw [upn a1 hz, q, up1_e, if_pos rfl, a2]
  · rcases hin k hk with q | q
    · rw [upn q hz]
      exact hup 3 (vp k) (fun i hi => (h5 k q i hi).1) (h6 k q)
    · rw [q]
      have e0 : up1 vp z (newB kl vf ve vp j es) z = newB kl vf ve vp j es := by rw [up1_e, if_pos rfl]
      rw [e0]
      cases e : newB kl vf ve vp j es with
      | none => trivial
      | some x =>
        obtain ⟨a1, a2, a3⟩ := hnb x e
        rw [← e]
        refine hup 3 _ (fun i hi => (hnb i hi).1) ?_
        rw [e]
        exact chE_lt 2 (vp x) (h6 x a1) a3
  · rcases hin k hk with q | q
    · obtain ⟨a1, a2, a3⟩ := h7 k q
      rw [upn q hz, upn q hz]
      refine ⟨fun n hn => (hr n (a1 n hn)).1, ?_, a3⟩
      rw [← a2]
      unfold byS
      congr 1
      exact List.map_congr_left (fun x hx => by rw [(hr x (a1 x hx)).2])
    · rw [q, up1_e, if_pos rfl, up1_e, if_pos rfl]
      exact he
/-- what the reference's save wants of the versions; the base, both sides -/
theorem KI.base {z j : Nat} {es dr : List Nat} {cb' : Nat → List Nat} {rw' : List Nat} (h : KI kl vf vn vb ve vp nx cb rw) (h' : KI (kl ++ [z]) (up1 vf z j) (up1 vn z (nx j)) (up1 vb z dr) (up1 ve z es) (up1 vp z (newB kl vf ve vp j es)) (up1 nx j (nx j + 1)) cb' rw') (hz : z ∉ kl) (hj : j < 6) : (∀ k ∈ kl, ∀ i, vp k = some i → i ∈ kl ∧ pl (kl ++ [z]) (up1 vf z j) (up1 vn z (nx j)) (nI (up1 vf z j k)) (nI (up1 vn z (nx j) i)) = some i) ∧ (∀ x, latN kl vf vn (nI j) 20 = some x → ∃ o ∈ kl, pl (kl ++ [z]) (up1 vf z j) (up1 vn z (nx j)) (nI j) (nI x) = some o) ∧ newM kl vf vn ve vp z j (nx j) es = newB kl vf ve vp j es := by
  have hpl : ∀ i ∈ kl, pl (kl ++ [z]) (up1 vf z j) (up1 vn z (nx j)) (nI (vf i)) (nI (vn i)) = some i := fun i hi => by
    have := pl_at h'.2.2.1 h'.2.1 h'.b6 (k := i) (List.mem_append.mpr (Or.inl hi))
    rw [upn hi hz, upn hi hz] at this
    exact this
  have hL := lk_lat h.2.2.1 h.2.1 h.b6 (nI j)
  have hlk : ∀ k, lk kl vf (nI j) = some k → k ∈ kl ∧ vf k = j := fun k e => by
    obtain ⟨a1, a2⟩ := lk_mem e
    exact ⟨a1, ff_inj (by have := h.b6 k a1; omega) (by omega) a2⟩
  refine ⟨fun k hk i hi => ?_, fun x hx => ?_, ?_⟩
  · obtain ⟨a1, a2⟩ := h.2.2.2.2.1 k hk i hi
    refine ⟨a1, ?_⟩
    rw [upn hk hz, upn a1 hz, ← a2]
    exact hpl i a1
  · rw [hL] at hx
    cases e : lk kl vf (nI j) with
    | none => rw [e] at hx; cases hx
    | some k =>
      rw [e] at hx
      cases hx
      obtain ⟨a1, a2⟩ := hlk k e
      refine ⟨k, a1, ?_⟩
      rw [← a2]
      have := hpl k a1
      rw [a2] at this ⊢
      exact this
  · unfold newM newB
    rw [hL]
    cases e : lk kl vf (nI j) with
    | none => rfl
    | some k =>
      obtain ⟨a1, a2⟩ := hlk k e
      have := hpl k a1
      rw [a2] at this
      dsimp only [Option.map_some]
      rw [this]
/-- a version is forgotten -/
theorem KI.forget {g : Nat} (h : KI kl vf vn vb ve vp nx cb rw) (hg : g ∈ kl) : KI (kl.filter (fun k => decide (k ≠ g))) vf vn vb ve (fun k => if vp k = some g then none else vp k) nx cb rw := by
  obtain ⟨h1, h2, h3, h4, h5, h6, h7⟩ := h
  have hin : ∀ k ∈ kl.filter (fun k => decide (k ≠ g)), k ∈ kl ∧ k ≠ g := fun k hk => ⟨(List.mem_filter.mp hk).1, of_decide_eq_true (List.mem_filter.mp hk).2⟩
  refine ⟨h1.filter _, fun k hk => h2 k (hin k hk).1, h3.filter _, fun k hk => h4 k (hin k hk).1, fun k hk j hj => ?_, fun k hk => chE_cut 3 (vp k) (h6 k (hin k hk).1), fun k hk => h7 k (hin k hk).1⟩
  dsimp only at hj
  split at hj
  · cases hj
  · rename_i e
    obtain ⟨a1, a2⟩ := h5 k (hin k hk).1 j hj
    refine ⟨List.mem_filter.mpr ⟨a1, decide_eq_true (fun q => e (by rw [hj, q]))⟩, a2⟩
theorem KI.back {g : Nat} {f v : Int32} (h : KI kl vf vn vb ve vp nx cb rw) (hg : fv kl vf vn f v = some g) : ∀ k ∈ kl, k ≠ g → ((nI (vf k) = f ∧ numO vn (vp k) = v) ↔ vp k = some g) := by
  obtain ⟨g1, g2, g3⟩ := fv_mem hg
  have hb := h.b6
  intro k hk hne
  constructor
  · rintro ⟨q1, q2⟩
    cases e : vp k with
    | none =>
      rw [e] at q2
      have hm : (-1 : Int32) = v := q2
      rw [← g3] at hm
      have := i_m1b (a := vn g) (by have := hb g g1; omega)
      rw [this] at hm
      exact hm.elim
    | some j =>
      rw [e] at q2
      have hm : nI (vn j) = v := q2
      obtain ⟨a1, a2⟩ := h.2.2.2.2.1 k hk j e
      have e1 : vf j = vf g := by
        rw [a2]
        exact ff_inj (by have := hb k hk; omega) (by have := hb g g1; omega) (by rw [q1, g2])
      have e2 : vn j = vn g := ff_inj (by have := hb j a1; omega) (by have := hb g g1; omega) (by rw [hm, g3])
      rw [pw_un h.2.2.1 j a1 g g1 e1 e2]
  · intro e
    obtain ⟨a1, a2⟩ := h.2.2.2.2.1 k hk g e
    refine ⟨by rw [← a2]; exact g2, ?_⟩
    rw [e]
    exact g3
theorem KI.rows {rw' : List Nat} (h : KI kl vf vn vb ve vp nx cb rw) (hr : ∀ n ∈ rw, 0 < uO kl ve n → n ∈ rw') : KI kl vf vn vb ve vp nx cb rw' := by
  obtain ⟨h1, h2, h3, h4, h5, h6, h7⟩ := h
  exact ⟨h1, h2, h3, h4, h5, h6, fun k hk => ⟨fun n hn => hr n ((h7 k hk).1 n hn) (uO_pos h1 h2 hk hn), (h7 k hk).2⟩⟩
end PU9
