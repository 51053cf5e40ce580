/-! answers of both sides; the counts of calls -/
section PU10
variable {kl : List Nat} {vf vn : Nat → Nat} {vb ve : Nat → List Nat} {vp : Nat → Option Nat} {nx : Nat → Nat} {cb : Nat → List Nat} {rw : List Nat} {co : Nat → List Nat} {bl : List Nat} {op : Nat} {bx : Nat → Nat} {U us : Nat → Nat} {cs : List Nat} {ud st : Nat} {dr : List Nat}
theorem rn_mem {w : Int32} {n : Nat} (h : rn rw w = some n) : n ∈ rw ∧ nI n = w := by
  unfold rn at h
  cases e : rI rw w with
  | none => rw [e] at h; cases h
  | some i =>
    rw [e] at h
    cases h
    obtain ⟨a1, a2⟩ := rI_some e
    exact ⟨gD_mem a1, a2⟩
/-- the chunk of a number, both sides -/
theorem SI.rnfc (h : SI U us cb bl co op cs rw bx ud st) (hl : ∀ n ∈ rw, n < 1000000) (w : Int32) : rn rw w = fc bl co w := by
  obtain ⟨h1, h2, h3, h4, h5, h6, h7⟩ := h
  cases e : fc bl co w with
  | some n =>
    obtain ⟨k, hk, hn, e2⟩ := fc_mem e
    obtain ⟨a1, a2⟩ := (h1.co hk).mp hn
    obtain ⟨i, b1, b2, b3⟩ := rI_mem a1 hl
    unfold rn
    rw [← e2, b1, ← b3]
    rfl
  | none =>
    cases e2 : rn rw w with
    | none => rfl
    | some n =>
      obtain ⟨a1, a2⟩ := rn_mem e2
      unfold fc at e
      have b1 := fs_none e (bx n) (h1.at a1).1
      have b2 := List.find?_eq_none.mp b1 n (h1.at a1).2
      exact absurd (decide_eq_true a2) b2
theorem SI.garbage (h : SI U us cb bl co op cs rw bx ud st) : (bl.map (fun k => byS cb (co k) - lvS us cb (co k))).sum = (rw.map (fun n => if U n = 0 then (cb n).length else 0)).sum := by
  have e := h.1.garbage us cb
  dsimp only at e
  rw [e]
  congr 1
  exact List.map_congr_left (fun n hn => by rw [(h.2.2.1 n hn).2.2.2])
/-- what would be stored, both sides -/
theorem would_is (h : SI U us cb bl co op cs rw bx ud st) : ∀ (R P : List (Nat × Nat)), cuts dr 0 = P ++ R → sm (wouldB dr cb bl co) P.length + wouldM rw cb dr P R = sm (wouldB dr cb bl co) (P.length + R.length) := by
  intro R
  induction R with
  | nil => intro P _; rfl
  | cons q R ih =>
    intro P hc
    have h1 := ih (P ++ [q]) (by rw [hc, List.append_assoc]; rfl)
    have hq : q ∈ cuts dr 0 := by rw [hc]; exact List.mem_append.mpr (Or.inr (List.mem_cons_self ..))
    have hq2 := cuts_mem (xs := dr) 0 q hq
    have hg : (cuts dr 0).getD P.length (0, 0) = q := by
      rw [hc, List.getD_eq_getElem?_getD, List.getElem?_append_right (Nat.le_refl _), Nat.sub_self]
      rfl
    have hpb : pbs dr P.length = sub dr q := by
      unfold pbs
      rw [hg]
    have hlen : (sub dr q).length = q.2 := sub_len hq2.2.2.2.1
    have hcame : came (pbs dr) P.length = true ↔ ∃ p ∈ P, sub dr p = sub dr q := by
      unfold came
      rw [List.any_eq_true]
      constructor
      · rintro ⟨i, hi, e⟩
        have hi2 := List.mem_range.mp hi
        have e2 := of_decide_eq_true e
        rw [hpb] at e2
        refine ⟨P.getD i (0, 0), ?_, ?_⟩
        · rw [List.getD_eq_getElem?_getD, List.getElem?_eq_getElem hi2]
          exact List.getElem_mem hi2
        · rw [← e2]
          unfold pbs
          rw [hc, List.getD_eq_getElem?_getD, List.getD_eq_getElem?_getD, List.getElem?_append_left hi2]
      · rintro ⟨p, hp, e⟩
        obtain ⟨i, hi, e2⟩ := List.mem_iff_getElem.mp hp
        refine ⟨i, List.mem_range.mpr hi, decide_eq_true ?_⟩
        rw [hpb, ← e]
        unfold pbs
        rw [hc, List.getD_eq_getElem?_getD, List.getElem?_append_left hi, List.getElem?_eq_getElem hi, e2]
        rfl
    have hfind : bl.findSome? (fin cb co (sub dr q)) = none ↔ fstR rw cb (sub dr q) = none := by
      rw [fstR_none]
      constructor
      · intro e n hn e2
        have := (h.find hn e2).1
        rw [e] at this
        cases this
      · intro e
        exact (h.nof e).1
    have hw : wouldB dr cb bl co P.length = if fstR rw cb (sub dr q) = none ∧ ∀ p ∈ P, ¬ sub dr p = sub dr q then q.2 else 0 := by
      unfold wouldB
      rw [hpb, hlen]
      by_cases e1 : came (pbs dr) P.length = true
      · rw [if_pos e1]
        obtain ⟨p, hp, e⟩ := hcame.mp e1
        rw [if_neg (fun q => q.2 p hp e)]
      · rw [if_neg e1]
        have e2 : ∀ p ∈ P, ¬ sub dr p = sub dr q := fun p hp e => e1 (hcame.mpr ⟨p, hp, e⟩)
        by_cases e3 : fstR rw cb (sub dr q) = none
        · rw [if_pos (hfind.mpr e3), if_pos ⟨e3, e2⟩]
        · rw [if_neg (fun q => e3 (hfind.mp q)), if_neg (fun q => e3 q.1)]
    rw [List.length_append, List.length_singleton] at h1
    rw [List.length_cons, show P.length + (R.length + 1) = P.length + 1 + R.length by omega, ← h1]
    show _ = (sm (wouldB dr cb bl co) P.length + wouldB dr cb bl co P.length) + _
    rw [hw]
    show _ + ((if _ then _ else _) + wouldM rw cb dr (P ++ [q]) R) = _
    omega
theorem SI.would (h : SI U us cb bl co op cs rw bx ud st) : wouldM rw cb dr [] (cuts dr 0) = sm (wouldB dr cb bl co) (cuts dr 0).length := by
  have e := would_is (dr := dr) h (cuts dr 0) [] rfl
  have e1 : sm (wouldB dr cb bl co) ([] : List (Nat × Nat)).length = 0 := rfl
  rw [e1, Nat.zero_add, List.length_nil, Nat.zero_add] at e
  exact e
/-- all chunks of the draft are stored -/
def allD (dr rw : List Nat) (cb : Nat → List Nat) : Prop := ∀ q ∈ cuts dr 0, ∃ n ∈ rw, cb n = sub dr q
/-- the counts behind c calls -/
def CT (c : Nat) (dr rw : List Nat) (cb : Nat → List Nat) (nx : Nat → Nat) (sv ud st hi re : Nat) : Prop := ud ≤ 120 * c ∧ (¬ allD dr rw cb → ud + 120 ≤ 120 * c) ∧ st ≤ 15 * c ∧ (¬ allD dr rw cb → st + 15 ≤ 15 * c) ∧ hi + re ≤ 30 * c ∧ (∀ i, nx i ≤ c) ∧ sv ≤ c ∧ c ≤ 512
theorem CT.next {c sv hi re : Nat} {dr' rw' : List Nat} {cb' : Nat → List Nat} (h : CT c dr rw cb nx sv ud st hi re) (hc : c < 512) : CT (c + 1) dr' rw' cb' nx sv ud st hi re := by
  obtain ⟨h1, h2, h3, h4, h5, h6, h7, h8⟩ := h
  exact ⟨by omega, fun _ => by omega, by omega, fun _ => by omega, by omega, fun i => Nat.le_succ_of_le (h6 i), by omega, by omega⟩
theorem CT.lim {c sv hi re : Nat} (h : CT c dr rw cb nx sv ud st hi re) : ud ≤ 61440 ∧ st ≤ 7680 ∧ hi ≤ 15360 ∧ re ≤ 15360 ∧ (∀ i, nx i ≤ 512) ∧ sv ≤ 512 := by
  obtain ⟨h1, h2, h3, h4, h5, h6, h7, h8⟩ := h
  exact ⟨by omega, by omega, by omega, by omega, fun i => by have := h6 i; omega, by omega⟩
/-- the pieces of the draft: how many, how long -/
theorem pieces_len (hd : dr.length ≤ 240) : ((cuts dr 0).map (sub dr)).length ≤ 30 ∧ (((cuts dr 0).map (sub dr)).map List.length).sum = dr.length ∧ (∀ bs ∈ (cuts dr 0).map (sub dr), 1 ≤ bs.length ∧ bs.length ≤ 32) ∧ ∀ m, m < ((cuts dr 0).map (sub dr)).length → pbs dr m = ((cuts dr 0).map (sub dr)).getD m [] := by
  have hlen : ∀ q ∈ cuts dr 0, (sub dr q).length = q.2 := fun q hq => sub_len (cuts_mem (xs := dr) 0 q hq).2.2.2.1
  refine ⟨?_, ?_, fun bs hb => ?_, fun m hm => ?_⟩
  · have := cuts_len (xs := dr) 0
    rw [List.length_map]
    omega
  · have e := cuts_sum (xs := dr) 0 (Nat.zero_le _)
    rw [Nat.sub_zero] at e
    rw [List.map_map]
    refine Eq.trans ?_ e
    congr 1
    exact List.map_congr_left (fun q hq => hlen q hq)
  · obtain ⟨q, hq, e⟩ := List.mem_map.mp hb
    have := cuts_mem (xs := dr) 0 q hq
    rw [← e, hlen q hq]
    exact ⟨this.2.1, this.2.2.1⟩
  · rw [List.length_map] at hm
    unfold pbs
    rw [List.getD_eq_getElem?_getD, List.getD_eq_getElem?_getD, List.getElem?_map, List.getElem?_eq_getElem hm]
    rfl
/-- room for a save -/
theorem CT.room {c sv hi re : Nat} {sf : Nat → Nat} (h : CT c dr rw cb nx sv ud st hi re) (hc : c < 512) (hS : SI U us cb bl co op cs rw bx ud st) (hd : dr.length ≤ 240) : qOK ((cuts dr 0).map (sub dr)) (rw, bx, sf, cb, ud, st, op, cs, hi, re, []) := by
  obtain ⟨h1, h2, h3, h4, h5, h6, h7, h8⟩ := h
  obtain ⟨p1, p2, p3, p4⟩ := pieces_len hd
  have hop := hS.op (by omega)
  have hl := nd_len hS.2.1 (fun k hk => (hS.2.2.1 k hk).1)
  refine ⟨by omega, by omega, by omega, by omega, by rw [List.length_nil]; omega, fun k hk => (hS.2.2.1 k hk).1, ?_⟩
  by_cases e : allD dr rw cb
  · refine Or.inr (fun bs hb q => ?_)
    obtain ⟨x, hx, e2⟩ := List.mem_map.mp hb
    obtain ⟨n, hn, e3⟩ := e x hx
    exact fstR_none.mp q n hn (by rw [e3, e2])
  · have a1 := h2 e
    have a2 := h4 e
    exact Or.inl ⟨by omega, by rw [p2]; omega⟩
/-- the counts behind a save -/
theorem CT.save {c sv hi re j : Nat} {sf : Nat → Nat} {Q : QS} (h : CT c dr rw cb nx sv ud st hi re) (hc : c < 512) (hd : dr.length ≤ 240) (hq : QX (rw, bx, sf, cb, ud, st, op, cs, hi, re, []) Q ((cuts dr 0).map (sub dr))) : CT (c + 1) dr (qrw Q) (qcb Q) (up1 nx j (nx j + 1)) (sv + 1) (qud Q) (qst Q) (qhi Q) (qre Q) := by
  obtain ⟨h1, h2, h3, h4, h5, h6, h7, h8⟩ := h
  obtain ⟨p1, p2, p3, p4⟩ := pieces_len hd
  obtain ⟨a1, a2, a3, a4, a5, a6, a7⟩ := hq
  simp only [qud, qst, qhi, qre, qrw, qcb] at a2 a3 a4 a6
  have hall : allD dr (qrw Q) (qcb Q) := fun q hqq => a5 (sub dr q) (List.mem_map.mpr ⟨q, hqq, rfl⟩)
  have hb : Q.2.2.2.2.1 ≤ 120 * (c + 1) ∧ Q.2.2.2.2.2.1 ≤ 15 * (c + 1) := by
    by_cases e : allD dr rw cb
    · obtain ⟨b1, b2⟩ := a6 (fun bs hb q => by
        obtain ⟨x, hx, e2⟩ := List.mem_map.mp hb
        obtain ⟨n, hn, e3⟩ := e x hx
        exact fstR_none.mp q n hn (by rw [e3, e2]))
      omega
    · have := h2 e
      have := h4 e
      omega
  refine ⟨hb.1, fun q => absurd hall q, hb.2, fun q => absurd hall q, ?_, fun i => ?_, by omega, by omega⟩
  · simp only [qhi, qre]
    omega
  · rw [up1_e]
    have := h6 i
    have := h6 j
    split <;> omega
end PU10
