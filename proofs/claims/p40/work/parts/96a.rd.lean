/-! one vault, whole: what reads answer -/
section LVS
variable {d X G : Nat} {va ba ca : Nat → Nat} {dr kl : List Nat} {vf vn : Nat → Nat} {vb ve : Nat → List Nat} {vp : Nat → Option Nat} {nx : Nat → Nat} {sv : Nat} {cb : Nat → List Nat} {us : Nat → Nat} {bl cs : List Nat} {co : Nat → List Nat} {op hi re st : Nat} {rw : List Nat} {bx : Nat → Nat} {ud : Nat} {T : TS}
/-- what holds beside: bytes of entries, bases, the cache -/
def PV (kl : List Nat) (vf vn : Nat → Nat) (vb ve : Nat → List Nat) (vp : Nat → Option Nat) (cb : Nat → List Nat) (cs : List Nat) : Prop :=
  (∀ k ∈ kl, (ve k).map cb = (cuts (vb k) 0).map (sub (vb k))) ∧ (∀ k ∈ kl, ∀ x ∈ vb k, x < 256) ∧ (∀ k ∈ kl, ∀ j, vp k = some j → vn j < vn k ∧ dif (ve k) (ve j) < (ve k).length) ∧ cs.Nodup ∧ ∀ k ∈ kl, vn k < 64
def LV (T : TS) (X : Nat) (va ba ca : Nat → Nat) (dr kl : List Nat) (vf vn : Nat → Nat) (vb ve : Nat → List Nat) (vp : Nat → Option Nat) (nx : Nat → Nat) (sv : Nat) (cb : Nat → List Nat) (us : Nat → Nat) (bl : List Nat) (co : Nat → List Nat) (op : Nat) (cs : List Nat) (hi re st : Nat) (rw : List Nat) (bx : Nat → Nat) (ud : Nat) : Prop :=
  XR T X va ba ca dr kl vf vn vb ve vp nx sv cb us bl co op cs hi re st ∧ KI kl vf vn vb ve vp nx cb rw ∧ SI (uO kl ve) us cb bl co op cs rw bx ud st ∧ PV kl vf vn vb ve vp cb cs ∧ ud ≤ 61440
/-- the sets that the law keeps: kept versions by file, the next chunk's number -/
def gR (T : TS) (G : Nat) (kl : List Nat) (vf vn : Nat → Nat) (st : Nat) : Prop := tK T G = 22 ∧ tl T G = 7 ∧ tJ T G 6 = jN st ∧ ∀ f v, f < 6 → v < 64 → (bL (tJ T G f) v = true ↔ ∃ k ∈ kl, vf k = f ∧ vn k = v)
theorem LV.k8 (h : LV T X va ba ca dr kl vf vn vb ve vp nx sv cb us bl co op cs hi re st rw bx ud) : tK T X = 8 := h.1.1.1
theorem LV.fvk {k : Nat} (h : LV T X va ba ca dr kl vf vn vb ve vp nx sv cb us bl co op cs hi re st rw bx ud) (hk : k ∈ kl) : fv kl vf vn (nI (vf k)) (nI (vn k)) = some k := by
  obtain ⟨-, hK, -⟩ := h
  cases e : fv kl vf vn (nI (vf k)) (nI (vn k)) with
  | none =>
    have := List.find?_eq_none.mp e k hk
    simp at this
  | some j =>
    obtain ⟨h1, h2, h3⟩ := fv_mem e
    have a := hK.b6 k hk
    have b := hK.b6 j h1
    rw [i_eq (by omega) (by omega)] at h2 h3
    rw [pw_un hK.2.2.1 j h1 k hk h2 h3]
theorem LV.fvn {f v : Nat} (h : LV T X va ba ca dr kl vf vn vb ve vp nx sv cb us bl co op cs hi re st rw bx ud) (hf : f < 6) (hv : v < 64) (hn : ¬ ∃ k ∈ kl, vf k = f ∧ vn k = v) : fv kl vf vn (nI f) (nI v) = none := by
  obtain ⟨-, hK, -⟩ := h
  cases e : fv kl vf vn (nI f) (nI v) with
  | none => rfl
  | some j =>
    exfalso
    obtain ⟨h1, h2, h3⟩ := fv_mem e
    have b := hK.b6 j h1
    rw [i_eq (by omega) (by omega)] at h2 h3
    exact hn ⟨j, h1, h2, h3⟩
theorem LV.lens {k : Nat} (h : LV T X va ba ca dr kl vf vn vb ve vp nx sv cb us bl co op cs hi re st rw bx ud) (hk : k ∈ kl) : (vb k).length ≤ 240 ∧ (ve k).length ≤ 30 := (h.1.2.2.2.1.1.2 k hk).2.2
theorem LV.pieces {k : Nat} (h : LV T X va ba ca dr kl vf vn vb ve vp nx sv cb us bl co op cs hi re st rw bx ud) (hk : k ∈ kl) : (ve k).map cb = (cuts (vb k) 0).map (sub (vb k)) := h.2.2.2.1.1 k hk
theorem LV.bytes {k : Nat} (h : LV T X va ba ca dr kl vf vn vb ve vp nx sv cb us bl co op cs hi re st rw bx ud) (hk : k ∈ kl) : ∀ x ∈ vb k, x < 256 := h.2.2.2.1.2.1 k hk
theorem LV.ents {k : Nat} (h : LV T X va ba ca dr kl vf vn vb ve vp nx sv cb us bl co op cs hi re st rw bx ud) (hk : k ∈ kl) : ∀ n ∈ ve k, n ∈ rw := (h.2.1.2.2.2.2.2.2 k hk).1
theorem LV.rwl (h : LV T X va ba ca dr kl vf vn vb ve vp nx sv cb us bl co op cs hi re st rw bx ud) : st < 1000000 ∧ ∀ n ∈ rw, n < st := ⟨h.1.2.2.2.2.1.2.2.2.2.2.2.2.1, fun n hn => (h.2.2.1.2.2.1 n hn).1⟩
theorem LV.b64 {k : Nat} (h : LV T X va ba ca dr kl vf vn vb ve vp nx sv cb us bl co op cs hi re st rw bx ud) (hk : k ∈ kl) : vf k < 6 ∧ vn k < 64 := ⟨(h.2.1.b6 k hk).1, h.2.2.2.1.2.2.2.2 k hk⟩
theorem LV.fcs {n : Nat} (h : LV T X va ba ca dr kl vf vn vb ve vp nx sv cb us bl co op cs hi re st rw bx ud) (hn : n ∈ rw) : fc bl co (nI n) = some n := by
  obtain ⟨hs, hl⟩ := h.rwl
  have hl2 : ∀ n ∈ rw, n < 1000000 := fun n hn => by have := hl n hn; omega
  rw [← h.2.2.1.rnfc hl2]
  obtain ⟨i, h1, h2, h3⟩ := rI_mem hn hl2
  unfold rn
  rw [h1, Option.map_some, h3]
theorem LV.fcn {w : Int32} (h : LV T X va ba ca dr kl vf vn vb ve vp nx sv cb us bl co op cs hi re st rw bx ud) (hn : ¬ ∃ n ∈ rw, nI n = w) : fc bl co w = none := by
  cases e : fc bl co w with
  | none => rfl
  | some n =>
    exfalso
    obtain ⟨k, hk, h1, h2⟩ := fc_mem e
    exact hn ⟨n, ((h.2.2.1.1.co hk).mp h1).1, h2⟩
theorem rst_is {xs : List Nat} : ∀ f, ∀ es : List Nat, f ≤ xs.length → es.map cb = (cuts xs f).map (sub xs) → ∀ j, f + j < xs.length → rst cb es j = xs.getD (f + j) 0 := by
  refine cuts_ind (xs := xs) (fun f h => ?_) (fun f h ih => ?_)
  · intro es hf he j hj
    omega
  · intro es hf he j hj
    obtain ⟨h1, h2, -, -⟩ := nxt_is h
    rw [cuts_cons h, List.map_cons] at he
    cases es with
    | nil => cases he
    | cons n es =>
      rw [List.map_cons] at he
      obtain ⟨e1, e2⟩ := List.cons.inj he
      have hl : (cb n).length = nxt xs f - f := by rw [e1]; exact sub_len (q := (f, nxt xs f - f)) (by show f + _ ≤ _; omega)
      unfold rst
      by_cases q : j < (cb n).length
      · rw [if_pos q, e1]
        exact sub_get (q := (f, nxt xs f - f)) (by show j < nxt xs f - f; omega)
      · rw [if_neg q, ih es h2 e2 (j - (cb n).length) (by omega), show nxt xs f + (j - (cb n).length) = f + j by omega]
theorem LV.length {k : Nat} (h : LV T X va ba ca dr kl vf vn vb ve vp nx sv cb us bl co op cs hi re st rw bx ud) (hk : k ∈ kl) : Call (d + 4) 94 [.ref X, .int (nI (vf k)), .int (nI (vn k))] T (.inl (some (.int (nI (vb k).length)))) T := by
  have c := R_length (d := d) (nI (vf k)) (nI (vn k)) h.1
  rw [h.fvk hk] at c
  exact c
theorem inR_at {j n : Nat} (hj : j < n) (hn : n < 2147483648) : inR (nI j) n = some j := by
  unfold inR
  rw [if_neg, i_cl (by omega)]
  rw [i_lt0 (by omega), i_le (by omega) (by omega), false_or]
  omega
theorem LV.byteAt {k j : Nat} (h : LV T X va ba ca dr kl vf vn vb ve vp nx sv cb us bl co op cs hi re st rw bx ud) (hk : k ∈ kl) (hj : j < (vb k).length) : Call (d + 4) 95 [.ref X, .int (nI (vf k)), .int (nI (vn k)), .int (nI j)] T (.inl (some (.int (nI ((vb k).getD j 0))))) T := by
  have c := R_byteAt (d := d) (nI (vf k)) (nI (vn k)) (nI j) h.1
  have hl := (h.lens hk).1
  rw [h.fvk hk, Option.bind_some, inR_at hj (by omega), Option.map_some, rst_is 0 (ve k) (Nat.zero_le _) (h.pieces hk) j (by omega), Nat.zero_add] at c
  exact c
theorem LV.byCopy {k j : Nat} (h : LV T X va ba ca dr kl vf vn vb ve vp nx sv cb us bl co op cs hi re st rw bx ud) (hk : k ∈ kl) (hj : j < (vb k).length) : Call (d + 4) 96 [.ref X, .int (nI (vf k)), .int (nI (vn k)), .int (nI j)] T (.inl (some (.int (nI ((vb k).getD j 0))))) T := by
  have c := R_byteByCopy (d := d) (nI (vf k)) (nI (vn k)) (nI j) h.1
  have hl := (h.lens hk).1
  rw [h.fvk hk, Option.bind_some, inR_at hj (by omega), Option.map_some] at c
  exact c
theorem LV.chunksOf {k : Nat} (h : LV T X va ba ca dr kl vf vn vb ve vp nx sv cb us bl co op cs hi re st rw bx ud) (hk : k ∈ kl) : Call (d + 4) 97 [.ref X, .int (nI (vf k)), .int (nI (vn k))] T (.inl (some (.int (nI (ve k).length)))) T := by
  have c := R_chunksOf (d := d) (nI (vf k)) (nI (vn k)) h.1
  rw [h.fvk hk] at c
  exact c
theorem LV.chunkAt {k j : Nat} (h : LV T X va ba ca dr kl vf vn vb ve vp nx sv cb us bl co op cs hi re st rw bx ud) (hk : k ∈ kl) (hj : j < (ve k).length) : Call (d + 4) 98 [.ref X, .int (nI (vf k)), .int (nI (vn k)), .int (nI j)] T (.inl (some (.int (nI ((ve k).getD j 0))))) T := by
  have c := R_chunkAt (d := d) (nI (vf k)) (nI (vn k)) (nI j) h.1
  have hl := (h.lens hk).2
  rw [h.fvk hk, Option.bind_some, inR_at hj (by omega), Option.map_some] at c
  exact c
theorem LV.baseOf {k : Nat} (h : LV T X va ba ca dr kl vf vn vb ve vp nx sv cb us bl co op cs hi re st rw bx ud) (hk : k ∈ kl) : Call (d + 4) 99 [.ref X, .int (nI (vf k)), .int (nI (vn k))] T (.inl (some (.int (numO vn (vp k))))) T := by
  have c := R_baseOf (d := d) (nI (vf k)) (nI (vn k)) h.1
  rw [h.fvk hk] at c
  exact c
theorem LV.chainOf {k : Nat} (h : LV T X va ba ca dr kl vf vn vb ve vp nx sv cb us bl co op cs hi re st rw bx ud) (hk : k ∈ kl) : Call (d + 4) 100 [.ref X, .int (nI (vf k)), .int (nI (vn k))] T (.inl (some (.int (nI (chO vp 3 (vp k)))))) T := by
  have c := R_chainOf (d := d) (nI (vf k)) (nI (vn k)) h.1
  rw [h.fvk hk] at c
  exact c
theorem LV.costOf {k : Nat} (h : LV T X va ba ca dr kl vf vn vb ve vp nx sv cb us bl co op cs hi re st rw bx ud) (hk : k ∈ kl) : Call (d + 6) 101 [.ref X, .int (nI (vf k)), .int (nI (vn k))] T (.inl (some (.int (nI (cosO ve vp k))))) T := by
  have c := R_costOf (d := d) (nI (vf k)) (nI (vn k)) h.1
  rw [h.fvk hk] at c
  exact c
theorem LV.isStored {n : Nat} (h : LV T X va ba ca dr kl vf vn vb ve vp nx sv cb us bl co op cs hi re st rw bx ud) (hn : n ∈ rw) : Call (d + 5) 102 [.ref X, .int (nI n)] T (.inl (some (.int (nI 1)))) T := by
  have c := R_isStored (d := d) (nI n) h.1
  rw [h.fcs hn, if_neg (by simp)] at c
  exact c
theorem LV.notStored {w : Int32} (h : LV T X va ba ca dr kl vf vn vb ve vp nx sv cb us bl co op cs hi re st rw bx ud) (hn : ¬ ∃ n ∈ rw, nI n = w) : Call (d + 5) 102 [.ref X, .int w] T (.inl (some (.int (nI 0)))) T := by
  have c := R_isStored (d := d) w h.1
  rw [h.fcn hn, if_pos rfl] at c
  exact c
theorem LV.chunkLength {n : Nat} (h : LV T X va ba ca dr kl vf vn vb ve vp nx sv cb us bl co op cs hi re st rw bx ud) (hn : n ∈ rw) : Call (d + 5) 104 [.ref X, .int (nI n)] T (.inl (some (.int (nI (cb n).length)))) T := by
  have c := R_chunkLength (d := d) (nI n) h.1
  rw [h.fcs hn] at c
  exact c
theorem LV.fingerprint {n : Nat} (h : LV T X va ba ca dr kl vf vn vb ve vp nx sv cb us bl co op cs hi re st rw bx ud) (hn : n ∈ rw) : Call (d + 5) 105 [.ref X, .int (nI n)] T (.inl (some (.int (nI (mk (cb n)))))) T := by
  have c := R_fingerprint (d := d) (nI n) h.1
  rw [h.fcs hn] at c
  exact c
theorem LV.references {n : Nat} (h : LV T X va ba ca dr kl vf vn vb ve vp nx sv cb us bl co op cs hi re st rw bx ud) (hn : n ∈ rw) : Call (d + 5) 106 [.ref X, .int (nI n)] T (.inl (some (.int (nI (uO kl ve n))))) T := by
  have c := R_references (d := d) (nI n) h.1
  rw [h.fcs hn, Option.map_some, (h.2.2.1.2.2.1 n hn).2.2.2] at c
  exact c
theorem LV.containerOf {n : Nat} (h : LV T X va ba ca dr kl vf vn vb ve vp nx sv cb us bl co op cs hi re st rw bx ud) (hn : n ∈ rw) : Call (d + 5) 107 [.ref X, .int (nI n)] T (.inl (some (.int (nI (bx n))))) T := by
  have c := R_containerOf (d := d) (nI n) h.1
  rw [h.fcs hn, Option.map_some, h.2.2.1.1.cof hn] at c
  exact c
theorem LV.chunks (h : LV T X va ba ca dr kl vf vn vb ve vp nx sv cb us bl co op cs hi re st rw bx ud) : Call (d + 4) 103 [.ref X] T (.inl (some (.int (nI rw.length)))) T := by
  have c := R_chunks (d := d) h.1
  have e := h.2.2.1.1.chunks
  dsimp only at e
  rw [e] at c
  exact c
theorem LV.storedBytes (h : LV T X va ba ca dr kl vf vn vb ve vp nx sv cb us bl co op cs hi re st rw bx ud) : Call (d + 4) 113 [.ref X] T (.inl (some (.int (nI (byS cb rw))))) T := by
  have c := R_storedBytes (d := d) h.1
  have e := h.2.2.1.1.bytes cb
  dsimp only at e
  rw [e] at c
  exact c
theorem LV.garbage (h : LV T X va ba ca dr kl vf vn vb ve vp nx sv cb us bl co op cs hi re st rw bx ud) : Call (d + 4) 115 [.ref X] T (.inl (some (.int (nI (rw.map (fun n => if uO kl ve n = 0 then (cb n).length else 0)).sum)))) T := by
  have c := R_garbage (d := d) h.1
  rw [h.2.2.1.garbage] at c
  exact c
theorem LV.bst (h : LV T X va ba ca dr kl vf vn vb ve vp nx sv cb us bl co op cs hi re st rw bx ud) : op ≤ 1266 ∧ bl.length ≤ 1267 ∧ byS cb rw ≤ 122880 ∧ rw.length ≤ 122880 := h.2.2.1.op h.2.2.2.2
/-- a version that the set has -/
theorem gR.ex {f v : Nat} (h : gR T G kl vf vn st) (hf : f < 6) (hv : v < 64) (hb : bL (tJ T G f) v = true) : ∃ k ∈ kl, vf k = f ∧ vn k = v := (h.2.2.2 f v hf hv).mp hb
end LVS
