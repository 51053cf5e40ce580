/-! what the store says of a heap -/
def gw : List Jvm.Cond := lw_tbl.filter goodWord
theorem gw_of {w : Jvm.Cond} {p : Nat} (h : lw_tbl[p]? = some w) (g : goodWord w = true) : w ∈ gw := List.mem_filter.mpr ⟨List.mem_of_getElem? h, g⟩
theorem gw_in {w : Jvm.Cond} (h : w ∈ gw) : w ∈ lw_tbl ∧ goodWord w = true := List.mem_filter.mp h
/-- the fixed things: classes, rows' classes (ints, bytes, longs, objects), the heap at the law's start, the empty row, the script -/
abbrev GP : Type := va_G × (Nat → ClassId) × Heap × Nat × Nat × Nat × (Nat → Int32)
def gD (G : GP) : va_G := G.1
def gA (G : GP) : Nat → ClassId := G.2.1
def gH (G : GP) : Heap := G.2.2.1
def gE (G : GP) : Nat := G.2.2.2.1
def gB (G : GP) : Nat := G.2.2.2.2.1
def gS (G : GP) : Nat := G.2.2.2.2.2.1
def gX (G : GP) : Nat → Int32 := G.2.2.2.2.2.2
def own (G : GP) : Nat → Prop := fun q => (gH G).size ≤ q
def gtys (G : GP) : List (ClassId × FieldType) := [(gA G 0, .int), (gA G 1, .int), (gA G 2, .long), (gA G 3, .object "java/lang/Object")]
/-- what the store doesn't tell of lists: the row of each, its count of changes, whose row an address is -/
abbrev GG : Type := (Nat → Option Nat) × (Nat → Int32) × (Nat → Option Nat)
def fvl (T : TS) (c a k : Nat) : Value := if fI c k then .int (tI T (32 * c + k) a) else va_rf (tR T (32 * c + k) a)
def flds (T : TS) (c a : Nat) : List Value := (List.range (NN c)).map (fvl T c a)
def refs (xs : List Nat) : Nat → Option Nat := fun i => xs[i]?
def cel (G : GP) (g : GG) (T : TS) (a : Nat) : Option va_E :=
  if tK T a = 0 then (g.2.2 a).map (fun o => .inl (gA G 3, tc T o, .inr (.inr (.inr (.inr (refs (tL T o)))))))
  else if tK T a ≤ 9 then some (.inr (tK T a - 1, flds T (tK T a - 1) a))
  else if tK T a = 20 then some (.inl (gA G 0, tl T a, .inl (tA T a)))
  else if tK T a = 21 then some (.inl (gA G 1, tl T a, .inl (tA T a)))
  else if tK T a = 22 then some (.inl (gA G 2, tl T a, .inr (.inl (tJ T a))))
  else if tK T a = 23 then some (.inr (0, [.int (g.2.1 a), va_rf (g.1 a), .int (nI (tL T a).length)]))
  else none
def lsOk (G : GP) (g : GG) (T : TS) : Prop := ∀ a, tK T a = 23 → ((tL T a).length ≤ tc T a ∧ tc T a ≤ 300000) ∧ (∀ y ∈ tL T a, 2 ≤ tK T y ∧ tK T y ≤ 9) ∧ ((tc T a = 0 ∧ g.1 a = some (gE G)) ∨ ∃ e, 0 < tc T a ∧ g.1 a = some e ∧ g.2.2 e = some a)
def bkOk (G : GP) (g : GG) (T : TS) : Prop := ∀ e o, g.2.2 e = some o → tK T e = 0 ∧ e < tn T ∧ (gH G).size ≤ e ∧ tK T o = 23 ∧ g.1 o = some e ∧ 0 < tc T o
def kOk (G : GP) (T : TS) : Prop := ∀ a, tK T a ≠ 0 → ((gH G).size ≤ a ∧ a < tn T ∧ tK T a ≤ 23) ∨ (tK T a = 26 ∧ a = gB G ∧ tl T a = gS G ∧ tA T a = gX G ∧ a < (gH G).size)
def Rel (G : GP) (T : TS) (H : Heap) : Prop := H.size = tn T ∧ (gH G).size ≤ tn T ∧ (∀ q, q < (gH G).size → H[q]? = (gH G)[q]?) ∧ kOk G T ∧ ∃ g, lsOk G g T ∧ bkOk G g T ∧ ∀ a e, cel G g T a = some e → va_at (gD G) kcl (a, e) H
theorem Rel.size {G : GP} {T : TS} {H : Heap} (h : Rel G T H) : H.size = tn T := h.1
theorem cel_lt {G : GP} {g : GG} {T : TS} {a : Nat} {e : va_E} (hk : kOk G T) (hb : bkOk G g T) (h : cel G g T a = some e) : (gH G).size ≤ a ∧ a < tn T := by
  unfold cel at h
  by_cases h0 : tK T a = 0
  · rw [if_pos h0] at h
    cases hz : g.2.2 a with
    | none => rw [hz] at h; cases h
    | some o => exact ⟨(hb a o hz).2.2.1, (hb a o hz).2.1⟩
  · rcases hk a h0 with h3 | h3
    · exact ⟨h3.1, h3.2.1⟩
    · rw [if_neg h0, h3.1] at h
      simp at h
theorem at_one {D : va_G} {cl : List vw_C} {q : Nat × va_E} {H : Heap} (h : va_at D cl q H) : va_P D cl [q] H := by
  intro k x hx
  have hz : k < 1 := (List.getElem?_eq_some_iff.mp hx).1
  rw [show k = 0 by omega] at hx
  cases hx
  exact h
/-- one cell changed -/
theorem Rel.put {G : GP} {g g' : GG} {T T' : TS} {H H1 : Heap} {a : Nat} {e : va_E} (hR : H.size = tn T ∧ (gH G).size ≤ tn T ∧ (∀ q, q < (gH G).size → H[q]? = (gH G)[q]?)) (hP : ∀ b x, cel G g T b = some x → va_at (gD G) kcl (b, x) H) (hn : tn T' = tn T) (hk : kOk G T') (hl : lsOk G g' T') (hb : bkOk G g' T') (hge : (gH G).size ≤ a) (hz : H1.size = H.size) (ho : ∀ q, q ≠ a → H1[q]? = H[q]?) (ha : va_at (gD G) kcl (a, e) H1) (hc : cel G g' T' a = some e) (hco : ∀ b, b ≠ a → cel G g' T' b = cel G g T b) : Rel G T' H1 := by
  refine ⟨by rw [hz, hn]; exact hR.1, by rw [hn]; exact hR.2.1, fun q hq => ?_, hk, g', hl, hb, fun b x hx => ?_⟩
  · rw [ho q (by omega)]
    exact hR.2.2 q hq
  · by_cases hba : b = a
    · subst hba
      rw [hc] at hx
      cases hx
      exact ha
    · rw [hco b hba] at hx
      exact (hP b x hx).kept (ho b hba)
/-- one cell made -/
theorem Rel.new {G : GP} {g g' : GG} {T T' : TS} {H H1 : Heap} {e : va_E} (hR : H.size = tn T ∧ (gH G).size ≤ tn T ∧ (∀ q, q < (gH G).size → H[q]? = (gH G)[q]?)) (hP : ∀ b x, cel G g T b = some x → va_at (gD G) kcl (b, x) H) (hlt : ∀ b x, cel G g T b = some x → b < tn T) (hn : tn T' = tn T + 1) (hk : kOk G T') (hl : lsOk G g' T') (hb : bkOk G g' T') (hz : H1.size = H.size + 1) (ho : ∀ q, q < H.size → H1[q]? = H[q]?) (ha : va_at (gD G) kcl (tn T, e) H1) (hc : cel G g' T' (tn T) = some e) (hco : ∀ b x, b ≠ tn T → cel G g' T' b = some x → cel G g T b = some x) : Rel G T' H1 := by
  refine ⟨by rw [hz, hn, hR.1], by rw [hn]; exact Nat.le_succ_of_le hR.2.1, fun q hq => ?_, hk, g', hl, hb, fun b x hx => ?_⟩
  · rw [ho q (by rw [hR.1]; exact Nat.lt_of_lt_of_le hq hR.2.1)]
    exact hR.2.2 q hq
  · by_cases hba : b = tn T
    · subst hba
      rw [hc] at hx
      cases hx
      exact ha
    · have h9 := hco b x hba hx
      exact (hP b x h9).kept (ho b (by rw [hR.1]; exact hlt b x h9))
/-- an object's place in the world -/
theorem cel_obj {G : GP} {g : GG} {T : TS} {a c : Nat} (h : tK T a = c + 1) (hc : c < 9) : cel G g T a = some (.inr (c, flds T c a)) := by
  unfold cel
  rw [h, if_neg (by omega), if_pos (by omega)]
  simp
theorem kcl_at {c : Nat} (hc : c < 9) : kcl[c]? = some (RN c, TN c, NN c) := by
  have h : ∀ c, c < 9 → kcl[c]? = some (RN c, TN c, NN c) := by
    intro c hc
    match c, hc with
    | 0, _ => rfl
    | 1, _ => rfl
    | 2, _ => rfl
    | 3, _ => rfl
    | 4, _ => rfl
    | 5, _ => rfl
    | 6, _ => rfl
    | 7, _ => rfl
    | 8, _ => rfl
    | k + 9, h => omega
  exact h c hc
theorem flds_get {T : TS} {c a k : Nat} (hk : k < NN c) : (flds T c a)[k]? = some (fvl T c a k) := by
  unfold flds
  rw [List.getElem?_map, List.getElem?_range hk]
  rfl
theorem flds_len {T : TS} {c a : Nat} : (flds T c a).length = NN c := by unfold flds; simp
