/-! what the store says of a heap -/
def gw : List Jvm.Cond := lw_tbl.filter goodWord
theorem gw_of {w : Jvm.Cond} {p : Nat} (h : lw_tbl[p]? = some w) (g : goodWord w = true) : w ∈ gw := List.mem_filter.mpr ⟨List.mem_of_getElem? h, g⟩
theorem gw_in {w : Jvm.Cond} (h : w ∈ gw) : w ∈ lw_tbl ∧ goodWord w = true := List.mem_filter.mp h
/-- the fixed things: classes, rows' classes (ints, bytes, longs, objects), the heap at the law's start, the empty row, the script -/
abbrev GP : Type := va_G × (Nat → ClassId) × Heap × Nat × Nat × Nat × (Nat → Int32)
def gD (G : GP) : va_G := G.1
def gA (G : GP) : Nat → ClassId := G.2.1
def gH (G : GP) : Heap := G.2.2.1
def gE (G : GP) : Nat := G.2.2.2.1
def gB (G : GP) : Nat := G.2.2.2.2.1
def gS (G : GP) : Nat := G.2.2.2.2.2.1
def gX (G : GP) : Nat → Int32 := G.2.2.2.2.2.2
def own (G : GP) : Nat → Prop := fun q => (gH G).size ≤ q
def gtys (G : GP) : List (ClassId × FieldType) := [(gA G 0, .int), (gA G 1, .byte), (gA G 2, .long), (gA G 3, .object "java/lang/Object")]
/-- what the store doesn't tell of lists: the row of each, its count of changes, whose row an address is -/
abbrev GG : Type := (Nat → Option Nat) × (Nat → Int32) × (Nat → Option Nat)
def fvl (T : TS) (c a k : Nat) : Value := if fI c k then .int (tI T (32 * c + k) a) else va_rf (tR T (32 * c + k) a)
def flds (T : TS) (c a : Nat) : List Value := (List.range (NN c)).map (fvl T c a)
def refs (xs : List Nat) : Nat → Option Nat := fun i => xs[i]?
def cel (G : GP) (g : GG) (T : TS) (a : Nat) : Option va_E :=
  if tK T a = 0 then (g.2.2 a).map (fun o => .inl (gA G 3, tc T o, .inr (.inr (.inr (.inr (refs (tL T o)))))))
  else if tK T a ≤ 9 then some (.inr (tK T a - 1, flds T (tK T a - 1) a))
  else if tK T a = 20 then some (.inl (gA G 0, tl T a, .inl (tA T a)))
  else if tK T a = 21 then some (.inl (gA G 1, tl T a, .inl (tA T a)))
  else if tK T a = 22 then some (.inl (gA G 2, tl T a, .inr (.inl (tJ T a))))
  else if tK T a = 23 then some (.inr (0, [.int (g.2.1 a), va_rf (g.1 a), .int (nI (tL T a).length)]))
  else none
def wsT (G : GP) (g : GG) (T : TS) : va_W := (List.range (tn T)).filterMap (fun a => (cel G g T a).map (fun e => (a, e)))
def lsOk (G : GP) (g : GG) (T : TS) : Prop := ∀ a, tK T a = 23 → (tL T a).length ≤ tc T a ∧ (∀ y ∈ tL T a, 2 ≤ tK T y ∧ tK T y ≤ 9) ∧ ((tc T a = 0 ∧ g.1 a = some (gE G)) ∨ ∃ e, 0 < tc T a ∧ g.1 a = some e ∧ g.2.2 e = some a)
def bkOk (G : GP) (g : GG) (T : TS) : Prop := ∀ e o, g.2.2 e = some o → tK T e = 0 ∧ e < tn T ∧ (gH G).size ≤ e ∧ tK T o = 23 ∧ g.1 o = some e ∧ 0 < tc T o
def kOk (G : GP) (T : TS) : Prop := ∀ a, tK T a ≠ 0 → ((gH G).size ≤ a ∧ a < tn T ∧ tK T a ≤ 23) ∨ (tK T a = 26 ∧ a = gB G ∧ tl T a = gS G ∧ tA T a = gX G ∧ a < (gH G).size)
def Rel (G : GP) (T : TS) (H : Heap) : Prop := H.size = tn T ∧ (gH G).size ≤ tn T ∧ (∀ q, q < (gH G).size → H[q]? = (gH G)[q]?) ∧ kOk G T ∧ ∃ g, lsOk G g T ∧ bkOk G g T ∧ va_P (gD G) kcl (wsT G g T) H
theorem wsT_get {G : GP} {g : GG} {T : TS} {a : Nat} {e : va_E} (h : cel G g T a = some e) (ha : a < tn T) : ∃ k : Nat, (wsT G g T)[k]? = some (a, e) := by
  apply List.getElem?_of_mem
  exact List.mem_filterMap.mpr ⟨a, List.mem_range.mpr ha, by rw [h]; rfl⟩
theorem wsT_of {G : GP} {g : GG} {T : TS} {k a : Nat} {e : va_E} (h : (wsT G g T)[k]? = some (a, e)) : cel G g T a = some e ∧ a < tn T := by
  obtain ⟨b, hb, hc⟩ := List.mem_filterMap.mp (List.mem_of_getElem? h)
  cases hx : cel G g T b with
  | none => rw [hx] at hc; cases hc
  | some y =>
    rw [hx] at hc
    simp at hc
    obtain ⟨rfl, rfl⟩ := hc
    exact ⟨hx, List.mem_range.mp hb⟩
theorem inj_fm {f : Nat → Option va_E} : ∀ (l : List Nat), l.Nodup → ∀ (i j a : Nat) (x y : va_E), (l.filterMap (fun a => (f a).map (fun e => (a, e))))[i]? = some (a, x) → (l.filterMap (fun a => (f a).map (fun e => (a, e))))[j]? = some (a, y) → i = j := by
  intro l
  induction l with
  | nil => intro _ i j a x y h; simp at h
  | cons b l ih =>
    intro hn i j a x y h1 h2
    obtain ⟨hb, hn2⟩ := List.nodup_cons.mp hn
    cases hf : f b with
    | none =>
      have e : ((b :: l).filterMap (fun a => (f a).map (fun e => (a, e)))) = l.filterMap (fun a => (f a).map (fun e => (a, e))) := by
        rw [List.filterMap_cons, hf]; rfl
      rw [e] at h1 h2
      exact ih hn2 i j a x y h1 h2
    | some z =>
      have e : ((b :: l).filterMap (fun a => (f a).map (fun e => (a, e)))) = (b, z) :: l.filterMap (fun a => (f a).map (fun e => (a, e))) := by
        rw [List.filterMap_cons, hf]; rfl
      rw [e] at h1 h2
      have key : ∀ (i : Nat) (w : va_E), (l.filterMap (fun a => (f a).map (fun e => (a, e))))[i]? = some (b, w) → False := by
        intro i w hw
        obtain ⟨c, hc, hd⟩ := List.mem_filterMap.mp (List.mem_of_getElem? hw)
        cases hg : f c with
        | none => rw [hg] at hd; cases hd
        | some v =>
          rw [hg] at hd
          simp at hd
          obtain ⟨rfl, -⟩ := hd
          exact hb hc
      cases i with
      | zero =>
        rw [List.getElem?_cons_zero] at h1
        cases h1
        cases j with
        | zero => rfl
        | succ j => rw [List.getElem?_cons_succ] at h2; exact (key j y h2).elim
      | succ i =>
        rw [List.getElem?_cons_succ] at h1
        cases j with
        | zero => rw [List.getElem?_cons_zero] at h2; cases h2; exact (key i x h1).elim
        | succ j =>
          rw [List.getElem?_cons_succ] at h2
          exact congrArg _ (ih hn2 i j a x y h1 h2)
theorem wsT_D {G : GP} {g : GG} {T : TS} (hk : kOk G T) (hb : bkOk G g T) : va_D (own G) (wsT G g T) := by
  refine ⟨fun i j p q hi hj hpq => ?_, fun k q hq => ?_⟩
  · obtain ⟨a, x⟩ := p
    obtain ⟨b, y⟩ := q
    have e : a = b := hpq
    subst e
    exact inj_fm (f := cel G g T) _ List.nodup_range i j a x y hi hj
  · obtain ⟨a, x⟩ := q
    obtain ⟨h1, h2⟩ := wsT_of hq
    show (gH G).size ≤ a
    by_cases h0 : tK T a = 0
    · unfold cel at h1
      rw [if_pos h0] at h1
      cases hz : g.2.2 a with
      | none => rw [hz] at h1; cases h1
      | some o => exact (hb a o hz).2.2.1
    · rcases hk a h0 with h3 | h3
      · exact h3.1
      · unfold cel at h1
        rw [if_neg h0, h3.1] at h1
        simp at h1
/-- a world that says the same of each address -/
theorem wsT_P {G : GP} {g : GG} {T : TS} {H : Heap} {ws : va_W} (hP : va_P (gD G) kcl ws H) (h : ∀ a e, a < tn T → cel G g T a = some e → (a, e) ∈ ws) : va_P (gD G) kcl (wsT G g T) H := by
  intro k q hk
  obtain ⟨a, e⟩ := q
  obtain ⟨h1, h2⟩ := wsT_of hk
  obtain ⟨j, hj⟩ := List.getElem?_of_mem (h a e h2 h1)
  exact hP j _ hj
theorem mem_set_ne {ws : va_W} {k a b : Nat} {e0 e e1 : va_E} (h : ws[k]? = some (a, e0)) (hb : (b, e1) ∈ ws) (hn : b ≠ a) : (b, e1) ∈ ws.set k (a, e) := by
  obtain ⟨j, hj⟩ := List.getElem?_of_mem hb
  have hjk : j ≠ k := by
    intro e9
    subst e9
    rw [h] at hj
    cases hj
    exact hn rfl
  exact List.mem_of_getElem? (i := j) (by rw [List.getElem?_set_ne (Ne.symm hjk)]; exact hj)
theorem mem_set_self {ws : va_W} {k a : Nat} {e0 e : va_E} (h : ws[k]? = some (a, e0)) : (a, e) ∈ ws.set k (a, e) := by
  have hl := (List.getElem?_eq_some_iff.mp h).1
  exact List.mem_of_getElem? (i := k) (by rw [List.getElem?_set_self hl])
/-- one cell changed -/
theorem wsT_set {G : GP} {g g' : GG} {T T' : TS} {H : Heap} {k a : Nat} {e0 e : va_E} (hP : va_P (gD G) kcl ((wsT G g T).set k (a, e)) H) (hk : (wsT G g T)[k]? = some (a, e0)) (hn : tn T' = tn T) (ha : cel G g' T' a = some e) (ho : ∀ b, b ≠ a → cel G g' T' b = cel G g T b) : va_P (gD G) kcl (wsT G g' T') H := by
  refine wsT_P hP (fun b x hb hx => ?_)
  by_cases hba : b = a
  · subst hba
    rw [ha] at hx
    cases hx
    exact mem_set_self hk
  · rw [ho b hba] at hx
    obtain ⟨j, hj⟩ := wsT_get hx (by rw [← hn]; exact hb)
    exact mem_set_ne hk (List.mem_of_getElem? hj) hba
/-- one cell made -/
theorem wsT_push {G : GP} {g g' : GG} {T T' : TS} {H : Heap} {q : Nat} {e : va_E} (hP : va_P (gD G) kcl (wsT G g T ++ [(q, e)]) H) (hq : q = tn T) (hn : tn T' = tn T + 1) (ha : cel G g' T' q = some e) (ho : ∀ b, b < tn T → cel G g' T' b = cel G g T b) : va_P (gD G) kcl (wsT G g' T') H := by
  refine wsT_P hP (fun b x hb hx => ?_)
  by_cases hba : b = q
  · subst hba
    rw [ha] at hx
    cases hx
    exact List.mem_append_right _ List.mem_cons_self
  · have hb2 : b < tn T := by omega
    rw [ho b hb2] at hx
    obtain ⟨j, hj⟩ := wsT_get hx hb2
    exact List.mem_append_left _ (List.mem_of_getElem? hj)
/-- an object's place in the world -/
theorem cel_obj {G : GP} {g : GG} {T : TS} {a c : Nat} (h : tK T a = c + 1) (hc : c < 9) : cel G g T a = some (.inr (c, flds T c a)) := by
  unfold cel
  rw [h, if_neg (by omega), if_pos (by omega)]
  simp
theorem kcl_at {c : Nat} (hc : c < 9) : kcl[c]? = some (RN c, TN c, NN c) := by
  have h : ∀ c, c < 9 → kcl[c]? = some (RN c, TN c, NN c) := by
    intro c hc
    match c, hc with
    | 0, _ => rfl
    | 1, _ => rfl
    | 2, _ => rfl
    | 3, _ => rfl
    | 4, _ => rfl
    | 5, _ => rfl
    | 6, _ => rfl
    | 7, _ => rfl
    | 8, _ => rfl
    | k + 9, h => omega
  exact h c hc
theorem flds_get {T : TS} {c a k : Nat} (hk : k < NN c) : (flds T c a)[k]? = some (fvl T c a k) := by
  unfold flds
  rw [List.getElem?_map, List.getElem?_range hk]
  rfl
theorem flds_len {T : TS} {c a : Nat} : (flds T c a).length = NN c := by unfold flds; simp
