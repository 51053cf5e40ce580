/-! places of the locals: rows that simp can use -/
theorem ldI_ne {j k : Nat} {x : Int32} {l : Loc0} (h : ¬ j = k) : ldel ((j, .int x) :: l) k = (j, .int x) :: ldel l k := by
  rw [ldel_cons, if_neg (fun q => q.elim h (fun z => by cases z.2))]
theorem ldI_eq {k : Nat} {x : Int32} {l : Loc0} : ldel ((k, .int x) :: l) k = ldel l k := by
  rw [ldel_cons, if_pos (Or.inl rfl)]
theorem ldR_ne {j k : Nat} {x : Nat} {l : Loc0} (h : ¬ j = k) : ldel ((j, .ref x) :: l) k = (j, .ref x) :: ldel l k := by
  rw [ldel_cons, if_neg (fun q => q.elim h (fun z => by cases z.2))]
theorem ldR_eq {k : Nat} {x : Nat} {l : Loc0} : ldel ((k, .ref x) :: l) k = ldel l k := by
  rw [ldel_cons, if_pos (Or.inl rfl)]
theorem ldD_ne {j k : Nat} {x : UInt64} {l : Loc0} (h : ¬ j = k) (h2 : ¬ j + 1 = k) : ldel ((j, .double x) :: l) k = (j, .double x) :: ldel l k := by
  rw [ldel_cons, if_neg (fun q => q.elim h (fun z => h2 z.1))]
theorem ldJ_ne {j k : Nat} {x : Int64} {l : Loc0} (h : ¬ j = k) (h2 : ¬ j + 1 = k) : ldel ((j, .long x) :: l) k = (j, .long x) :: ldel l k := by
  rw [ldel_cons, if_neg (fun q => q.elim h (fun q => h2 q.1))]
/-! loads without a binder: what stands there is read as it is -/
def isI (o : Option Value) : Prop := match o with
  | some (.int _) => True
  | _ => False
def vI (o : Option Value) : Int32 := match o with
  | some (.int x) => x
  | _ => 0
def isR (o : Option Value) : Prop := match o with
  | some (.ref _) => True
  | some .null => True
  | _ => False
def vR (o : Option Value) : Value := match o with
  | some v => v
  | none => .null
def isJ (o : Option Value) : Prop := match o with
  | some (.long _) => True
  | _ => False
def vJ (o : Option Value) : Int64 := match o with
  | some (.long x) => x
  | _ => 0
theorem isI_some {x : Int32} : isI (some (.int x)) = True := rfl
theorem vI_some {x : Int32} : vI (some (.int x)) = x := rfl
theorem isR_ref {x : Nat} : isR (some (.ref x)) = True := rfl
theorem isR_null : isR (some .null) = True := rfl
theorem vR_ref {x : Nat} : vR (some (.ref x)) = .ref x := rfl
theorem vR_null : vR (some .null) = .null := rfl
theorem isJ_some {x : Int64} : isJ (some (.long x)) = True := rfl
theorem vJ_some {x : Int64} : vJ (some (.long x)) = x := rfl
theorem lI_eq {o : Option Value} {f : Int32 → Prop} : lI o f ↔ isI o ∧ f (vI o) := by
  cases o with
  | none => exact ⟨fun h => h.elim, fun h => h.1.elim⟩
  | some v => cases v <;> first | exact ⟨fun h => ⟨trivial, h⟩, fun h => h.2⟩ | exact ⟨fun h => h.elim, fun h => h.1.elim⟩
theorem lR_eq {o : Option Value} {f : Value → Prop} : lR o f ↔ isR o ∧ f (vR o) := by
  cases o with
  | none => exact ⟨fun h => h.elim, fun h => h.1.elim⟩
  | some v => cases v <;> first | exact ⟨fun h => ⟨trivial, h⟩, fun h => h.2⟩ | exact ⟨fun h => h.elim, fun h => h.1.elim⟩
theorem lJ_eq {o : Option Value} {f : Int64 → Prop} : lJ o f ↔ isJ o ∧ f (vJ o) := by
  cases o with
  | none => exact ⟨fun h => h.elim, fun h => h.1.elim⟩
  | some v => cases v <;> first | exact ⟨fun h => ⟨trivial, h⟩, fun h => h.2⟩ | exact ⟨fun h => h.elim, fun h => h.1.elim⟩
section LDS
variable {d : Nat} {M : MI} {hs : Hn} {pc pc' : Nat} {l : Loc0} {st : List Value} {T : TS} {Q : Post}
theorem ev_iloadS {k : Nat} (hd : decode M.2.1 pc = .ok (.iload k, 2)) (hp : pc + 2 = pc') : Ev d M hs pc l st T Q ↔ isI (lget l k) ∧ Ev d M hs pc' l (.int (vI (lget l k)) :: st) T Q := (ev_iload hd hp).trans lI_eq
theorem ev_aloadS {k : Nat} (hd : decode M.2.1 pc = .ok (.aload k, 2)) (hp : pc + 2 = pc') : Ev d M hs pc l st T Q ↔ isR (lget l k) ∧ Ev d M hs pc' l (vR (lget l k) :: st) T Q := (ev_aload hd hp).trans lR_eq
theorem ev_iload_nS {q : Fin 4} {k : Nat} (hk : (q : Nat) = k) (hd : decode M.2.1 pc = .ok (.iload_n q, 1)) (hp : pc + 1 = pc') : Ev d M hs pc l st T Q ↔ isI (lget l k) ∧ Ev d M hs pc' l (.int (vI (lget l k)) :: st) T Q := (ev_iload_n hk hd hp).trans lI_eq
theorem ev_aload_nS {q : Fin 4} {k : Nat} (hk : (q : Nat) = k) (hd : decode M.2.1 pc = .ok (.aload_n q, 1)) (hp : pc + 1 = pc') : Ev d M hs pc l st T Q ↔ isR (lget l k) ∧ Ev d M hs pc' l (vR (lget l k) :: st) T Q := (ev_aload_n hk hd hp).trans lR_eq
theorem ev_lload_nS {q : Fin 4} {k : Nat} (hk : (q : Nat) = k) (hd : decode M.2.1 pc = .ok (.lload_n q, 1)) (hp : pc + 1 = pc') : Ev d M hs pc l st T Q ↔ isJ (lget l k) ∧ Ev d M hs pc' l (.long (vJ (lget l k)) :: st) T Q := (ev_lload_n hk hd hp).trans lJ_eq
theorem ev_iincS {k : Nat} {n : Int} {v : Int32} (hv : Int32.ofInt n = v) (hd : decode M.2.1 pc = .ok (.iinc k n, 3)) (hn : k < M.2.2.1) (hp : pc + 3 = pc') : Ev d M hs pc l st T Q ↔ isI (lget l k) ∧ Ev d M hs pc' ((k, .int (vI (lget l k) + v)) :: ldel l k) st T Q := (ev_iinc hv hd hn hp).trans lI_eq
end LDS
/-! minus one -/
theorem m1_le {a : Nat} (h : a < 2147483648) : ((nI a) < -1) = False := eq_false (fun q => by
  have h1 := i_m1c h
  have h2 : (-1 : Int32) < nI a := h1.mpr trivial
  exact absurd (Int32.lt_trans q h2) (Int32.lt_irrefl))
theorem m1_m1 : ((-1 : Int32) < -1) = False := eq_false (Int32.lt_irrefl)
theorem m1_ge0 : ((0 : Int32) ≤ -1) = False := eq_false (by decide)
theorem eq_slf {α : Type} (a : α) : (a = a) = True := propext ⟨fun _ => trivial, fun _ => rfl⟩
/-! one instruction after the other: rows to go by, numbers in the form nI -/
theorem ifT {c : Prop} [Decidable c] {p q : Prop} (h : c) (k : p) : if c then p else q := by rw [if_pos h]; exact k
theorem ifF {c : Prop} [Decidable c] {p q : Prop} (h : ¬ c) (k : q) : if c then p else q := by rw [if_neg h]; exact k
section STPS
variable {d : Nat} {M : MI} {hs : Hn} {pc pc' : Nat} {l : Loc0} {st : List Value} {T T1 : TS} {Q : Post}
theorem eN_iload {k : Nat} {x : Int32} (hd : decode M.2.1 pc = .ok (.iload k, 2)) (hp : pc + 2 = pc') (h0 : lget l k = some (.int x)) (h : Ev d M hs pc' l (.int x :: st) T Q) : Ev d M hs pc l st T Q := by
  refine (ev_iload hd hp).mpr ?_
  rw [h0]
  exact h
theorem eN_aload {k : Nat} {x : Nat} (hd : decode M.2.1 pc = .ok (.aload k, 2)) (hp : pc + 2 = pc') (h0 : lget l k = some (.ref x)) (h : Ev d M hs pc' l (.ref x :: st) T Q) : Ev d M hs pc l st T Q := by
  refine (ev_aload hd hp).mpr ?_
  rw [h0]
  exact h
theorem eN_iload_n {q : Fin 4} {k : Nat} {x : Int32} (hk : (q : Nat) = k) (hd : decode M.2.1 pc = .ok (.iload_n q, 1)) (hp : pc + 1 = pc') (h0 : lget l k = some (.int x)) (h : Ev d M hs pc' l (.int x :: st) T Q) : Ev d M hs pc l st T Q := by
  refine (ev_iload_n hk hd hp).mpr ?_
  rw [h0]
  exact h
theorem eN_aload_n {q : Fin 4} {k : Nat} {x : Nat} (hk : (q : Nat) = k) (hd : decode M.2.1 pc = .ok (.aload_n q, 1)) (hp : pc + 1 = pc') (h0 : lget l k = some (.ref x)) (h : Ev d M hs pc' l (.ref x :: st) T Q) : Ev d M hs pc l st T Q := by
  refine (ev_aload_n hk hd hp).mpr ?_
  rw [h0]
  exact h
theorem eN_iinc {k a v : Nat} (hv : Int32.ofInt (v : Int) = nI v) (hd : decode M.2.1 pc = .ok (.iinc k v, 3)) (hn : k < M.2.2.1) (hp : pc + 3 = pc') (h0 : lget l k = some (.int (nI a))) (h : Ev d M hs pc' ((k, .int (nI (a + v))) :: ldel l k) st T Q) : Ev d M hs pc l st T Q := by
  refine (ev_iinc hv hd hn hp).mpr ?_
  rw [h0]
  show Ev d M hs pc' ((k, .int (nI a + nI v)) :: ldel l k) st T Q
  rw [nI_add]
  exact h
theorem eN_iadd {a b : Nat} (hd : decode M.2.1 pc = .ok (.iadd, 1)) (hp : pc + 1 = pc') (h : Ev d M hs pc' l (.int (nI (a + b)) :: st) T Q) : Ev d M hs pc l (.int (nI b) :: .int (nI a) :: st) T Q := by
  refine (ev_iadd hd hp).mpr ?_
  rw [nI_add]
  exact h
theorem eN_isub {a b : Nat} (hd : decode M.2.1 pc = .ok (.isub, 1)) (hp : pc + 1 = pc') (h0 : b ≤ a) (h : Ev d M hs pc' l (.int (nI (a - b)) :: st) T Q) : Ev d M hs pc l (.int (nI b) :: .int (nI a) :: st) T Q := by
  refine (ev_isub hd hp).mpr ?_
  rw [i_sub h0]
  exact h
theorem eN_imul {a b : Nat} (hd : decode M.2.1 pc = .ok (.imul, 1)) (hp : pc + 1 = pc') (h : Ev d M hs pc' l (.int (nI (a * b)) :: st) T Q) : Ev d M hs pc l (.int (nI b) :: .int (nI a) :: st) T Q := by
  refine (ev_imul hd hp).mpr ?_
  rw [i_mul]
  exact h
theorem eN_idiv {a b : Nat} (hd : decode M.2.1 pc = .ok (.idiv, 1)) (hp : pc + 1 = pc') (h1 : a < 2147483648 ∧ 0 < b ∧ b < 2147483648) (h : Ev d M hs pc' l (.int (nI (a / b)) :: st) T Q) : Ev d M hs pc l (.int (nI b) :: .int (nI a) :: st) T Q := by
  refine (ev_idiv hd hp).mpr ⟨fun q => ?_, ?_⟩
  · rw [i_eq0 h1.2.2] at q; omega
  · rw [i_div h1.1 h1.2.1 h1.2.2]
    exact h
theorem eN_irem {a b : Nat} (hd : decode M.2.1 pc = .ok (.irem, 1)) (hp : pc + 1 = pc') (h1 : a < 2147483648 ∧ 0 < b ∧ b < 2147483648) (h : Ev d M hs pc' l (.int (nI (a % b)) :: st) T Q) : Ev d M hs pc l (.int (nI b) :: .int (nI a) :: st) T Q := by
  refine (ev_irem hd hp).mpr ⟨fun q => ?_, ?_⟩
  · rw [i_eq0 h1.2.2] at q; omega
  · rw [i_rem h1.1 h1.2.1 h1.2.2]
    exact h
theorem eN_laload {a k n : Nat} (hd : decode M.2.1 pc = .ok (.laload, 1)) (hp : pc + 1 = pc') (g1 : tK T a = 22) (g2 : tl T a = n) (hk : k < n ∧ n < 2147483648) (h : Ev d M hs pc' l (.long (tJ T a k) :: st) T Q) : Ev d M hs pc l (.int (nI k) :: .ref a :: st) T Q := by
  refine (ev_lald hd hp).mpr ⟨⟨g1, ?_⟩, ?_⟩
  · rw [g2]
    exact inb hk.1 hk.2
  · rw [i_cl (by omega)]
    exact h
theorem eN_iaload {a k n : Nat} (hd : decode M.2.1 pc = .ok (.iaload, 1)) (hp : pc + 1 = pc') (g1 : tK T a = 20) (g2 : tl T a = n) (hk : k < n ∧ n < 2147483648) (h : Ev d M hs pc' l (.int (tA T a k) :: st) T Q) : Ev d M hs pc l (.int (nI k) :: .ref a :: st) T Q := by
  refine (ev_iald hd hp).mpr ⟨⟨Or.inl g1, ?_⟩, ?_⟩
  · rw [g2]
    exact inb hk.1 hk.2
  · rw [i_cl (by omega)]
    exact h
theorem eN_iastore {a k n : Nat} {v : Int32} (hd : decode M.2.1 pc = .ok (.iastore, 1)) (hp : pc + 1 = pc') (g1 : tK T a = 20) (g2 : tl T a = n) (hk : k < n ∧ n < 2147483648) (h : Ev d M hs pc' l st (sA a k v T) Q) : Ev d M hs pc l (.int v :: .int (nI k) :: .ref a :: st) T Q := by
  refine (ev_iast hd hp).mpr ⟨⟨g1, ?_⟩, ?_⟩
  · rw [g2]
    exact inb hk.1 hk.2
  · rw [i_cl (by omega)]
    exact h
theorem eN_lastore {a k n : Nat} {v : Int64} (hd : decode M.2.1 pc = .ok (.lastore, 1)) (hp : pc + 1 = pc') (g1 : tK T a = 22) (g2 : tl T a = n) (hk : k < n ∧ n < 2147483648) (h : Ev d M hs pc' l st (sJ a k v T) Q) : Ev d M hs pc l (.long v :: .int (nI k) :: .ref a :: st) T Q := by
  refine (ev_last hd hp).mpr ⟨⟨g1, ?_⟩, ?_⟩
  · rw [g2]
    exact inb hk.1 hk.2
  · rw [i_cl (by omega)]
    exact h
theorem eN_c {mid : Nat} {As As' : List Value} {v : Value} (c : Call d mid As T (.inl (some v)) T1) (e : As' = As) (h : Ev d M hs pc' l (v :: st) T1 Q) : CallQ d mid As' T (evR d M hs pc pc' l st Q) := by
  subst e
  exact (cq c _).mpr h
theorem eN_c0 {mid : Nat} {As As' : List Value} (c : Call d mid As T (.inl none) T1) (e : As' = As) (h : Ev d M hs pc' l st T1 Q) : CallQ d mid As' T (evR d M hs pc pc' l st Q) := by
  subst e
  exact (cq c _).mpr h
end STPS
