/-! runs, said by what holds at their end; a row an instruction -/
abbrev Post : Type := Out → TS → Prop
def CallQ (d mid : Nat) (As : List Value) (T : TS) (Q : Post) : Prop := ∃ r T1, Call d mid As T r T1 ∧ Q r T1
def Ev (d : Nat) (M : MI) (hs : Hn) (pc : Nat) (l : Loc0) (st : List Value) (T : TS) (Q : Post) : Prop := ∃ n out T', run (Call d) M hs n pc l st T out T' ∧ Q out T'
/-- a method's body, from its entry -/
theorem callQ_of {d mid : Nat} {As : List Value} {T : TS} {Q : Post} (M : MI) (hM : mth mid = some M) (h12 : 12 < mid) (hl : (lg_sl As).length ≤ M.2.2.1) (h : Ev d M (lwH mid) 0 (lv_args 0 As) [] T Q) : CallQ (d + 1) mid As T Q := by
  obtain ⟨n, out, T', h, hq⟩ := h
  exact ⟨out, T', Or.inr ⟨h12, M, n, hM, hl, h⟩, hq⟩
theorem callQ_lst {d mid : Nat} {As : List Value} {T T' : TS} {r : Out} {Q : Post} (h : lst mid As T r T') (hq : Q r T') : CallQ (d + 1) mid As T Q := ⟨r, T', Or.inl h, hq⟩
theorem CallQ.mono {d mid : Nat} {As : List Value} {T : TS} {Q Q' : Post} (h : CallQ d mid As T Q) (hq : ∀ r T', Q r T' → Q' r T') : CallQ d mid As T Q' := by
  obtain ⟨r, T1, h, h2⟩ := h
  exact ⟨r, T1, h, hq _ _ h2⟩
theorem Ev.mono {d : Nat} {M : MI} {hs : Hn} {pc : Nat} {l : Loc0} {st : List Value} {T : TS} {Q Q' : Post} (h : Ev d M hs pc l st T Q) (hq : ∀ r T', Q r T' → Q' r T') : Ev d M hs pc l st T Q' := by
  obtain ⟨n, r, T1, h, h2⟩ := h
  exact ⟨n, r, T1, h, hq _ _ h2⟩
section EVS
variable {d : Nat} {M : MI} {hs : Hn} {pc pc' : Nat} {l : Loc0} {st : List Value} {T : TS} {Q : Post}
theorem ev_gen {i : Instr} {len : Nat} (hd : decode M.2.1 pc = .ok (i, len)) (hl : lenOk i len) (hi : icls i = 0) : Ev d M hs pc l st T Q ↔ ∃ pc' l' st' T', step M.2.2.2.2.1 M.2.2.1 (M.1.name == "<init>") i pc l st T = some (pc', l', st', T') ∧ Ev d M hs pc' l' st' T' Q := by
  constructor
  · rintro ⟨n, out, T', h, hq⟩
    cases n with
    | zero => cases h
    | succ n =>
      obtain ⟨i9, len9, hd9, -, h⟩ := h
      cases hd.symm.trans hd9
      rw [hi] at h
      obtain ⟨pc', l', st', T1, h1, h2⟩ := h
      exact ⟨pc', l', st', T1, h1, n, out, T', h2, hq⟩
  · rintro ⟨pc', l', st', T1, h1, n, out, T', h2, hq⟩
    refine ⟨n + 1, out, T', ⟨i, len, hd, hl, ?_⟩, hq⟩
    rw [hi]
    exact ⟨pc', l', st', T1, h1, h2⟩
def evO (d : Nat) (M : MI) (hs : Hn) (Q : Post) (o : Option Cfg) : Prop := match o with
  | some c => Ev d M hs c.1 c.2.1 c.2.2.1 c.2.2.2 Q
  | none => False
theorem ev_o {i : Instr} {len : Nat} (hd : decode M.2.1 pc = .ok (i, len)) (hl : lenOk i len) (hi : icls i = 0) : Ev d M hs pc l st T Q ↔ evO d M hs Q (step M.2.2.2.2.1 M.2.2.1 (M.1.name == "<init>") i pc l st T) := by
  rw [ev_gen hd hl hi]
  cases step M.2.2.2.2.1 M.2.2.1 (M.1.name == "<init>") i pc l st T with
  | none => exact ⟨fun ⟨_, _, _, _, h, _⟩ => (by cases h), fun h => h.elim⟩
  | some c => exact ⟨fun ⟨_, _, _, _, h, h2⟩ => by cases h; exact h2, fun h => ⟨_, _, _, _, rfl, h⟩⟩
/-- a step that the store determines -/
theorem ev_one {i : Instr} {len : Nat} {l' : Loc0} {st' : List Value} {T' : TS} (hd : decode M.2.1 pc = .ok (i, len)) (hl : lenOk i len) (hi : icls i = 0) (h : step M.2.2.2.2.1 M.2.2.1 (M.1.name == "<init>") i pc l st T = some (pc', l', st', T')) : Ev d M hs pc l st T Q ↔ Ev d M hs pc' l' st' T' Q := by
  rw [ev_gen hd hl hi, h]
  constructor
  · rintro ⟨a, b, c, e, h1, h2⟩
    cases h1
    exact h2
  · intro h2
    exact ⟨_, _, _, _, rfl, h2⟩
/-- a step that wants a condition -/
theorem ev_if {i : Instr} {len : Nat} {l' : Loc0} {st' : List Value} {T' : TS} {c : Prop} [Decidable c] (hd : decode M.2.1 pc = .ok (i, len)) (hl : lenOk i len) (hi : icls i = 0) (h : step M.2.2.2.2.1 M.2.2.1 (M.1.name == "<init>") i pc l st T = if c then some (pc', l', st', T') else none) : Ev d M hs pc l st T Q ↔ c ∧ Ev d M hs pc' l' st' T' Q := by
  rw [ev_gen hd hl hi, h]
  constructor
  · rintro ⟨a, b, c, e, h1, h2⟩
    split at h1
    · rename_i hc
      cases h1
      exact ⟨hc, h2⟩
    · cases h1
  · rintro ⟨hc, h2⟩
    exact ⟨_, _, _, _, if_pos hc, h2⟩
theorem ev_iconst {n : Int} {v : Int32} (hv : Int32.ofInt n = v) (hd : decode M.2.1 pc = .ok (.iconst n, 1)) (hp : pc + 1 = pc') : Ev d M hs pc l (st) T Q ↔ Ev d M hs pc' l (.int v :: st) T Q := by
  subst hp; subst hv
  exact ev_one hd rfl rfl rfl
theorem ev_bipush {n : Int} {v : Int32} (hv : (Int8.ofInt n).toInt32 = v) (hd : decode M.2.1 pc = .ok (.bipush n, 2)) (hp : pc + 2 = pc') : Ev d M hs pc l (st) T Q ↔ Ev d M hs pc' l (.int v :: st) T Q := by
  subst hp; subst hv
  exact ev_one hd rfl rfl rfl
theorem ev_sipush {n : Int} {v : Int32} (hv : (Int16.ofInt n).toInt32 = v) (hd : decode M.2.1 pc = .ok (.sipush n, 3)) (hp : pc + 3 = pc') : Ev d M hs pc l (st) T Q ↔ Ev d M hs pc' l (.int v :: st) T Q := by
  subst hp; subst hv
  exact ev_one hd rfl rfl rfl
theorem ev_lconst {n : Fin 2} {v : Int64} (hv : Int64.ofNat n = v) (hd : decode M.2.1 pc = .ok (.lconst n, 1)) (hp : pc + 1 = pc') : Ev d M hs pc l (st) T Q ↔ Ev d M hs pc' l (.long v :: st) T Q := by
  subst hp; subst hv
  exact ev_one hd rfl rfl rfl
theorem ev_dconst0 (hd : decode M.2.1 pc = .ok (.dconst 0, 1)) (hp : pc + 1 = pc') : Ev d M hs pc l (st) T Q ↔ Ev d M hs pc' l (.double FP.dconst0 :: st) T Q := by
  subst hp
  exact ev_one hd rfl rfl rfl
theorem ev_null (hd : decode M.2.1 pc = .ok (.aconst_null, 1)) (hp : pc + 1 = pc') : Ev d M hs pc l (st) T Q ↔ Ev d M hs pc' l (.null :: st) T Q := by
  subst hp
  exact ev_one hd rfl rfl rfl
theorem ev_iadd {x y : Int32} (hd : decode M.2.1 pc = .ok (.iadd, 1)) (hp : pc + 1 = pc') : Ev d M hs pc l (.int y :: .int x :: st) T Q ↔ Ev d M hs pc' l (.int (x + y) :: st) T Q := by
  subst hp
  exact ev_one hd rfl rfl rfl
theorem ev_isub {x y : Int32} (hd : decode M.2.1 pc = .ok (.isub, 1)) (hp : pc + 1 = pc') : Ev d M hs pc l (.int y :: .int x :: st) T Q ↔ Ev d M hs pc' l (.int (x - y) :: st) T Q := by
  subst hp
  exact ev_one hd rfl rfl rfl
theorem ev_imul {x y : Int32} (hd : decode M.2.1 pc = .ok (.imul, 1)) (hp : pc + 1 = pc') : Ev d M hs pc l (.int y :: .int x :: st) T Q ↔ Ev d M hs pc' l (.int (x * y) :: st) T Q := by
  subst hp
  exact ev_one hd rfl rfl rfl
theorem ev_iand {x y : Int32} (hd : decode M.2.1 pc = .ok (.iand, 1)) (hp : pc + 1 = pc') : Ev d M hs pc l (.int y :: .int x :: st) T Q ↔ Ev d M hs pc' l (.int (x &&& y) :: st) T Q := by
  subst hp
  exact ev_one hd rfl rfl rfl
theorem ev_i2l {x : Int32} (hd : decode M.2.1 pc = .ok (.i2l, 1)) (hp : pc + 1 = pc') : Ev d M hs pc l (.int x :: st) T Q ↔ Ev d M hs pc' l (.long x.toInt64 :: st) T Q := by
  subst hp
  exact ev_one hd rfl rfl rfl
theorem ev_i2b {x : Int32} (hd : decode M.2.1 pc = .ok (.i2b, 1)) (hp : pc + 1 = pc') : Ev d M hs pc l (.int x :: st) T Q ↔ Ev d M hs pc' l (.int x.toInt8.toInt32 :: st) T Q := by
  subst hp
  exact ev_one hd rfl rfl rfl
theorem ev_i2d {x : Int32} (hd : decode M.2.1 pc = .ok (.i2d, 1)) (hp : pc + 1 = pc') : Ev d M hs pc l (.int x :: st) T Q ↔ Ev d M hs pc' l (.double (FP.i2d x) :: st) T Q := by
  subst hp
  exact ev_one hd rfl rfl rfl
theorem ev_lcmp {x y : Int64} (hd : decode M.2.1 pc = .ok (.lcmp, 1)) (hp : pc + 1 = pc') : Ev d M hs pc l (.long y :: .long x :: st) T Q ↔ Ev d M hs pc' l (.int (lg_cmp x y) :: st) T Q := by
  subst hp
  exact ev_one hd rfl rfl rfl
theorem ev_dcmp {x y : UInt64} {op : CmpOp} (hd : decode M.2.1 pc = .ok (.dcmp op, 1)) (hp : pc + 1 = pc') : Ev d M hs pc l (.double y :: .double x :: st) T Q ↔ Ev d M hs pc' l (.int (Op.cmpValue (FP.dcmp x y) op) :: st) T Q := by
  subst hp
  exact ev_one hd rfl rfl rfl
theorem ev_dupI {x : Int32} (hd : decode M.2.1 pc = .ok (.dup, 1)) (hp : pc + 1 = pc') : Ev d M hs pc l (.int x :: st) T Q ↔ Ev d M hs pc' l (.int x :: .int x :: st) T Q := by
  subst hp
  exact ev_one hd rfl rfl rfl
theorem ev_dupR {x : Nat} (hd : decode M.2.1 pc = .ok (.dup, 1)) (hp : pc + 1 = pc') : Ev d M hs pc l (.ref x :: st) T Q ↔ Ev d M hs pc' l (.ref x :: .ref x :: st) T Q := by
  subst hp
  exact ev_one hd rfl rfl rfl
theorem ev_dup2 {y : Int32} {x : Nat} (hd : decode M.2.1 pc = .ok (.dup2, 1)) (hp : pc + 1 = pc') : Ev d M hs pc l (.int y :: .ref x :: st) T Q ↔ Ev d M hs pc' l (.int y :: .ref x :: .int y :: .ref x :: st) T Q := by
  subst hp
  exact ev_one hd rfl rfl rfl
theorem ev_popI {x : Int32} (hd : decode M.2.1 pc = .ok (.pop, 1)) (hp : pc + 1 = pc') : Ev d M hs pc l (.int x :: st) T Q ↔ Ev d M hs pc' l (st) T Q := by
  subst hp
  exact ev_one hd rfl rfl rfl
theorem ev_popR {x : Nat} (hd : decode M.2.1 pc = .ok (.pop, 1)) (hp : pc + 1 = pc') : Ev d M hs pc l (.ref x :: st) T Q ↔ Ev d M hs pc' l (st) T Q := by
  subst hp
  exact ev_one hd rfl rfl rfl
theorem ev_irem {x y : Int32} (hd : decode M.2.1 pc = .ok (.irem, 1)) (hp : pc + 1 = pc') : Ev d M hs pc l (.int y :: .int x :: st) T Q ↔ (¬ y = 0) ∧ Ev d M hs pc' l (.int (x - x / y * y) :: st) T Q := by
  subst hp
  refine ev_if hd rfl rfl ?_
  by_cases hy : y = 0
  · simp [step, stkF, hy, locF, braF, hpF]
  · simp [step, stkF, hy, ilen]
theorem ev_ddiv {x y : UInt64} (hd : decode M.2.1 pc = .ok (.ddiv, 1)) (hp : pc + 1 = pc') : Ev d M hs pc l (.double y :: .double x :: st) T Q ↔ ((FP.ddiv x y) &&& 0x7fffffffffffffff ≤ 0x7ff0000000000000) ∧ Ev d M hs pc' l (.double (FP.ddiv x y) :: st) T Q := by
  subst hp
  refine ev_if hd rfl rfl ?_
  by_cases hy : (FP.ddiv x y) &&& 0x7fffffffffffffff ≤ 0x7ff0000000000000
  · simp [step, stkF, hy, ilen]
  · simp [step, stkF, hy, locF, braF, hpF]
theorem ev_ldc {n : Nat} {v : Int32} (ho : ldcT M.2.2.2.2.1 n = some v) (hd : decode M.2.1 pc = .ok (.ldc n, 2)) (hp : pc + 2 = pc') : Ev d M hs pc l st T Q ↔ Ev d M hs pc' l (.int v :: st) T Q := by
  subst hp
  refine ev_one hd rfl rfl ?_
  simp [step, stkF, ho, ilen]
theorem ev_ldc2 (ho : M.2.2.2.2.1 = 9) (hd : decode M.2.1 pc = .ok (.ldc2_w 135, 3)) (hp : pc + 3 = pc') : Ev d M hs pc l st T Q ↔ Ev d M hs pc' l (.long (-1) :: st) T Q := by
  subst hp
  refine ev_one hd rfl rfl ?_
  simp [step, stkF, ho, ilen]
theorem ev_idiv {x y : Int32} (hd : decode M.2.1 pc = .ok (.idiv, 1)) (hp : pc + 1 = pc') : Ev d M hs pc l (.int y :: .int x :: st) T Q ↔ (¬ y = 0) ∧ Ev d M hs pc' l (.int (x / y) :: st) T Q := by
  subst hp
  refine ev_if hd rfl rfl ?_
  by_cases hy : y = 0
  · simp [step, stkF, hy, locF, braF, hpF]
  · simp [step, stkF, hy, ilen]
theorem ev_land {x y : Int64} (hd : decode M.2.1 pc = .ok (.land, 1)) (hp : pc + 1 = pc') : Ev d M hs pc l (.long y :: .long x :: st) T Q ↔ Ev d M hs pc' l (.long (x &&& y) :: st) T Q := by
  subst hp
  exact ev_one hd rfl rfl rfl
theorem ev_lor {x y : Int64} (hd : decode M.2.1 pc = .ok (.lor, 1)) (hp : pc + 1 = pc') : Ev d M hs pc l (.long y :: .long x :: st) T Q ↔ Ev d M hs pc' l (.long (x ||| y) :: st) T Q := by
  subst hp
  exact ev_one hd rfl rfl rfl
theorem ev_lxor {x y : Int64} (hd : decode M.2.1 pc = .ok (.lxor, 1)) (hp : pc + 1 = pc') : Ev d M hs pc l (.long y :: .long x :: st) T Q ↔ Ev d M hs pc' l (.long (x ^^^ y) :: st) T Q := by
  subst hp
  exact ev_one hd rfl rfl rfl
theorem ev_lshl {x : Int64} {y : Int32} (hd : decode M.2.1 pc = .ok (.lshl, 1)) (hp : pc + 1 = pc') : Ev d M hs pc l (.int y :: .long x :: st) T Q ↔ Ev d M hs pc' l (.long (x <<< (y.toInt64 &&& 63)) :: st) T Q := by
  subst hp
  exact ev_one hd rfl rfl rfl
theorem ev_lshr {x : Int64} {y : Int32} (hd : decode M.2.1 pc = .ok (.lshr, 1)) (hp : pc + 1 = pc') : Ev d M hs pc l (.int y :: .long x :: st) T Q ↔ Ev d M hs pc' l (.long (x >>> (y.toInt64 &&& 63)) :: st) T Q := by
  subst hp
  exact ev_one hd rfl rfl rfl
theorem ev_l2i {x : Int64} (hd : decode M.2.1 pc = .ok (.l2i, 1)) (hp : pc + 1 = pc') : Ev d M hs pc l (.long x :: st) T Q ↔ Ev d M hs pc' l (.int x.toInt32 :: st) T Q := by
  subst hp
  exact ev_one hd rfl rfl rfl
/-- what stands in a local place -/
def lI (o : Option Value) (f : Int32 → Prop) : Prop := match o with
  | some (.int x) => f x
  | _ => False
def lR (o : Option Value) (f : Value → Prop) : Prop := match o with
  | some (.ref x) => f (.ref x)
  | some .null => f .null
  | _ => False
def lD (o : Option Value) (f : UInt64 → Prop) : Prop := match o with
  | some (.double x) => f x
  | _ => False
def lJ (o : Option Value) (f : Int64 → Prop) : Prop := match o with
  | some (.long x) => f x
  | _ => False
theorem lJ_some {x : Int64} {f : Int64 → Prop} : lJ (some (.long x)) f ↔ f x := Iff.rfl
theorem lI_some {x : Int32} {f : Int32 → Prop} : lI (some (.int x)) f ↔ f x := Iff.rfl
theorem lR_ref {x : Nat} {f : Value → Prop} : lR (some (.ref x)) f ↔ f (.ref x) := Iff.rfl
theorem lR_null {f : Value → Prop} : lR (some .null) f ↔ f .null := Iff.rfl
theorem lD_some {x : UInt64} {f : UInt64 → Prop} : lD (some (.double x)) f ↔ f x := Iff.rfl
theorem lget_cons {j k : Nat} {v : Value} {l : Loc0} : lget ((j, v) :: l) k = if j = k then some v else lget l k := rfl
theorem ldel_cons {j k : Nat} {v : Value} {l : Loc0} : ldel ((j, v) :: l) k = if j = k ∨ (j + 1 = k ∧ v.category = 2) then ldel l k else (j, v) :: ldel l k := rfl
theorem ldel_nil {k : Nat} : ldel [] k = [] := rfl
theorem ldel2_cons {j k : Nat} {v : Value} {l : Loc0} : ldel2 ((j, v) :: l) k = if j = k ∨ j = k + 1 ∨ (j + 1 = k ∧ v.category = 2) then ldel2 l k else (j, v) :: ldel2 l k := rfl
theorem ldel2_nil {k : Nat} : ldel2 [] k = [] := rfl

theorem ev_iload {k : Nat} (hd : decode M.2.1 pc = .ok (.iload k, 2)) (hp : pc + 2 = pc') : Ev d M hs pc l st T Q ↔ lI (lget l k) (fun x => Ev d M hs pc' l (.int x :: st) T Q) := by
  subst hp
  rw [ev_o hd rfl rfl]
  cases hg : lget l k with
  | none => simp [step, stkF, locF, hg, braF, hpF, lI, evO]
  | some v => cases v <;> simp [step, stkF, locF, hg, braF, hpF, lI, ilen, evO]
theorem ev_aload {k : Nat} (hd : decode M.2.1 pc = .ok (.aload k, 2)) (hp : pc + 2 = pc') : Ev d M hs pc l st T Q ↔ lR (lget l k) (fun x => Ev d M hs pc' l (x :: st) T Q) := by
  subst hp
  rw [ev_o hd rfl rfl]
  cases hg : lget l k with
  | none => simp [step, stkF, locF, hg, braF, hpF, lR, evO]
  | some v => cases v <;> simp [step, stkF, locF, hg, braF, hpF, lR, ilen, evO]
theorem ev_dload {k : Nat} (hd : decode M.2.1 pc = .ok (.dload k, 2)) (hp : pc + 2 = pc') : Ev d M hs pc l st T Q ↔ lD (lget l k) (fun x => Ev d M hs pc' l (.double x :: st) T Q) := by
  subst hp
  rw [ev_o hd rfl rfl]
  cases hg : lget l k with
  | none => simp [step, stkF, locF, hg, braF, hpF, lD, evO]
  | some v => cases v <;> simp [step, stkF, locF, hg, braF, hpF, lD, ilen, evO]
theorem ev_lload_n {q : Fin 4} {k : Nat} (hk : (q : Nat) = k) (hd : decode M.2.1 pc = .ok (.lload_n q, 1)) (hp : pc + 1 = pc') : Ev d M hs pc l st T Q ↔ lJ (lget l k) (fun x => Ev d M hs pc' l (.long x :: st) T Q) := by
  subst hp; subst hk
  rw [ev_o hd rfl rfl]
  cases hg : lget l q with
  | none => simp [step, stkF, locF, hg, braF, hpF, lJ, evO]
  | some v => cases v <;> simp [step, stkF, locF, hg, braF, hpF, lJ, ilen, evO]
theorem ev_iload_n {q : Fin 4} {k : Nat} (hk : (q : Nat) = k) (hd : decode M.2.1 pc = .ok (.iload_n q, 1)) (hp : pc + 1 = pc') : Ev d M hs pc l st T Q ↔ lI (lget l k) (fun x => Ev d M hs pc' l (.int x :: st) T Q) := by
  subst hp; subst hk
  rw [ev_o hd rfl rfl]
  cases hg : lget l q with
  | none => simp [step, stkF, locF, hg, braF, hpF, lI, evO]
  | some v => cases v <;> simp [step, stkF, locF, hg, braF, hpF, lI, ilen, evO]
theorem ev_aload_n {q : Fin 4} {k : Nat} (hk : (q : Nat) = k) (hd : decode M.2.1 pc = .ok (.aload_n q, 1)) (hp : pc + 1 = pc') : Ev d M hs pc l st T Q ↔ lR (lget l k) (fun x => Ev d M hs pc' l (x :: st) T Q) := by
  subst hp; subst hk
  rw [ev_o hd rfl rfl]
  cases hg : lget l q with
  | none => simp [step, stkF, locF, hg, braF, hpF, lR, evO]
  | some v => cases v <;> simp [step, stkF, locF, hg, braF, hpF, lR, ilen, evO]
theorem ev_istore {k : Nat} {x : Int32} (hd : decode M.2.1 pc = .ok (.istore k, 2)) (hn : k < M.2.2.1) (hp : pc + 2 = pc') : Ev d M hs pc l (.int x :: st) T Q ↔ Ev d M hs pc' ((k, .int x) :: ldel l k) st T Q := by
  subst hp
  refine ev_one hd rfl rfl ?_
  simp [step, stkF, locF, hn, ilen]
theorem ev_astore {k : Nat} {x : Nat} (hd : decode M.2.1 pc = .ok (.astore k, 2)) (hn : k < M.2.2.1) (hp : pc + 2 = pc') : Ev d M hs pc l (.ref x :: st) T Q ↔ Ev d M hs pc' ((k, .ref x) :: ldel l k) st T Q := by
  subst hp
  refine ev_one hd rfl rfl ?_
  simp [step, stkF, locF, hn, ilen]
theorem ev_astoreN {k : Nat} (hd : decode M.2.1 pc = .ok (.astore k, 2)) (hn : k < M.2.2.1) (hp : pc + 2 = pc') : Ev d M hs pc l (.null :: st) T Q ↔ Ev d M hs pc' ((k, .null) :: ldel l k) st T Q := by
  subst hp
  refine ev_one hd rfl rfl ?_
  simp [step, stkF, locF, hn, ilen]
theorem ev_istore_n {q : Fin 4} {k : Nat} {x : Int32} (hk : (q : Nat) = k) (hd : decode M.2.1 pc = .ok (.istore_n q, 1)) (hn : k < M.2.2.1) (hp : pc + 1 = pc') : Ev d M hs pc l (.int x :: st) T Q ↔ Ev d M hs pc' ((k, .int x) :: ldel l k) st T Q := by
  subst hp; subst hk
  refine ev_one hd rfl rfl ?_
  simp [step, stkF, locF, hn, ilen]
theorem ev_astore_n {q : Fin 4} {k : Nat} {x : Nat} (hk : (q : Nat) = k) (hd : decode M.2.1 pc = .ok (.astore_n q, 1)) (hn : k < M.2.2.1) (hp : pc + 1 = pc') : Ev d M hs pc l (.ref x :: st) T Q ↔ Ev d M hs pc' ((k, .ref x) :: ldel l k) st T Q := by
  subst hp; subst hk
  refine ev_one hd rfl rfl ?_
  simp [step, stkF, locF, hn, ilen]
theorem ev_astore_nN {q : Fin 4} {k : Nat} (hk : (q : Nat) = k) (hd : decode M.2.1 pc = .ok (.astore_n q, 1)) (hn : k < M.2.2.1) (hp : pc + 1 = pc') : Ev d M hs pc l (.null :: st) T Q ↔ Ev d M hs pc' ((k, .null) :: ldel l k) st T Q := by
  subst hp; subst hk
  refine ev_one hd rfl rfl ?_
  simp [step, stkF, locF, hn, ilen]
theorem ev_dstore {k : Nat} {x : UInt64} (hd : decode M.2.1 pc = .ok (.dstore k, 2)) (hn : k + 1 < M.2.2.1) (hp : pc + 2 = pc') : Ev d M hs pc l (.double x :: st) T Q ↔ Ev d M hs pc' ((k, .double x) :: ldel2 l k) st T Q := by
  subst hp
  refine ev_one hd rfl rfl ?_
  simp [step, stkF, locF, hn, ilen]
theorem ev_iinc {k : Nat} {n : Int} {v : Int32} (hv : Int32.ofInt n = v) (hd : decode M.2.1 pc = .ok (.iinc k n, 3)) (hn : k < M.2.2.1) (hp : pc + 3 = pc') : Ev d M hs pc l st T Q ↔ lI (lget l k) (fun x => Ev d M hs pc' ((k, .int (x + v)) :: ldel l k) st T Q) := by
  subst hp; subst hv
  rw [ev_o hd rfl rfl]
  cases hg : lget l k with
  | none => simp [step, stkF, locF, hg, braF, hpF, lI, evO]
  | some w => cases w <;> simp [step, stkF, locF, hg, braF, hpF, lI, ilen, hn, evO]
theorem ev_goto {off : Int} (hd : decode M.2.1 pc = .ok (.goto off, 3)) (hp : (pc : Int) + off = (pc' : Int)) : Ev d M hs pc l st T Q ↔ Ev d M hs pc' l st T Q := by
  refine ev_one hd rfl rfl ?_
  have h0 : 0 ≤ (pc : Int) + off := by omega
  have h1 : ((pc : Int) + off).toNat = pc' := by omega
  simp [step, stkF, locF, braF, jmp, h0, h1]
theorem ev_br {i : Instr} {st' : List Value} {t f : Nat} {c : Prop} [Decidable c] (hd : decode M.2.1 pc = .ok (i, 3)) (hl : lenOk i 3) (hi : icls i = 0) (h1 : stkF M.2.2.2.2.1 i st = none) (h2 : locF M.2.2.1 i l st = none) (h3 : braF i pc st = some (if c then t else f, st')) : Ev d M hs pc l st T Q ↔ if c then Ev d M hs t l st' T Q else Ev d M hs f l st' T Q := by
  rw [ev_gen hd hl hi]
  simp only [step, h1, h2, h3]
  split
  · constructor
    · rintro ⟨a, b, c, e, q1, q2⟩; cases q1; exact q2
    · intro q; exact ⟨_, _, _, _, rfl, q⟩
  · constructor
    · rintro ⟨a, b, c, e, q1, q2⟩; cases q1; exact q2
    · intro q; exact ⟨_, _, _, _, rfl, q⟩
theorem ev_icmp_eq {x y : Int32} {off : Int} {t : Nat} (hd : decode M.2.1 pc = .ok (.if_icmp .eq off, 3)) (ht : (pc : Int) + off = (t : Int)) (hp : pc + 3 = pc') : Ev d M hs pc l (.int y :: .int x :: st) T Q ↔ if x = y then Ev d M hs t l st T Q else Ev d M hs pc' l st T Q := by
  subst hp
  refine ev_br hd rfl rfl rfl rfl ?_
  have h0 : 0 ≤ (pc : Int) + off := by omega
  have h1 : ((pc : Int) + off).toNat = t := by omega
  simp [braF, cmpB, h0, h1]
theorem ev_if_eq {x : Int32} {off : Int} {t : Nat} (hd : decode M.2.1 pc = .ok (.ifCond .eq off, 3)) (ht : (pc : Int) + off = (t : Int)) (hp : pc + 3 = pc') : Ev d M hs pc l (.int x :: st) T Q ↔ if x = 0 then Ev d M hs t l st T Q else Ev d M hs pc' l st T Q := by
  subst hp
  refine ev_br hd rfl rfl rfl rfl ?_
  have h0 : 0 ≤ (pc : Int) + off := by omega
  have h1 : ((pc : Int) + off).toNat = t := by omega
  simp [braF, cmpB, h0, h1]
theorem ev_icmp_ne {x y : Int32} {off : Int} {t : Nat} (hd : decode M.2.1 pc = .ok (.if_icmp .ne off, 3)) (ht : (pc : Int) + off = (t : Int)) (hp : pc + 3 = pc') : Ev d M hs pc l (.int y :: .int x :: st) T Q ↔ if ¬ x = y then Ev d M hs t l st T Q else Ev d M hs pc' l st T Q := by
  subst hp
  refine ev_br hd rfl rfl rfl rfl ?_
  have h0 : 0 ≤ (pc : Int) + off := by omega
  have h1 : ((pc : Int) + off).toNat = t := by omega
  simp [braF, cmpB, h0, h1]
theorem ev_if_ne {x : Int32} {off : Int} {t : Nat} (hd : decode M.2.1 pc = .ok (.ifCond .ne off, 3)) (ht : (pc : Int) + off = (t : Int)) (hp : pc + 3 = pc') : Ev d M hs pc l (.int x :: st) T Q ↔ if ¬ x = 0 then Ev d M hs t l st T Q else Ev d M hs pc' l st T Q := by
  subst hp
  refine ev_br hd rfl rfl rfl rfl ?_
  have h0 : 0 ≤ (pc : Int) + off := by omega
  have h1 : ((pc : Int) + off).toNat = t := by omega
  simp [braF, cmpB, h0, h1]
theorem ev_icmp_lt {x y : Int32} {off : Int} {t : Nat} (hd : decode M.2.1 pc = .ok (.if_icmp .lt off, 3)) (ht : (pc : Int) + off = (t : Int)) (hp : pc + 3 = pc') : Ev d M hs pc l (.int y :: .int x :: st) T Q ↔ if x < y then Ev d M hs t l st T Q else Ev d M hs pc' l st T Q := by
  subst hp
  refine ev_br hd rfl rfl rfl rfl ?_
  have h0 : 0 ≤ (pc : Int) + off := by omega
  have h1 : ((pc : Int) + off).toNat = t := by omega
  simp [braF, cmpB, h0, h1]
theorem ev_if_lt {x : Int32} {off : Int} {t : Nat} (hd : decode M.2.1 pc = .ok (.ifCond .lt off, 3)) (ht : (pc : Int) + off = (t : Int)) (hp : pc + 3 = pc') : Ev d M hs pc l (.int x :: st) T Q ↔ if x < 0 then Ev d M hs t l st T Q else Ev d M hs pc' l st T Q := by
  subst hp
  refine ev_br hd rfl rfl rfl rfl ?_
  have h0 : 0 ≤ (pc : Int) + off := by omega
  have h1 : ((pc : Int) + off).toNat = t := by omega
  simp [braF, cmpB, h0, h1]
theorem ev_icmp_ge {x y : Int32} {off : Int} {t : Nat} (hd : decode M.2.1 pc = .ok (.if_icmp .ge off, 3)) (ht : (pc : Int) + off = (t : Int)) (hp : pc + 3 = pc') : Ev d M hs pc l (.int y :: .int x :: st) T Q ↔ if y ≤ x then Ev d M hs t l st T Q else Ev d M hs pc' l st T Q := by
  subst hp
  refine ev_br hd rfl rfl rfl rfl ?_
  have h0 : 0 ≤ (pc : Int) + off := by omega
  have h1 : ((pc : Int) + off).toNat = t := by omega
  simp [braF, cmpB, h0, h1]
theorem ev_if_ge {x : Int32} {off : Int} {t : Nat} (hd : decode M.2.1 pc = .ok (.ifCond .ge off, 3)) (ht : (pc : Int) + off = (t : Int)) (hp : pc + 3 = pc') : Ev d M hs pc l (.int x :: st) T Q ↔ if 0 ≤ x then Ev d M hs t l st T Q else Ev d M hs pc' l st T Q := by
  subst hp
  refine ev_br hd rfl rfl rfl rfl ?_
  have h0 : 0 ≤ (pc : Int) + off := by omega
  have h1 : ((pc : Int) + off).toNat = t := by omega
  simp [braF, cmpB, h0, h1]
theorem ev_icmp_gt {x y : Int32} {off : Int} {t : Nat} (hd : decode M.2.1 pc = .ok (.if_icmp .gt off, 3)) (ht : (pc : Int) + off = (t : Int)) (hp : pc + 3 = pc') : Ev d M hs pc l (.int y :: .int x :: st) T Q ↔ if y < x then Ev d M hs t l st T Q else Ev d M hs pc' l st T Q := by
  subst hp
  refine ev_br hd rfl rfl rfl rfl ?_
  have h0 : 0 ≤ (pc : Int) + off := by omega
  have h1 : ((pc : Int) + off).toNat = t := by omega
  simp [braF, cmpB, h0, h1]
theorem ev_if_gt {x : Int32} {off : Int} {t : Nat} (hd : decode M.2.1 pc = .ok (.ifCond .gt off, 3)) (ht : (pc : Int) + off = (t : Int)) (hp : pc + 3 = pc') : Ev d M hs pc l (.int x :: st) T Q ↔ if 0 < x then Ev d M hs t l st T Q else Ev d M hs pc' l st T Q := by
  subst hp
  refine ev_br hd rfl rfl rfl rfl ?_
  have h0 : 0 ≤ (pc : Int) + off := by omega
  have h1 : ((pc : Int) + off).toNat = t := by omega
  simp [braF, cmpB, h0, h1]
theorem ev_icmp_le {x y : Int32} {off : Int} {t : Nat} (hd : decode M.2.1 pc = .ok (.if_icmp .le off, 3)) (ht : (pc : Int) + off = (t : Int)) (hp : pc + 3 = pc') : Ev d M hs pc l (.int y :: .int x :: st) T Q ↔ if x ≤ y then Ev d M hs t l st T Q else Ev d M hs pc' l st T Q := by
  subst hp
  refine ev_br hd rfl rfl rfl rfl ?_
  have h0 : 0 ≤ (pc : Int) + off := by omega
  have h1 : ((pc : Int) + off).toNat = t := by omega
  simp [braF, cmpB, h0, h1]
theorem ev_if_le {x : Int32} {off : Int} {t : Nat} (hd : decode M.2.1 pc = .ok (.ifCond .le off, 3)) (ht : (pc : Int) + off = (t : Int)) (hp : pc + 3 = pc') : Ev d M hs pc l (.int x :: st) T Q ↔ if x ≤ 0 then Ev d M hs t l st T Q else Ev d M hs pc' l st T Q := by
  subst hp
  refine ev_br hd rfl rfl rfl rfl ?_
  have h0 : 0 ≤ (pc : Int) + off := by omega
  have h1 : ((pc : Int) + off).toNat = t := by omega
  simp [braF, cmpB, h0, h1]
theorem ev_acmp_ne {x y : Nat} {off : Int} {t : Nat} (hd : decode M.2.1 pc = .ok (.if_acmp .ne off, 3)) (ht : (pc : Int) + off = (t : Int)) (hp : pc + 3 = pc') : Ev d M hs pc l (.ref y :: .ref x :: st) T Q ↔ if x = y then Ev d M hs pc' l st T Q else Ev d M hs t l st T Q := by
  subst hp
  refine ev_br hd rfl rfl rfl rfl ?_
  have h0 : 0 ≤ (pc : Int) + off := by omega
  have h1 : ((pc : Int) + off).toNat = t := by omega
  simp [braF, h0, h1]
theorem ev_ifnull {x : Nat} {off : Int} (hd : decode M.2.1 pc = .ok (.ifnull off, 3)) (hp : pc + 3 = pc') : Ev d M hs pc l (.ref x :: st) T Q ↔ Ev d M hs pc' l st T Q := by
  subst hp
  exact ev_one hd rfl rfl rfl
theorem ev_ifnullN {off : Int} (hd : decode M.2.1 pc = .ok (.ifnull off, 3)) (hp : (pc : Int) + off = (pc' : Int)) : Ev d M hs pc l (.null :: st) T Q ↔ Ev d M hs pc' l st T Q := by
  refine ev_one hd rfl rfl ?_
  have h0 : 0 ≤ (pc : Int) + off := by omega
  have h1 : ((pc : Int) + off).toNat = pc' := by omega
  simp [step, stkF, locF, braF, jmp, h0, h1]
theorem ev_ifnonnull {x : Nat} {off : Int} (hd : decode M.2.1 pc = .ok (.ifnonnull off, 3)) (hp : (pc : Int) + off = (pc' : Int)) : Ev d M hs pc l (.ref x :: st) T Q ↔ Ev d M hs pc' l st T Q := by
  refine ev_one hd rfl rfl ?_
  have h0 : 0 ≤ (pc : Int) + off := by omega
  have h1 : ((pc : Int) + off).toNat = pc' := by omega
  simp [step, stkF, locF, braF, jmp, h0, h1]
theorem ev_ifnonnullN {off : Int} (hd : decode M.2.1 pc = .ok (.ifnonnull off, 3)) (hp : pc + 3 = pc') : Ev d M hs pc l (.null :: st) T Q ↔ Ev d M hs pc' l st T Q := by
  subst hp
  exact ev_one hd rfl rfl rfl

theorem ev_getI {a : Nat} {idx c k f kk : Nat} (hf : fldOf M.2.2.2.2.1 idx = some (c, k)) (he : 32 * c + k = f) (hk : c + 1 = kk) (hi : fI c k = true) (hd : decode M.2.1 pc = .ok (.getfield idx, 3)) (hp : pc + 3 = pc') : Ev d M hs pc l (.ref a :: st) T Q ↔ (tK T a = kk) ∧ Ev d M hs pc' l (.int (tI T f a) :: st) (T) Q := by
  subst hp; subst he; subst hk
  refine ev_if hd rfl rfl ?_
  by_cases h9 : tK T a = c + 1
  · rw [if_pos h9]
    simp only [step, stkF, locF, braF, hpF, ilen, hf, Option.bind_some, if_pos h9, hi, if_true, Bool.false_eq_true, if_false]
  · rw [if_neg h9]
    simp only [step, stkF, locF, braF, hpF, ilen, hf, Option.bind_some, if_neg h9]
theorem ev_getR {a : Nat} {idx c k f kk : Nat} (hf : fldOf M.2.2.2.2.1 idx = some (c, k)) (he : 32 * c + k = f) (hk : c + 1 = kk) (hi : fI c k = false) (hd : decode M.2.1 pc = .ok (.getfield idx, 3)) (hp : pc + 3 = pc') : Ev d M hs pc l (.ref a :: st) T Q ↔ (tK T a = kk) ∧ Ev d M hs pc' l (va_rf (tR T f a) :: st) (T) Q := by
  subst hp; subst he; subst hk
  refine ev_if hd rfl rfl ?_
  by_cases h9 : tK T a = c + 1
  · rw [if_pos h9]
    simp only [step, stkF, locF, braF, hpF, ilen, hf, Option.bind_some, if_pos h9, hi, if_true, Bool.false_eq_true, if_false]
  · rw [if_neg h9]
    simp only [step, stkF, locF, braF, hpF, ilen, hf, Option.bind_some, if_neg h9]
theorem ev_putI {a : Nat} {v : Int32} {idx c k f kk : Nat} (hf : fldOf M.2.2.2.2.1 idx = some (c, k)) (he : 32 * c + k = f) (hk : c + 1 = kk) (hi : fI c k = true) (hw : (fF c k == false || ((M.1.name == "<init>") && decide (c = M.2.2.2.2.1))) = true) (hd : decode M.2.1 pc = .ok (.putfield idx, 3)) (hp : pc + 3 = pc') : Ev d M hs pc l (.int v :: .ref a :: st) T Q ↔ (tK T a = kk) ∧ Ev d M hs pc' l st (sI f a v T) Q := by
  subst hp; subst he; subst hk
  refine ev_if hd rfl rfl ?_
  have hw2 : fF c k = false ∨ ((M.1.name == "<init>") = true ∧ c = M.2.2.2.2.1) := by
    rcases Bool.or_eq_true _ _ |>.mp hw with h | h
    · exact Or.inl (eq_of_beq h)
    · rw [Bool.and_eq_true, decide_eq_true_eq] at h
      exact Or.inr h
  have key : ∀ (A : Prop), (A ∧ (fI c k = true) ∧ (fF c k = false ∨ ((M.1.name == "<init>") = true ∧ c = M.2.2.2.2.1))) ↔ A := fun A => ⟨fun h => h.1, fun h => ⟨h, hi, hw2⟩⟩
  simp only [step, stkF, locF, braF, hpF, ilen, hf, Option.bind_some, key]
  by_cases h9 : tK T a = c + 1
  · rw [if_pos h9, if_pos h9]
  · rw [if_neg h9, if_neg h9]
theorem ev_putR {a : Nat} {v : Nat} {idx c k f kk : Nat} (hf : fldOf M.2.2.2.2.1 idx = some (c, k)) (he : 32 * c + k = f) (hk : c + 1 = kk) (hi : fI c k = false) (hw : (fF c k == false || ((M.1.name == "<init>") && decide (c = M.2.2.2.2.1))) = true) (hd : decode M.2.1 pc = .ok (.putfield idx, 3)) (hp : pc + 3 = pc') : Ev d M hs pc l (.ref v :: .ref a :: st) T Q ↔ (tK T a = kk) ∧ Ev d M hs pc' l st (sR f a (some v) T) Q := by
  subst hp; subst he; subst hk
  refine ev_if hd rfl rfl ?_
  have hw2 : fF c k = false ∨ ((M.1.name == "<init>") = true ∧ c = M.2.2.2.2.1) := by
    rcases Bool.or_eq_true _ _ |>.mp hw with h | h
    · exact Or.inl (eq_of_beq h)
    · rw [Bool.and_eq_true, decide_eq_true_eq] at h
      exact Or.inr h
  have key : ∀ (A : Prop), (A ∧ (fI c k = false) ∧ (fF c k = false ∨ ((M.1.name == "<init>") = true ∧ c = M.2.2.2.2.1))) ↔ A := fun A => ⟨fun h => h.1, fun h => ⟨h, hi, hw2⟩⟩
  simp only [step, stkF, locF, braF, hpF, ilen, hf, Option.bind_some, key]
  by_cases h9 : tK T a = c + 1
  · rw [if_pos h9, if_pos h9]
  · rw [if_neg h9, if_neg h9]
theorem ev_putN {a : Nat} {idx c k f kk : Nat} (hf : fldOf M.2.2.2.2.1 idx = some (c, k)) (he : 32 * c + k = f) (hk : c + 1 = kk) (hi : fI c k = false) (hw : (fF c k == false || ((M.1.name == "<init>") && decide (c = M.2.2.2.2.1))) = true) (hd : decode M.2.1 pc = .ok (.putfield idx, 3)) (hp : pc + 3 = pc') : Ev d M hs pc l (.null :: .ref a :: st) T Q ↔ (tK T a = kk) ∧ Ev d M hs pc' l st (sR f a none T) Q := by
  subst hp; subst he; subst hk
  refine ev_if hd rfl rfl ?_
  have hw2 : fF c k = false ∨ ((M.1.name == "<init>") = true ∧ c = M.2.2.2.2.1) := by
    rcases Bool.or_eq_true _ _ |>.mp hw with h | h
    · exact Or.inl (eq_of_beq h)
    · rw [Bool.and_eq_true, decide_eq_true_eq] at h
      exact Or.inr h
  have key : ∀ (A : Prop), (A ∧ (fI c k = false) ∧ (fF c k = false ∨ ((M.1.name == "<init>") = true ∧ c = M.2.2.2.2.1))) ↔ A := fun A => ⟨fun h => h.1, fun h => ⟨h, hi, hw2⟩⟩
  simp only [step, stkF, locF, braF, hpF, ilen, hf, Option.bind_some, key]
  by_cases h9 : tK T a = c + 1
  · rw [if_pos h9, if_pos h9]
  · rw [if_neg h9, if_neg h9]
theorem ev_alen {a : Nat} (hd : decode M.2.1 pc = .ok (.arraylength, 1)) (hp : pc + 1 = pc') : Ev d M hs pc l (.ref a :: st) T Q ↔ (tK T a = 20 ∨ tK T a = 26) ∧ Ev d M hs pc' l (.int (nI (tl T a)) :: st) (T) Q := by
  subst hp
  refine ev_if hd rfl rfl ?_
  by_cases h9 : tK T a = 20 ∨ tK T a = 26
  · rw [if_pos h9]
    simp only [step, stkF, locF, braF, hpF, ilen, if_pos h9]
  · rw [if_neg h9]
    simp only [step, stkF, locF, braF, hpF, ilen, if_neg h9]
theorem ev_iald {a : Nat} {i : Int32} (hd : decode M.2.1 pc = .ok (.iaload, 1)) (hp : pc + 1 = pc') : Ev d M hs pc l (.int i :: .ref a :: st) T Q ↔ ((tK T a = 20 ∨ tK T a = 26) ∧ (¬ (i < 0 ∨ tl T a ≤ i.toNatClampNeg))) ∧ Ev d M hs pc' l (.int (tA T a i.toNatClampNeg) :: st) (T) Q := by
  subst hp
  refine ev_if hd rfl rfl ?_
  by_cases h9 : (tK T a = 20 ∨ tK T a = 26) ∧ (¬ (i < 0 ∨ tl T a ≤ i.toNatClampNeg))
  · rw [if_pos h9]
    simp only [step, stkF, locF, braF, hpF, ilen, if_pos h9]
  · rw [if_neg h9]
    simp only [step, stkF, locF, braF, hpF, ilen, if_neg h9]
theorem ev_lald {a : Nat} {i : Int32} (hd : decode M.2.1 pc = .ok (.laload, 1)) (hp : pc + 1 = pc') : Ev d M hs pc l (.int i :: .ref a :: st) T Q ↔ (tK T a = 22 ∧ (¬ (i < 0 ∨ tl T a ≤ i.toNatClampNeg))) ∧ Ev d M hs pc' l (.long (tJ T a i.toNatClampNeg) :: st) (T) Q := by
  subst hp
  refine ev_if hd rfl rfl ?_
  by_cases h9 : tK T a = 22 ∧ (¬ (i < 0 ∨ tl T a ≤ i.toNatClampNeg))
  · rw [if_pos h9]
    simp only [step, stkF, locF, braF, hpF, ilen, if_pos h9]
  · rw [if_neg h9]
    simp only [step, stkF, locF, braF, hpF, ilen, if_neg h9]
theorem ev_iast {a : Nat} {i v : Int32} (hd : decode M.2.1 pc = .ok (.iastore, 1)) (hp : pc + 1 = pc') : Ev d M hs pc l (.int v :: .int i :: .ref a :: st) T Q ↔ (tK T a = 20 ∧ (¬ (i < 0 ∨ tl T a ≤ i.toNatClampNeg))) ∧ Ev d M hs pc' l (st) (sA a i.toNatClampNeg v T) Q := by
  subst hp
  refine ev_if hd rfl rfl ?_
  by_cases h9 : tK T a = 20 ∧ (¬ (i < 0 ∨ tl T a ≤ i.toNatClampNeg))
  · rw [if_pos h9]
    simp only [step, stkF, locF, braF, hpF, ilen, if_pos h9]
  · rw [if_neg h9]
    simp only [step, stkF, locF, braF, hpF, ilen, if_neg h9]
theorem ev_last {a : Nat} {i : Int32} {v : Int64} (hd : decode M.2.1 pc = .ok (.lastore, 1)) (hp : pc + 1 = pc') : Ev d M hs pc l (.long v :: .int i :: .ref a :: st) T Q ↔ (tK T a = 22 ∧ (¬ (i < 0 ∨ tl T a ≤ i.toNatClampNeg))) ∧ Ev d M hs pc' l (st) (sJ a i.toNatClampNeg v T) Q := by
  subst hp
  refine ev_if hd rfl rfl ?_
  by_cases h9 : tK T a = 22 ∧ (¬ (i < 0 ∨ tl T a ≤ i.toNatClampNeg))
  · rw [if_pos h9]
    simp only [step, stkF, locF, braF, hpF, ilen, if_pos h9]
  · rw [if_neg h9]
    simp only [step, stkF, locF, braF, hpF, ilen, if_neg h9]
theorem ev_newa {n : Int32} {t : ArrayType} {k : Nat} (hk : kOf t = k) (hk0 : ¬ k = 0) (hd : decode M.2.1 pc = .ok (.newarray t, 2)) (hp : pc + 2 = pc') : Ev d M hs pc l (.int n :: st) T Q ↔ (¬ n < 0 ∧ n.toNatClampNeg ≤ 1000000) ∧ Ev d M hs pc' l (.ref (tn T) :: st) (nA k n.toNatClampNeg T) Q := by
  subst hp; subst hk
  refine ev_if hd rfl rfl ?_
  have key : (¬ n < 0 ∧ n.toNatClampNeg ≤ 1000000 ∧ kOf t ≠ 0) ↔ (¬ n < 0 ∧ n.toNatClampNeg ≤ 1000000) := ⟨fun h => ⟨h.1, h.2.1⟩, fun h => ⟨h.1, h.2, hk0⟩⟩
  simp only [step, stkF, locF, braF, hpF, ilen, key]
  by_cases h9 : ¬ n < 0 ∧ n.toNatClampNeg ≤ 1000000
  · rw [if_pos h9, if_pos h9]
  · rw [if_neg h9, if_neg h9]
theorem ev_cast {a idx c kk : Nat} (hc : clOf M.2.2.2.2.1 idx = some c) (h1 : 1 ≤ c) (h8 : c ≤ 8) (hk : c + 1 = kk) (hd : decode M.2.1 pc = .ok (.checkcast idx, 3)) (hp : pc + 3 = pc') : Ev d M hs pc l (.ref a :: st) T Q ↔ (tK T a = kk) ∧ Ev d M hs pc' l (.ref a :: st) T Q := by
  subst hp; subst hk
  refine ev_if hd rfl rfl ?_
  have key : (tK T a = c + 1 ∧ 1 ≤ c ∧ c ≤ 8) ↔ tK T a = c + 1 := ⟨fun h => h.1, fun h => ⟨h, h1, h8⟩⟩
  simp only [step, stkF, locF, braF, hpF, ilen, hc, Option.bind_some, key]
  by_cases h9 : tK T a = c + 1
  · rw [if_pos h9, if_pos h9]
  · rw [if_neg h9, if_neg h9]
/-- calls, new objects, ends -/
theorem ev_new {idx c : Nat} (hc : clOf M.2.2.2.2.1 idx = some c) (h8 : c ≤ 8) (hd : decode M.2.1 pc = .ok (.new idx, 3)) (hp : pc + 3 = pc') : Ev d M hs pc l st T Q ↔ Ev d M hs pc' l (.ref (tn T) :: st) (nO c T) Q := by
  subst hp
  constructor
  · rintro ⟨n, out, T', h, hq⟩
    cases n with
    | zero => cases h
    | succ n =>
      obtain ⟨i9, len9, hd9, -, h⟩ := h
      cases hd.symm.trans hd9
      obtain ⟨idx9, ci, hi9, hc9, h⟩ := h
      cases hi9
      cases hc.symm.trans hc9
      rcases h with ⟨-, h⟩ | ⟨-, h1, -⟩
      · exact ⟨n, out, T', h, hq⟩
      · omega
  · rintro ⟨n, out, T', h, hq⟩
    exact ⟨n + 1, out, T', ⟨_, _, hd, rfl, idx, c, rfl, hc, Or.inl ⟨h8, h⟩⟩, hq⟩
theorem ev_throw {idx c ic : Nat} (ho : M.2.2.2.2.1 = 7) (hc : clOf M.2.2.2.2.1 idx = some c) (h1 : 100 ≤ c) (h2 : c ≤ 102) (hic : (if c = 100 then 46 else if c = 101 then 53 else 73) = ic) (hd : decode M.2.1 pc = .ok (.new idx, 3)) (d3 : decode M.2.1 (pc + 3) = .ok (.dup, 1)) (d4 : decode M.2.1 (pc + 4) = .ok (.invokespecial ic, 3)) (d7 : decode M.2.1 (pc + 7) = .ok (.athrow, 1)) : Ev d M [] pc l [] T Q ↔ Q (.inr c) (nX T) := by
  constructor
  · rintro ⟨n, out, T', h, hq⟩
    cases n with
    | zero => cases h
    | succ n =>
      obtain ⟨i9, len9, hd9, -, h⟩ := h
      cases hd.symm.trans hd9
      obtain ⟨idx9, ci, hi9, hc9, h⟩ := h
      cases hi9
      cases hc.symm.trans hc9
      rcases h with ⟨h8, -⟩ | ⟨-, -, -, -, -, -, -, -, rfl, rfl⟩
      · omega
      · exact hq
  · intro hq
    exact ⟨1, _, _, ⟨_, _, hd, rfl, idx, c, rfl, hc, Or.inr ⟨ho, h1, h2, by show 0 ≤ 4; omega, d3, by rw [hic]; exact d4, d7, rfl, rfl, rfl⟩⟩, hq⟩
theorem ev_end {i : Instr} {v : Option Value} (hd : decode M.2.1 pc = .ok (i, 1)) (hl : lenOk i 1) (hi : icls i = 1) (h : endF M.2.2.2.1 i st = some v) : Ev d M hs pc l st T Q ↔ Q (.inl v) T := by
  constructor
  · rintro ⟨n, out, T', h9, hq⟩
    cases n with
    | zero => cases h9
    | succ n =>
      obtain ⟨i9, len9, hd9, -, h9⟩ := h9
      cases hd.symm.trans hd9
      rw [hi] at h9
      obtain ⟨v9, h1, rfl, rfl⟩ := h9
      cases h.symm.trans h1
      exact hq
  · intro hq
    refine ⟨1, _, _, ⟨_, _, hd, hl, ?_⟩, hq⟩
    rw [hi]
    exact ⟨v, h, rfl, rfl⟩
theorem ev_iret {x : Int32} (hr : M.2.2.2.1 = some .int) (hd : decode M.2.1 pc = .ok (.ireturn, 1)) : Ev d M hs pc l [.int x] T Q ↔ Q (.inl (some (.int x))) T := ev_end hd rfl rfl (by simp [endF, hr])
theorem ev_zret {x : Int32} (hr : M.2.2.2.1 = some .boolean) (hx : x = 0 ∨ x = 1) (hd : decode M.2.1 pc = .ok (.ireturn, 1)) : Ev d M hs pc l [.int x] T Q ↔ Q (.inl (some (.int x))) T := ev_end hd rfl rfl (by simp [endF, hr, hx])
theorem ev_aret {x : Nat} (hr : rtRef M.2.2.2.1 = true) (hd : decode M.2.1 pc = .ok (.areturn, 1)) : Ev d M hs pc l [.ref x] T Q ↔ Q (.inl (some (.ref x))) T := ev_end hd rfl rfl (by simp [endF, hr])
theorem ev_aretN (hr : rtRef M.2.2.2.1 = true) (hd : decode M.2.1 pc = .ok (.areturn, 1)) : Ev d M hs pc l [.null] T Q ↔ Q (.inl (some .null)) T := ev_end hd rfl rfl (by simp [endF, hr])
theorem ev_dret {x : UInt64} (hr : M.2.2.2.1 = some .double) (hd : decode M.2.1 pc = .ok (.dreturn, 1)) : Ev d M hs pc l [.double x] T Q ↔ Q (.inl (some (.double x))) T := ev_end hd rfl rfl (by simp [endF, hr])
theorem ev_vret (hr : M.2.2.2.1 = none) (hd : decode M.2.1 pc = .ok (.return_, 1)) : Ev d M hs pc l [] T Q ↔ Q (.inl none) T := ev_end hd rfl rfl (by simp [endF, hr])
theorem ev_objInit {a idx mid : Nat} (hc : callOf M.2.2.2.2.1 idx = some (4, mid)) (hd : decode M.2.1 pc = .ok (.invokespecial idx, 3)) (hp : pc + 3 = pc') : Ev d M hs pc l [.ref a] T Q ↔ Ev d M hs pc' l [] T Q := by
  subst hp
  constructor
  · rintro ⟨n, out, T', h, hq⟩
    cases n with
    | zero => cases h
    | succ n =>
      obtain ⟨i9, len9, hd9, -, h⟩ := h
      cases hd.symm.trans hd9
      obtain ⟨idx9, k9, mid9, hi9, hc9, -, -, h⟩ := h
      cases hi9
      cases hc.symm.trans hc9
      obtain ⟨a9, st9, e9, -, h⟩ := h
      cases e9
      exact ⟨n, out, T', h, hq⟩
  · rintro ⟨n, out, T', h, hq⟩
    exact ⟨n + 1, out, T', ⟨_, _, hd, rfl, idx, 4, mid, rfl, hc, Or.inr rfl, by omega, a, [], rfl, by show 0 ≤ 4; omega, h⟩, hq⟩
theorem ev_min {x y : Int32} {idx mid : Nat} (h4 : st.length ≤ 4) (hc : callOf M.2.2.2.2.1 idx = some (5, mid)) (hd : decode M.2.1 pc = .ok (.invokestatic idx, 3)) (hp : pc + 3 = pc') : Ev d M hs pc l (.int y :: .int x :: st) T Q ↔ Ev d M hs pc' l (.int (if y < x then y else x) :: st) T Q := by
  subst hp
  constructor
  · rintro ⟨n, out, T', h, hq⟩
    cases n with
    | zero => cases h
    | succ n =>
      obtain ⟨i9, len9, hd9, -, h⟩ := h
      cases hd.symm.trans hd9
      obtain ⟨idx9, k9, mid9, hi9, hc9, -, -, h⟩ := h
      cases hi9
      cases hc.symm.trans hc9
      obtain ⟨x9, y9, st9, e9, -, h⟩ := h
      cases e9
      exact ⟨n, out, T', h, hq⟩
  · rintro ⟨n, out, T', h, hq⟩
    exact ⟨n + 1, out, T', ⟨_, _, hd, rfl, idx, 5, mid, rfl, hc, Or.inr (Or.inr rfl), by omega, x, y, st, rfl, h4, h⟩, hq⟩
/-- behind a call -/
def evR (d : Nat) (M : MI) (hs : Hn) (pc pc' : Nat) (l : Loc0) (st : List Value) (Q : Post) : Post := fun r T1 => match r with
  | .inl (some v) => Ev d M hs pc' l (v :: st) T1 Q
  | .inl none => Ev d M hs pc' l st T1 Q
  | .inr x => match hnd hs pc x with
    | none => Q (.inr x) T1
    | some h => ∃ k9 : Nat, k9 < M.2.2.1 ∧ (((∃ q : Fin 4, k9 = q ∧ decode M.2.1 h = .ok (.astore_n q, 1)) ∧ Ev d M hs (h + 1) (ldel l k9) [] T1 Q) ∨ (decode M.2.1 h = .ok (.astore k9, 2) ∧ Ev d M hs (h + 2) (ldel l k9) [] T1 Q))
theorem ev_call {i : Instr} {idx k mid : Nat} {M' : MI} {As st' st2 : List Value} (hd : decode M.2.1 pc = .ok (i, 3)) (hl : lenOk i 3) (hi : icls i = 2) (hx : cixOf i = some idx) (hc : callOf M.2.2.2.2.1 idx = some (k, mid)) (hs9 : csort i k) (hk : k ≤ 3) (hM : mth mid = some M') (hp : popN M'.2.2.2.2.2.2 st = some (As, st')) (hv : if M'.2.2.2.2.2.1 then st2 = st' else ∃ a, st' = .ref a :: st2 ∧ (k = 3 ∨ tK T a = M'.2.2.2.2.1 + 1 ∨ (tK T a = 23 ∧ M'.2.2.2.2.1 = 0))) (h4 : st2.length ≤ 4) (h : CallQ d mid (if M'.2.2.2.2.2.1 then As else st'.take 1 ++ As) T (evR d M hs pc (pc + 3) l st2 Q)) : Ev d M hs pc l st T Q := by
  have key : ∀ (r : Out) (T1 : TS), Call d mid (if M'.2.2.2.2.2.1 then As else st'.take 1 ++ As) T r T1 → ∀ (n : Nat) (out : Out) (T' : TS), (match r with
            | .inl v => run (Call d) M hs n (pc + 3) l (v.toList ++ st2) T1 out T'
            | .inr x => match hnd hs pc x with
              | none => out = .inr x ∧ T' = T1
              | some h => ∃ k9 : Nat, k9 < M.2.2.1 ∧ (((∃ q : Fin 4, k9 = q ∧ decode M.2.1 h = .ok (.astore_n q, 1)) ∧ run (Call d) M hs n (h + 1) (ldel l k9) [] T1 out T') ∨ (decode M.2.1 h = .ok (.astore k9, 2) ∧ run (Call d) M hs n (h + 2) (ldel l k9) [] T1 out T'))) → Q out T' → Ev d M hs pc l st T Q := by
    intro r T1 hcall n out T' h hq
    refine ⟨n + 1, out, T', ⟨i, 3, hd, hl, ?_⟩, hq⟩
    rw [hi]
    refine ⟨idx, k, mid, hx, hc, hs9, by omega, ?_⟩
    match k, hk with
    | 0, _ => exact ⟨M', As, st', st2, r, T1, hM, hp, hv, h4, hcall, h⟩
    | 1, _ => exact ⟨M', As, st', st2, r, T1, hM, hp, hv, h4, hcall, h⟩
    | 2, _ => exact ⟨M', As, st', st2, r, T1, hM, hp, hv, h4, hcall, h⟩
    | 3, _ => exact ⟨M', As, st', st2, r, T1, hM, hp, hv, h4, hcall, h⟩
  obtain ⟨r, T1, hcall, hr⟩ := h
  have key := key r T1 hcall
  cases r with
  | inl v =>
    cases v with
    | none =>
      obtain ⟨n, out, T', h, hq⟩ := hr
      exact key n out T' h hq
    | some v =>
      obtain ⟨n, out, T', h, hq⟩ := hr
      exact key n out T' h hq
  | inr x =>
    unfold evR at hr
    simp only at hr key
    split at hr
    · rename_i hh
      exact key 0 (.inr x) T1 (by rw [hh]; exact ⟨rfl, rfl⟩) hr
    · rename_i h9 hh
      obtain ⟨k9, hk9, ⟨ha, n, out, T', h, hq⟩ | ⟨ha, n, out, T', h, hq⟩⟩ := hr
      · exact key n out T' (by rw [hh]; exact ⟨k9, hk9, Or.inl ⟨ha, h⟩⟩) hq
      · exact key n out T' (by rw [hh]; exact ⟨k9, hk9, Or.inr ⟨ha, h⟩⟩) hq
/-- what a call wants of its receiver -/
theorem ev_call_iff {i : Instr} {idx k mid : Nat} {M' : MI} {As st' : List Value} (hd : decode M.2.1 pc = .ok (i, 3)) (hl : lenOk i 3) (hi : icls i = 2) (hx : cixOf i = some idx) (hc : callOf M.2.2.2.2.1 idx = some (k, mid)) (hs9 : csort i k) (hk : k ≤ 3) (hM : mth mid = some M') (hp : popN M'.2.2.2.2.2.2 st = some (As, st')) : Ev d M hs pc l st T Q ↔ ∃ st2, (if M'.2.2.2.2.2.1 then st2 = st' else ∃ a, st' = .ref a :: st2 ∧ (k = 3 ∨ tK T a = M'.2.2.2.2.1 + 1 ∨ (tK T a = 23 ∧ M'.2.2.2.2.1 = 0))) ∧ st2.length ≤ 4 ∧ CallQ d mid (if M'.2.2.2.2.2.1 then As else st'.take 1 ++ As) T (evR d M hs pc (pc + 3) l st2 Q) := by
  constructor
  · rintro ⟨n, out, T', h, hq⟩
    cases n with
    | zero => cases h
    | succ n =>
      obtain ⟨i9, len9, hd9, -, h⟩ := h
      cases hd.symm.trans hd9
      rw [hi] at h
      obtain ⟨idx9, k9, mid9, hi9, hc9, -, -, h⟩ := h
      cases hx.symm.trans hi9
      cases hc.symm.trans hc9
      have h : ∃ M' As st' st2 r T1, mth mid = some M' ∧ popN M'.2.2.2.2.2.2 st = some (As, st') ∧
            (if M'.2.2.2.2.2.1 then st2 = st' else ∃ a, st' = .ref a :: st2 ∧ (k = 3 ∨ tK T a = M'.2.2.2.2.1 + 1 ∨ (tK T a = 23 ∧ M'.2.2.2.2.1 = 0))) ∧ st2.length ≤ 4 ∧
            Call d mid (if M'.2.2.2.2.2.1 then As else st'.take 1 ++ As) T r T1 ∧
            match r with
            | .inl v => run (Call d) M hs n (pc + 3) l (v.toList ++ st2) T1 out T'
            | .inr x => match hnd hs pc x with
              | none => out = .inr x ∧ T' = T1
              | some h => ∃ k9 : Nat, k9 < M.2.2.1 ∧ (((∃ q : Fin 4, k9 = q ∧ decode M.2.1 h = .ok (.astore_n q, 1)) ∧ run (Call d) M hs n (h + 1) (ldel l k9) [] T1 out T') ∨ (decode M.2.1 h = .ok (.astore k9, 2) ∧ run (Call d) M hs n (h + 2) (ldel l k9) [] T1 out T')) := by
        match k, hk, h with
        | 0, _, h => exact h
        | 1, _, h => exact h
        | 2, _, h => exact h
        | 3, _, h => exact h
      obtain ⟨M9, As9, st9, st2, r, T1, hM9, hp9, hv, h4, hcall, h⟩ := h
      cases hM.symm.trans hM9
      cases hp.symm.trans hp9
      refine ⟨st2, hv, h4, r, T1, hcall, ?_⟩
      cases r with
      | inl v =>
        cases v with
        | none => exact ⟨n, out, T', h, hq⟩
        | some v => exact ⟨n, out, T', h, hq⟩
      | inr x =>
        unfold evR
        simp only at h ⊢
        split at h
        · rename_i hh
          obtain ⟨rfl, rfl⟩ := h
          exact hq
        · rename_i h9 hh
          obtain ⟨k9, hk9, ⟨ha, h⟩ | ⟨ha, h⟩⟩ := h
          · exact ⟨k9, hk9, Or.inl ⟨ha, n, out, T', h, hq⟩⟩
          · exact ⟨k9, hk9, Or.inr ⟨ha, n, out, T', h, hq⟩⟩
  · rintro ⟨st2, hv, h4, h⟩
    exact ev_call hd hl hi hx hc hs9 hk hM hp hv h4 h
theorem ev_cV {idx mid kk : Nat} {M' : MI} {As st2 : List Value} {a : Nat} (hd : decode M.2.1 pc = .ok (.invokevirtual idx, 3)) (hc : callOf M.2.2.2.2.1 idx = some (0, mid)) (hM : mth mid = some M') (hst : M'.2.2.2.2.2.1 = false) (ho : M'.2.2.2.2.1 + 1 = kk) (h1 : 1 < kk) (hp : popN M'.2.2.2.2.2.2 st = some (As, .ref a :: st2)) (h4 : st2.length ≤ 4) (hp' : pc + 3 = pc') : Ev d M hs pc l st T Q ↔ (tK T a = kk) ∧ CallQ d mid (.ref a :: As) T (evR d M hs pc pc' l st2 Q) := by
  subst hp'; subst ho
  rw [ev_call_iff hd rfl rfl rfl hc rfl (by omega) hM hp, hst]
  simp only [Bool.false_eq_true, if_false]
  constructor
  · rintro ⟨st3, ⟨a9, e9, hz⟩, h4, h⟩
    cases e9
    rcases hz with hz | hz | ⟨-, hz⟩
    · cases hz
    · exact ⟨hz, h⟩
    · omega
  · rintro ⟨hz, h⟩
    exact ⟨st2, ⟨a, rfl, Or.inr (Or.inl hz)⟩, h4, h⟩
theorem ev_cL {idx mid : Nat} {M' : MI} {As st2 : List Value} {a : Nat} (hd : decode M.2.1 pc = .ok (.invokevirtual idx, 3)) (hc : callOf M.2.2.2.2.1 idx = some (0, mid)) (hM : mth mid = some M') (hst : M'.2.2.2.2.2.1 = false) (ho : M'.2.2.2.2.1 = 0) (hp : popN M'.2.2.2.2.2.2 st = some (As, .ref a :: st2)) (h4 : st2.length ≤ 4) (hp' : pc + 3 = pc') : Ev d M hs pc l st T Q ↔ (tK T a = 1 ∨ tK T a = 23) ∧ CallQ d mid (.ref a :: As) T (evR d M hs pc pc' l st2 Q) := by
  subst hp'
  rw [ev_call_iff hd rfl rfl rfl hc rfl (by omega) hM hp, hst, ho]
  simp only [Bool.false_eq_true, if_false]
  constructor
  · rintro ⟨st3, ⟨a9, e9, hz⟩, h4, h⟩
    cases e9
    rcases hz with hz | hz | ⟨hz, -⟩
    · cases hz
    · exact ⟨Or.inl hz, h⟩
    · exact ⟨Or.inr hz, h⟩
  · rintro ⟨hz, h⟩
    refine ⟨st2, ⟨a, rfl, Or.inr ?_⟩, h4, h⟩
    rcases hz with hz | hz
    · exact Or.inl hz
    · exact Or.inr ⟨hz, by trivial⟩
theorem ev_cI {idx mid : Nat} {M' : MI} {As st2 : List Value} {a : Nat} (hd : decode M.2.1 pc = .ok (.invokespecial idx, 3)) (hc : callOf M.2.2.2.2.1 idx = some (3, mid)) (hM : mth mid = some M') (hst : M'.2.2.2.2.2.1 = false) (hp : popN M'.2.2.2.2.2.2 st = some (As, .ref a :: st2)) (h4 : st2.length ≤ 4) (hp' : pc + 3 = pc') : Ev d M hs pc l st T Q ↔ CallQ d mid (.ref a :: As) T (evR d M hs pc pc' l st2 Q) := by
  subst hp'
  rw [ev_call_iff hd rfl rfl rfl hc (Or.inl rfl) (by omega) hM hp, hst]
  simp only [Bool.false_eq_true, if_false]
  constructor
  · rintro ⟨st3, ⟨a9, e9, hz⟩, h4, h⟩
    cases e9
    exact h
  · intro h
    exact ⟨st2, ⟨a, rfl, Or.inl trivial⟩, h4, h⟩
theorem ev_cS {idx k mid : Nat} {M' : MI} {As st2 : List Value} (hd : decode M.2.1 pc = .ok (.invokestatic idx, 3)) (hc : callOf M.2.2.2.2.1 idx = some (k, mid)) (hk : k = 1 ∨ k = 2) (hM : mth mid = some M') (hst : M'.2.2.2.2.2.1 = true) (hp : popN M'.2.2.2.2.2.2 st = some (As, st2)) (h4 : st2.length ≤ 4) (hp' : pc + 3 = pc') : Ev d M hs pc l st T Q ↔ CallQ d mid As T (evR d M hs pc pc' l st2 Q) := by
  subst hp'
  rw [ev_call_iff hd rfl rfl rfl hc (hk.elim Or.inl (fun h => Or.inr (Or.inl h))) (by omega) hM hp, hst]
  simp only [if_true]
  constructor
  · rintro ⟨st3, rfl, h4, h⟩
    exact h
  · intro h
    exact ⟨st2, rfl, h4, h⟩
theorem evR_v {v : Value} {T1 : TS} : evR d M hs pc pc' l st Q (.inl (some v)) T1 ↔ Ev d M hs pc' l (v :: st) T1 Q := Iff.rfl
theorem evR_0 {T1 : TS} : evR d M hs pc pc' l st Q (.inl none) T1 ↔ Ev d M hs pc' l st T1 Q := Iff.rfl
theorem evR_x {x : Nat} {T1 : TS} : evR d M [] pc pc' l st Q (.inr x) T1 ↔ Q (.inr x) T1 := Iff.rfl
theorem ev_len {i : Instr} {idx k mid a : Nat} {M' : MI} {As st' st2 : List Value} (hd : decode M.2.1 pc = .ok (i, 3)) (hl : lenOk i 3) (hi : icls i = 2) (hx : cixOf i = some idx) (hc : callOf M.2.2.2.2.1 idx = some (k, mid)) (hs9 : csort i k) (hk : k ≤ 3) (hM : mth mid = some M') (hp : popN M'.2.2.2.2.2.2 st = some (As, st')) (hst : M'.2.2.2.2.2.1 = false ∧ st' = .ref a :: st2) (h : Ev d M hs pc l st T Q) : st2.length ≤ 4 := by
  obtain ⟨st3, hv, h4, -⟩ := (ev_call_iff hd hl hi hx hc hs9 hk hM hp).mp h
  obtain ⟨hst, rfl⟩ := hst
  rw [hst] at hv
  simp only [Bool.false_eq_true, if_false] at hv
  obtain ⟨a9, e9, -⟩ := hv
  cases e9
  exact h4
theorem ev_lenS {i : Instr} {idx k mid : Nat} {M' : MI} {As st' : List Value} (hd : decode M.2.1 pc = .ok (i, 3)) (hl : lenOk i 3) (hi : icls i = 2) (hx : cixOf i = some idx) (hc : callOf M.2.2.2.2.1 idx = some (k, mid)) (hs9 : csort i k) (hk : k ≤ 3) (hM : mth mid = some M') (hp : popN M'.2.2.2.2.2.2 st = some (As, st')) (hst : M'.2.2.2.2.2.1 = true) (h : Ev d M hs pc l st T Q) : st'.length ≤ 4 := by
  obtain ⟨st3, hv, h4, -⟩ := (ev_call_iff hd hl hi hx hc hs9 hk hM hp).mp h
  rw [hst] at hv
  simp only [if_true] at hv
  subst hv
  exact h4
theorem ev_cV0 {idx mid kk : Nat} {M' : MI} {st2 : List Value} {a : Nat} (hd : decode M.2.1 pc = .ok (.invokevirtual idx, 3)) (hc : callOf M.2.2.2.2.1 idx = some (0, mid)) (hM : mth mid = some M') (hst : M'.2.2.2.2.2.1 = false) (ho : M'.2.2.2.2.1 + 1 = kk) (h1 : 1 < kk) (hn : M'.2.2.2.2.2.2 = 0) (hp' : pc + 3 = pc') : Ev d M hs pc l (.ref a :: st2) T Q ↔ (tK T a = kk) ∧ st2.length ≤ 4 ∧ CallQ d mid (.ref a :: []) T (evR d M hs pc pc' l st2 Q) := by
  constructor
  · intro h
    have h4 := ev_len hd rfl rfl rfl hc rfl (by omega) hM (As := []) (st' := .ref a :: st2) (by rw [hn]; rfl) ⟨hst, rfl⟩ h
    have h9 := (ev_cV hd hc hM hst ho h1 (As := []) (by rw [hn]; rfl) h4 hp').mp h
    exact ⟨h9.1, h4, h9.2⟩
  · rintro ⟨h2, h4, h3⟩
    exact (ev_cV hd hc hM hst ho h1 (by rw [hn]; rfl) h4 hp').mpr ⟨h2, h3⟩
theorem ev_cL0 {idx mid : Nat} {M' : MI} {st2 : List Value} {a : Nat} (hd : decode M.2.1 pc = .ok (.invokevirtual idx, 3)) (hc : callOf M.2.2.2.2.1 idx = some (0, mid)) (hM : mth mid = some M') (hst : M'.2.2.2.2.2.1 = false) (ho : M'.2.2.2.2.1 = 0) (hn : M'.2.2.2.2.2.2 = 0) (hp' : pc + 3 = pc') : Ev d M hs pc l (.ref a :: st2) T Q ↔ (tK T a = 1 ∨ tK T a = 23) ∧ st2.length ≤ 4 ∧ CallQ d mid (.ref a :: []) T (evR d M hs pc pc' l st2 Q) := by
  constructor
  · intro h
    have h4 := ev_len hd rfl rfl rfl hc rfl (by omega) hM (As := []) (st' := .ref a :: st2) (by rw [hn]; rfl) ⟨hst, rfl⟩ h
    have h9 := (ev_cL hd hc hM hst ho (As := []) (by rw [hn]; rfl) h4 hp').mp h
    exact ⟨h9.1, h4, h9.2⟩
  · rintro ⟨h2, h4, h3⟩
    exact (ev_cL hd hc hM hst ho (by rw [hn]; rfl) h4 hp').mpr ⟨h2, h3⟩
theorem ev_cI0 {idx mid : Nat} {M' : MI} {st2 : List Value} {a : Nat} (hd : decode M.2.1 pc = .ok (.invokespecial idx, 3)) (hc : callOf M.2.2.2.2.1 idx = some (3, mid)) (hM : mth mid = some M') (hst : M'.2.2.2.2.2.1 = false) (hn : M'.2.2.2.2.2.2 = 0) (hp' : pc + 3 = pc') : Ev d M hs pc l (.ref a :: st2) T Q ↔ st2.length ≤ 4 ∧ CallQ d mid (.ref a :: []) T (evR d M hs pc pc' l st2 Q) := by
  constructor
  · intro h
    have h4 := ev_len hd rfl rfl rfl hc (Or.inl rfl) (by omega) hM (As := []) (st' := .ref a :: st2) (by rw [hn]; rfl) ⟨hst, rfl⟩ h
    exact ⟨h4, (ev_cI hd hc hM hst (As := []) (by rw [hn]; rfl) h4 hp').mp h⟩
  · rintro ⟨h4, h3⟩
    exact (ev_cI hd hc hM hst (by rw [hn]; rfl) h4 hp').mpr h3
theorem ev_cV1 {idx mid kk : Nat} {M' : MI} {st2 : List Value} {a : Nat} {w1 : Value} (hd : decode M.2.1 pc = .ok (.invokevirtual idx, 3)) (hc : callOf M.2.2.2.2.1 idx = some (0, mid)) (hM : mth mid = some M') (hst : M'.2.2.2.2.2.1 = false) (ho : M'.2.2.2.2.1 + 1 = kk) (h1 : 1 < kk) (hn : M'.2.2.2.2.2.2 = 1) (hp' : pc + 3 = pc') : Ev d M hs pc l (w1 :: .ref a :: st2) T Q ↔ (tK T a = kk) ∧ st2.length ≤ 4 ∧ CallQ d mid (.ref a :: [w1]) T (evR d M hs pc pc' l st2 Q) := by
  constructor
  · intro h
    have h4 := ev_len hd rfl rfl rfl hc rfl (by omega) hM (As := [w1]) (st' := .ref a :: st2) (by rw [hn]; rfl) ⟨hst, rfl⟩ h
    have h9 := (ev_cV hd hc hM hst ho h1 (As := [w1]) (by rw [hn]; rfl) h4 hp').mp h
    exact ⟨h9.1, h4, h9.2⟩
  · rintro ⟨h2, h4, h3⟩
    exact (ev_cV hd hc hM hst ho h1 (by rw [hn]; rfl) h4 hp').mpr ⟨h2, h3⟩
theorem ev_cL1 {idx mid : Nat} {M' : MI} {st2 : List Value} {a : Nat} {w1 : Value} (hd : decode M.2.1 pc = .ok (.invokevirtual idx, 3)) (hc : callOf M.2.2.2.2.1 idx = some (0, mid)) (hM : mth mid = some M') (hst : M'.2.2.2.2.2.1 = false) (ho : M'.2.2.2.2.1 = 0) (hn : M'.2.2.2.2.2.2 = 1) (hp' : pc + 3 = pc') : Ev d M hs pc l (w1 :: .ref a :: st2) T Q ↔ (tK T a = 1 ∨ tK T a = 23) ∧ st2.length ≤ 4 ∧ CallQ d mid (.ref a :: [w1]) T (evR d M hs pc pc' l st2 Q) := by
  constructor
  · intro h
    have h4 := ev_len hd rfl rfl rfl hc rfl (by omega) hM (As := [w1]) (st' := .ref a :: st2) (by rw [hn]; rfl) ⟨hst, rfl⟩ h
    have h9 := (ev_cL hd hc hM hst ho (As := [w1]) (by rw [hn]; rfl) h4 hp').mp h
    exact ⟨h9.1, h4, h9.2⟩
  · rintro ⟨h2, h4, h3⟩
    exact (ev_cL hd hc hM hst ho (by rw [hn]; rfl) h4 hp').mpr ⟨h2, h3⟩
theorem ev_cI1 {idx mid : Nat} {M' : MI} {st2 : List Value} {a : Nat} {w1 : Value} (hd : decode M.2.1 pc = .ok (.invokespecial idx, 3)) (hc : callOf M.2.2.2.2.1 idx = some (3, mid)) (hM : mth mid = some M') (hst : M'.2.2.2.2.2.1 = false) (hn : M'.2.2.2.2.2.2 = 1) (hp' : pc + 3 = pc') : Ev d M hs pc l (w1 :: .ref a :: st2) T Q ↔ st2.length ≤ 4 ∧ CallQ d mid (.ref a :: [w1]) T (evR d M hs pc pc' l st2 Q) := by
  constructor
  · intro h
    have h4 := ev_len hd rfl rfl rfl hc (Or.inl rfl) (by omega) hM (As := [w1]) (st' := .ref a :: st2) (by rw [hn]; rfl) ⟨hst, rfl⟩ h
    exact ⟨h4, (ev_cI hd hc hM hst (As := [w1]) (by rw [hn]; rfl) h4 hp').mp h⟩
  · rintro ⟨h4, h3⟩
    exact (ev_cI hd hc hM hst (by rw [hn]; rfl) h4 hp').mpr h3
theorem ev_cS1 {idx k mid : Nat} {M' : MI} {st2 : List Value} {w1 : Value} (hd : decode M.2.1 pc = .ok (.invokestatic idx, 3)) (hc : callOf M.2.2.2.2.1 idx = some (k, mid)) (hk : k = 1 ∨ k = 2) (hM : mth mid = some M') (hst : M'.2.2.2.2.2.1 = true) (hn : M'.2.2.2.2.2.2 = 1) (hp' : pc + 3 = pc') : Ev d M hs pc l (w1 :: st2) T Q ↔ st2.length ≤ 4 ∧ CallQ d mid [w1] T (evR d M hs pc pc' l st2 Q) := by
  constructor
  · intro h
    have h4 := ev_lenS hd rfl rfl rfl hc (hk.elim Or.inl (fun h => Or.inr (Or.inl h))) (by omega) hM (As := [w1]) (st' := st2) (by rw [hn]; rfl) hst h
    exact ⟨h4, (ev_cS hd hc hk hM hst (As := [w1]) (by rw [hn]; rfl) h4 hp').mp h⟩
  · rintro ⟨h4, h3⟩
    exact (ev_cS hd hc hk hM hst (by rw [hn]; rfl) h4 hp').mpr h3
theorem ev_cV2 {idx mid kk : Nat} {M' : MI} {st2 : List Value} {a : Nat} {w1 w2 : Value} (hd : decode M.2.1 pc = .ok (.invokevirtual idx, 3)) (hc : callOf M.2.2.2.2.1 idx = some (0, mid)) (hM : mth mid = some M') (hst : M'.2.2.2.2.2.1 = false) (ho : M'.2.2.2.2.1 + 1 = kk) (h1 : 1 < kk) (hn : M'.2.2.2.2.2.2 = 2) (hp' : pc + 3 = pc') : Ev d M hs pc l (w2 :: w1 :: .ref a :: st2) T Q ↔ (tK T a = kk) ∧ st2.length ≤ 4 ∧ CallQ d mid (.ref a :: [w1, w2]) T (evR d M hs pc pc' l st2 Q) := by
  constructor
  · intro h
    have h4 := ev_len hd rfl rfl rfl hc rfl (by omega) hM (As := [w1, w2]) (st' := .ref a :: st2) (by rw [hn]; rfl) ⟨hst, rfl⟩ h
    have h9 := (ev_cV hd hc hM hst ho h1 (As := [w1, w2]) (by rw [hn]; rfl) h4 hp').mp h
    exact ⟨h9.1, h4, h9.2⟩
  · rintro ⟨h2, h4, h3⟩
    exact (ev_cV hd hc hM hst ho h1 (by rw [hn]; rfl) h4 hp').mpr ⟨h2, h3⟩
theorem ev_cL2 {idx mid : Nat} {M' : MI} {st2 : List Value} {a : Nat} {w1 w2 : Value} (hd : decode M.2.1 pc = .ok (.invokevirtual idx, 3)) (hc : callOf M.2.2.2.2.1 idx = some (0, mid)) (hM : mth mid = some M') (hst : M'.2.2.2.2.2.1 = false) (ho : M'.2.2.2.2.1 = 0) (hn : M'.2.2.2.2.2.2 = 2) (hp' : pc + 3 = pc') : Ev d M hs pc l (w2 :: w1 :: .ref a :: st2) T Q ↔ (tK T a = 1 ∨ tK T a = 23) ∧ st2.length ≤ 4 ∧ CallQ d mid (.ref a :: [w1, w2]) T (evR d M hs pc pc' l st2 Q) := by
  constructor
  · intro h
    have h4 := ev_len hd rfl rfl rfl hc rfl (by omega) hM (As := [w1, w2]) (st' := .ref a :: st2) (by rw [hn]; rfl) ⟨hst, rfl⟩ h
    have h9 := (ev_cL hd hc hM hst ho (As := [w1, w2]) (by rw [hn]; rfl) h4 hp').mp h
    exact ⟨h9.1, h4, h9.2⟩
  · rintro ⟨h2, h4, h3⟩
    exact (ev_cL hd hc hM hst ho (by rw [hn]; rfl) h4 hp').mpr ⟨h2, h3⟩
theorem ev_cI2 {idx mid : Nat} {M' : MI} {st2 : List Value} {a : Nat} {w1 w2 : Value} (hd : decode M.2.1 pc = .ok (.invokespecial idx, 3)) (hc : callOf M.2.2.2.2.1 idx = some (3, mid)) (hM : mth mid = some M') (hst : M'.2.2.2.2.2.1 = false) (hn : M'.2.2.2.2.2.2 = 2) (hp' : pc + 3 = pc') : Ev d M hs pc l (w2 :: w1 :: .ref a :: st2) T Q ↔ st2.length ≤ 4 ∧ CallQ d mid (.ref a :: [w1, w2]) T (evR d M hs pc pc' l st2 Q) := by
  constructor
  · intro h
    have h4 := ev_len hd rfl rfl rfl hc (Or.inl rfl) (by omega) hM (As := [w1, w2]) (st' := .ref a :: st2) (by rw [hn]; rfl) ⟨hst, rfl⟩ h
    exact ⟨h4, (ev_cI hd hc hM hst (As := [w1, w2]) (by rw [hn]; rfl) h4 hp').mp h⟩
  · rintro ⟨h4, h3⟩
    exact (ev_cI hd hc hM hst (by rw [hn]; rfl) h4 hp').mpr h3
theorem ev_cS2 {idx k mid : Nat} {M' : MI} {st2 : List Value} {w1 w2 : Value} (hd : decode M.2.1 pc = .ok (.invokestatic idx, 3)) (hc : callOf M.2.2.2.2.1 idx = some (k, mid)) (hk : k = 1 ∨ k = 2) (hM : mth mid = some M') (hst : M'.2.2.2.2.2.1 = true) (hn : M'.2.2.2.2.2.2 = 2) (hp' : pc + 3 = pc') : Ev d M hs pc l (w2 :: w1 :: st2) T Q ↔ st2.length ≤ 4 ∧ CallQ d mid [w1, w2] T (evR d M hs pc pc' l st2 Q) := by
  constructor
  · intro h
    have h4 := ev_lenS hd rfl rfl rfl hc (hk.elim Or.inl (fun h => Or.inr (Or.inl h))) (by omega) hM (As := [w1, w2]) (st' := st2) (by rw [hn]; rfl) hst h
    exact ⟨h4, (ev_cS hd hc hk hM hst (As := [w1, w2]) (by rw [hn]; rfl) h4 hp').mp h⟩
  · rintro ⟨h4, h3⟩
    exact (ev_cS hd hc hk hM hst (by rw [hn]; rfl) h4 hp').mpr h3
theorem ev_cV3 {idx mid kk : Nat} {M' : MI} {st2 : List Value} {a : Nat} {w1 w2 w3 : Value} (hd : decode M.2.1 pc = .ok (.invokevirtual idx, 3)) (hc : callOf M.2.2.2.2.1 idx = some (0, mid)) (hM : mth mid = some M') (hst : M'.2.2.2.2.2.1 = false) (ho : M'.2.2.2.2.1 + 1 = kk) (h1 : 1 < kk) (hn : M'.2.2.2.2.2.2 = 3) (hp' : pc + 3 = pc') : Ev d M hs pc l (w3 :: w2 :: w1 :: .ref a :: st2) T Q ↔ (tK T a = kk) ∧ st2.length ≤ 4 ∧ CallQ d mid (.ref a :: [w1, w2, w3]) T (evR d M hs pc pc' l st2 Q) := by
  constructor
  · intro h
    have h4 := ev_len hd rfl rfl rfl hc rfl (by omega) hM (As := [w1, w2, w3]) (st' := .ref a :: st2) (by rw [hn]; rfl) ⟨hst, rfl⟩ h
    have h9 := (ev_cV hd hc hM hst ho h1 (As := [w1, w2, w3]) (by rw [hn]; rfl) h4 hp').mp h
    exact ⟨h9.1, h4, h9.2⟩
  · rintro ⟨h2, h4, h3⟩
    exact (ev_cV hd hc hM hst ho h1 (by rw [hn]; rfl) h4 hp').mpr ⟨h2, h3⟩
theorem ev_cL3 {idx mid : Nat} {M' : MI} {st2 : List Value} {a : Nat} {w1 w2 w3 : Value} (hd : decode M.2.1 pc = .ok (.invokevirtual idx, 3)) (hc : callOf M.2.2.2.2.1 idx = some (0, mid)) (hM : mth mid = some M') (hst : M'.2.2.2.2.2.1 = false) (ho : M'.2.2.2.2.1 = 0) (hn : M'.2.2.2.2.2.2 = 3) (hp' : pc + 3 = pc') : Ev d M hs pc l (w3 :: w2 :: w1 :: .ref a :: st2) T Q ↔ (tK T a = 1 ∨ tK T a = 23) ∧ st2.length ≤ 4 ∧ CallQ d mid (.ref a :: [w1, w2, w3]) T (evR d M hs pc pc' l st2 Q) := by
  constructor
  · intro h
    have h4 := ev_len hd rfl rfl rfl hc rfl (by omega) hM (As := [w1, w2, w3]) (st' := .ref a :: st2) (by rw [hn]; rfl) ⟨hst, rfl⟩ h
    have h9 := (ev_cL hd hc hM hst ho (As := [w1, w2, w3]) (by rw [hn]; rfl) h4 hp').mp h
    exact ⟨h9.1, h4, h9.2⟩
  · rintro ⟨h2, h4, h3⟩
    exact (ev_cL hd hc hM hst ho (by rw [hn]; rfl) h4 hp').mpr ⟨h2, h3⟩
theorem ev_cI3 {idx mid : Nat} {M' : MI} {st2 : List Value} {a : Nat} {w1 w2 w3 : Value} (hd : decode M.2.1 pc = .ok (.invokespecial idx, 3)) (hc : callOf M.2.2.2.2.1 idx = some (3, mid)) (hM : mth mid = some M') (hst : M'.2.2.2.2.2.1 = false) (hn : M'.2.2.2.2.2.2 = 3) (hp' : pc + 3 = pc') : Ev d M hs pc l (w3 :: w2 :: w1 :: .ref a :: st2) T Q ↔ st2.length ≤ 4 ∧ CallQ d mid (.ref a :: [w1, w2, w3]) T (evR d M hs pc pc' l st2 Q) := by
  constructor
  · intro h
    have h4 := ev_len hd rfl rfl rfl hc (Or.inl rfl) (by omega) hM (As := [w1, w2, w3]) (st' := .ref a :: st2) (by rw [hn]; rfl) ⟨hst, rfl⟩ h
    exact ⟨h4, (ev_cI hd hc hM hst (As := [w1, w2, w3]) (by rw [hn]; rfl) h4 hp').mp h⟩
  · rintro ⟨h4, h3⟩
    exact (ev_cI hd hc hM hst (by rw [hn]; rfl) h4 hp').mpr h3
theorem ev_cS3 {idx k mid : Nat} {M' : MI} {st2 : List Value} {w1 w2 w3 : Value} (hd : decode M.2.1 pc = .ok (.invokestatic idx, 3)) (hc : callOf M.2.2.2.2.1 idx = some (k, mid)) (hk : k = 1 ∨ k = 2) (hM : mth mid = some M') (hst : M'.2.2.2.2.2.1 = true) (hn : M'.2.2.2.2.2.2 = 3) (hp' : pc + 3 = pc') : Ev d M hs pc l (w3 :: w2 :: w1 :: st2) T Q ↔ st2.length ≤ 4 ∧ CallQ d mid [w1, w2, w3] T (evR d M hs pc pc' l st2 Q) := by
  constructor
  · intro h
    have h4 := ev_lenS hd rfl rfl rfl hc (hk.elim Or.inl (fun h => Or.inr (Or.inl h))) (by omega) hM (As := [w1, w2, w3]) (st' := st2) (by rw [hn]; rfl) hst h
    exact ⟨h4, (ev_cS hd hc hk hM hst (As := [w1, w2, w3]) (by rw [hn]; rfl) h4 hp').mp h⟩
  · rintro ⟨h4, h3⟩
    exact (ev_cS hd hc hk hM hst (by rw [hn]; rfl) h4 hp').mpr h3
theorem ev_cV4 {idx mid kk : Nat} {M' : MI} {st2 : List Value} {a : Nat} {w1 w2 w3 w4 : Value} (hd : decode M.2.1 pc = .ok (.invokevirtual idx, 3)) (hc : callOf M.2.2.2.2.1 idx = some (0, mid)) (hM : mth mid = some M') (hst : M'.2.2.2.2.2.1 = false) (ho : M'.2.2.2.2.1 + 1 = kk) (h1 : 1 < kk) (hn : M'.2.2.2.2.2.2 = 4) (hp' : pc + 3 = pc') : Ev d M hs pc l (w4 :: w3 :: w2 :: w1 :: .ref a :: st2) T Q ↔ (tK T a = kk) ∧ st2.length ≤ 4 ∧ CallQ d mid (.ref a :: [w1, w2, w3, w4]) T (evR d M hs pc pc' l st2 Q) := by
  constructor
  · intro h
    have h4 := ev_len hd rfl rfl rfl hc rfl (by omega) hM (As := [w1, w2, w3, w4]) (st' := .ref a :: st2) (by rw [hn]; rfl) ⟨hst, rfl⟩ h
    have h9 := (ev_cV hd hc hM hst ho h1 (As := [w1, w2, w3, w4]) (by rw [hn]; rfl) h4 hp').mp h
    exact ⟨h9.1, h4, h9.2⟩
  · rintro ⟨h2, h4, h3⟩
    exact (ev_cV hd hc hM hst ho h1 (by rw [hn]; rfl) h4 hp').mpr ⟨h2, h3⟩
theorem ev_cL4 {idx mid : Nat} {M' : MI} {st2 : List Value} {a : Nat} {w1 w2 w3 w4 : Value} (hd : decode M.2.1 pc = .ok (.invokevirtual idx, 3)) (hc : callOf M.2.2.2.2.1 idx = some (0, mid)) (hM : mth mid = some M') (hst : M'.2.2.2.2.2.1 = false) (ho : M'.2.2.2.2.1 = 0) (hn : M'.2.2.2.2.2.2 = 4) (hp' : pc + 3 = pc') : Ev d M hs pc l (w4 :: w3 :: w2 :: w1 :: .ref a :: st2) T Q ↔ (tK T a = 1 ∨ tK T a = 23) ∧ st2.length ≤ 4 ∧ CallQ d mid (.ref a :: [w1, w2, w3, w4]) T (evR d M hs pc pc' l st2 Q) := by
  constructor
  · intro h
    have h4 := ev_len hd rfl rfl rfl hc rfl (by omega) hM (As := [w1, w2, w3, w4]) (st' := .ref a :: st2) (by rw [hn]; rfl) ⟨hst, rfl⟩ h
    have h9 := (ev_cL hd hc hM hst ho (As := [w1, w2, w3, w4]) (by rw [hn]; rfl) h4 hp').mp h
    exact ⟨h9.1, h4, h9.2⟩
  · rintro ⟨h2, h4, h3⟩
    exact (ev_cL hd hc hM hst ho (by rw [hn]; rfl) h4 hp').mpr ⟨h2, h3⟩
theorem ev_cI4 {idx mid : Nat} {M' : MI} {st2 : List Value} {a : Nat} {w1 w2 w3 w4 : Value} (hd : decode M.2.1 pc = .ok (.invokespecial idx, 3)) (hc : callOf M.2.2.2.2.1 idx = some (3, mid)) (hM : mth mid = some M') (hst : M'.2.2.2.2.2.1 = false) (hn : M'.2.2.2.2.2.2 = 4) (hp' : pc + 3 = pc') : Ev d M hs pc l (w4 :: w3 :: w2 :: w1 :: .ref a :: st2) T Q ↔ st2.length ≤ 4 ∧ CallQ d mid (.ref a :: [w1, w2, w3, w4]) T (evR d M hs pc pc' l st2 Q) := by
  constructor
  · intro h
    have h4 := ev_len hd rfl rfl rfl hc (Or.inl rfl) (by omega) hM (As := [w1, w2, w3, w4]) (st' := .ref a :: st2) (by rw [hn]; rfl) ⟨hst, rfl⟩ h
    exact ⟨h4, (ev_cI hd hc hM hst (As := [w1, w2, w3, w4]) (by rw [hn]; rfl) h4 hp').mp h⟩
  · rintro ⟨h4, h3⟩
    exact (ev_cI hd hc hM hst (by rw [hn]; rfl) h4 hp').mpr h3
theorem ev_cS4 {idx k mid : Nat} {M' : MI} {st2 : List Value} {w1 w2 w3 w4 : Value} (hd : decode M.2.1 pc = .ok (.invokestatic idx, 3)) (hc : callOf M.2.2.2.2.1 idx = some (k, mid)) (hk : k = 1 ∨ k = 2) (hM : mth mid = some M') (hst : M'.2.2.2.2.2.1 = true) (hn : M'.2.2.2.2.2.2 = 4) (hp' : pc + 3 = pc') : Ev d M hs pc l (w4 :: w3 :: w2 :: w1 :: st2) T Q ↔ st2.length ≤ 4 ∧ CallQ d mid [w1, w2, w3, w4] T (evR d M hs pc pc' l st2 Q) := by
  constructor
  · intro h
    have h4 := ev_lenS hd rfl rfl rfl hc (hk.elim Or.inl (fun h => Or.inr (Or.inl h))) (by omega) hM (As := [w1, w2, w3, w4]) (st' := st2) (by rw [hn]; rfl) hst h
    exact ⟨h4, (ev_cS hd hc hk hM hst (As := [w1, w2, w3, w4]) (by rw [hn]; rfl) h4 hp').mp h⟩
  · rintro ⟨h4, h3⟩
    exact (ev_cS hd hc hk hM hst (by rw [hn]; rfl) h4 hp').mpr h3
theorem ev_cV5 {idx mid kk : Nat} {M' : MI} {st2 : List Value} {a : Nat} {w1 w2 w3 w4 w5 : Value} (hd : decode M.2.1 pc = .ok (.invokevirtual idx, 3)) (hc : callOf M.2.2.2.2.1 idx = some (0, mid)) (hM : mth mid = some M') (hst : M'.2.2.2.2.2.1 = false) (ho : M'.2.2.2.2.1 + 1 = kk) (h1 : 1 < kk) (hn : M'.2.2.2.2.2.2 = 5) (hp' : pc + 3 = pc') : Ev d M hs pc l (w5 :: w4 :: w3 :: w2 :: w1 :: .ref a :: st2) T Q ↔ (tK T a = kk) ∧ st2.length ≤ 4 ∧ CallQ d mid (.ref a :: [w1, w2, w3, w4, w5]) T (evR d M hs pc pc' l st2 Q) := by
  constructor
  · intro h
    have h4 := ev_len hd rfl rfl rfl hc rfl (by omega) hM (As := [w1, w2, w3, w4, w5]) (st' := .ref a :: st2) (by rw [hn]; rfl) ⟨hst, rfl⟩ h
    have h9 := (ev_cV hd hc hM hst ho h1 (As := [w1, w2, w3, w4, w5]) (by rw [hn]; rfl) h4 hp').mp h
    exact ⟨h9.1, h4, h9.2⟩
  · rintro ⟨h2, h4, h3⟩
    exact (ev_cV hd hc hM hst ho h1 (by rw [hn]; rfl) h4 hp').mpr ⟨h2, h3⟩
theorem ev_cL5 {idx mid : Nat} {M' : MI} {st2 : List Value} {a : Nat} {w1 w2 w3 w4 w5 : Value} (hd : decode M.2.1 pc = .ok (.invokevirtual idx, 3)) (hc : callOf M.2.2.2.2.1 idx = some (0, mid)) (hM : mth mid = some M') (hst : M'.2.2.2.2.2.1 = false) (ho : M'.2.2.2.2.1 = 0) (hn : M'.2.2.2.2.2.2 = 5) (hp' : pc + 3 = pc') : Ev d M hs pc l (w5 :: w4 :: w3 :: w2 :: w1 :: .ref a :: st2) T Q ↔ (tK T a = 1 ∨ tK T a = 23) ∧ st2.length ≤ 4 ∧ CallQ d mid (.ref a :: [w1, w2, w3, w4, w5]) T (evR d M hs pc pc' l st2 Q) := by
  constructor
  · intro h
    have h4 := ev_len hd rfl rfl rfl hc rfl (by omega) hM (As := [w1, w2, w3, w4, w5]) (st' := .ref a :: st2) (by rw [hn]; rfl) ⟨hst, rfl⟩ h
    have h9 := (ev_cL hd hc hM hst ho (As := [w1, w2, w3, w4, w5]) (by rw [hn]; rfl) h4 hp').mp h
    exact ⟨h9.1, h4, h9.2⟩
  · rintro ⟨h2, h4, h3⟩
    exact (ev_cL hd hc hM hst ho (by rw [hn]; rfl) h4 hp').mpr ⟨h2, h3⟩
theorem ev_cI5 {idx mid : Nat} {M' : MI} {st2 : List Value} {a : Nat} {w1 w2 w3 w4 w5 : Value} (hd : decode M.2.1 pc = .ok (.invokespecial idx, 3)) (hc : callOf M.2.2.2.2.1 idx = some (3, mid)) (hM : mth mid = some M') (hst : M'.2.2.2.2.2.1 = false) (hn : M'.2.2.2.2.2.2 = 5) (hp' : pc + 3 = pc') : Ev d M hs pc l (w5 :: w4 :: w3 :: w2 :: w1 :: .ref a :: st2) T Q ↔ st2.length ≤ 4 ∧ CallQ d mid (.ref a :: [w1, w2, w3, w4, w5]) T (evR d M hs pc pc' l st2 Q) := by
  constructor
  · intro h
    have h4 := ev_len hd rfl rfl rfl hc (Or.inl rfl) (by omega) hM (As := [w1, w2, w3, w4, w5]) (st' := .ref a :: st2) (by rw [hn]; rfl) ⟨hst, rfl⟩ h
    exact ⟨h4, (ev_cI hd hc hM hst (As := [w1, w2, w3, w4, w5]) (by rw [hn]; rfl) h4 hp').mp h⟩
  · rintro ⟨h4, h3⟩
    exact (ev_cI hd hc hM hst (by rw [hn]; rfl) h4 hp').mpr h3
theorem ev_cS5 {idx k mid : Nat} {M' : MI} {st2 : List Value} {w1 w2 w3 w4 w5 : Value} (hd : decode M.2.1 pc = .ok (.invokestatic idx, 3)) (hc : callOf M.2.2.2.2.1 idx = some (k, mid)) (hk : k = 1 ∨ k = 2) (hM : mth mid = some M') (hst : M'.2.2.2.2.2.1 = true) (hn : M'.2.2.2.2.2.2 = 5) (hp' : pc + 3 = pc') : Ev d M hs pc l (w5 :: w4 :: w3 :: w2 :: w1 :: st2) T Q ↔ st2.length ≤ 4 ∧ CallQ d mid [w1, w2, w3, w4, w5] T (evR d M hs pc pc' l st2 Q) := by
  constructor
  · intro h
    have h4 := ev_lenS hd rfl rfl rfl hc (hk.elim Or.inl (fun h => Or.inr (Or.inl h))) (by omega) hM (As := [w1, w2, w3, w4, w5]) (st' := st2) (by rw [hn]; rfl) hst h
    exact ⟨h4, (ev_cS hd hc hk hM hst (As := [w1, w2, w3, w4, w5]) (by rw [hn]; rfl) h4 hp').mp h⟩
  · rintro ⟨h4, h3⟩
    exact (ev_cS hd hc hk hM hst (by rw [hn]; rfl) h4 hp').mpr h3
theorem ev_cS6 {idx k mid : Nat} {M' : MI} {st2 : List Value} {w1 w2 w3 w4 w5 w6 : Value} (hd : decode M.2.1 pc = .ok (.invokestatic idx, 3)) (hc : callOf M.2.2.2.2.1 idx = some (k, mid)) (hk : k = 1 ∨ k = 2) (hM : mth mid = some M') (hst : M'.2.2.2.2.2.1 = true) (hn : M'.2.2.2.2.2.2 = 6) (hp' : pc + 3 = pc') : Ev d M hs pc l (w6 :: w5 :: w4 :: w3 :: w2 :: w1 :: st2) T Q ↔ st2.length ≤ 4 ∧ CallQ d mid [w1, w2, w3, w4, w5, w6] T (evR d M hs pc pc' l st2 Q) := by
  constructor
  · intro h
    have h4 := ev_lenS hd rfl rfl rfl hc (hk.elim Or.inl (fun h => Or.inr (Or.inl h))) (by omega) hM (As := [w1, w2, w3, w4, w5, w6]) (st' := st2) (by rw [hn]; rfl) hst h
    exact ⟨h4, (ev_cS hd hc hk hM hst (As := [w1, w2, w3, w4, w5, w6]) (by rw [hn]; rfl) h4 hp').mp h⟩
  · rintro ⟨h4, h3⟩
    exact (ev_cS hd hc hk hM hst (by rw [hn]; rfl) h4 hp').mpr h3
theorem ev_cS7 {idx k mid : Nat} {M' : MI} {st2 : List Value} {w1 w2 w3 w4 w5 w6 w7 : Value} (hd : decode M.2.1 pc = .ok (.invokestatic idx, 3)) (hc : callOf M.2.2.2.2.1 idx = some (k, mid)) (hk : k = 1 ∨ k = 2) (hM : mth mid = some M') (hst : M'.2.2.2.2.2.1 = true) (hn : M'.2.2.2.2.2.2 = 7) (hp' : pc + 3 = pc') : Ev d M hs pc l (w7 :: w6 :: w5 :: w4 :: w3 :: w2 :: w1 :: st2) T Q ↔ st2.length ≤ 4 ∧ CallQ d mid [w1, w2, w3, w4, w5, w6, w7] T (evR d M hs pc pc' l st2 Q) := by
  constructor
  · intro h
    have h4 := ev_lenS hd rfl rfl rfl hc (hk.elim Or.inl (fun h => Or.inr (Or.inl h))) (by omega) hM (As := [w1, w2, w3, w4, w5, w6, w7]) (st' := st2) (by rw [hn]; rfl) hst h
    exact ⟨h4, (ev_cS hd hc hk hM hst (As := [w1, w2, w3, w4, w5, w6, w7]) (by rw [hn]; rfl) h4 hp').mp h⟩
  · rintro ⟨h4, h3⟩
    exact (ev_cS hd hc hk hM hst (by rw [hn]; rfl) h4 hp').mpr h3
theorem ev_min1 {x y : Int32} {idx mid : Nat} (hc : callOf M.2.2.2.2.1 idx = some (5, mid)) (hd : decode M.2.1 pc = .ok (.invokestatic idx, 3)) (hp : pc + 3 = pc') : Ev d M hs pc l [.int y, .int x] T Q ↔ Ev d M hs pc' l [.int (if y < x then y else x)] T Q := ev_min (by show 0 ≤ 4; omega) hc hd hp
theorem ev_zret0 (hr : M.2.2.2.1 = some .boolean) (hd : decode M.2.1 pc = .ok (.ireturn, 1)) : Ev d M hs pc l [.int 0] T Q ↔ Q (.inl (some (.int 0))) T := ev_zret hr (Or.inl rfl) hd
theorem ev_zret1 (hr : M.2.2.2.1 = some .boolean) (hd : decode M.2.1 pc = .ok (.ireturn, 1)) : Ev d M hs pc l [.int 1] T Q ↔ Q (.inl (some (.int 1))) T := ev_zret hr (Or.inr rfl) hd
end EVS
theorem lst_no {mid : Nat} {As : List Value} {T T1 : TS} {r : Out} (h : 12 < mid) : ¬ lst mid As T r T1 := by
  intro h9
  unfold lst at h9
  split at h9 <;> first | omega | exact h9
theorem callQ_iff {d mid : Nat} {As : List Value} {T : TS} {Q : Post} (M : MI) (hM : mth mid = some M) (h12 : 12 < mid) (hl : (lg_sl As).length ≤ M.2.2.1) : CallQ (d + 1) mid As T Q ↔ Ev d M (lwH mid) 0 (lv_args 0 As) [] T Q := by
  constructor
  · rintro ⟨r, T1, h | ⟨-, M9, n, hM9, -, h⟩, hq⟩
    · exact (lst_no h12 h).elim
    · cases hM.symm.trans hM9
      exact ⟨n, r, T1, h, hq⟩
  · exact callQ_of M hM h12 hl
theorem callQ_size {d a : Nat} {T : TS} {Q : Post} : CallQ (d + 1) 3 [.ref a] T Q ↔ tK T a = 23 ∧ Q (.inl (some (.int (nI (tL T a).length)))) T := by
  constructor
  · rintro ⟨r, T1, h | ⟨h, -⟩, hq⟩
    · obtain ⟨a9, e, h1, rfl, rfl⟩ := h
      cases e
      exact ⟨h1, hq⟩
    · omega
  · rintro ⟨h1, hq⟩
    exact ⟨_, _, Or.inl ⟨a, rfl, h1, rfl, rfl⟩, hq⟩
theorem callQ_get {d a k b : Nat} {T : TS} {Q : Post} (h1 : tK T a = 23) (hk : k < 2 ^ 31) (hb : (tL T a)[k]? = some b) (hq : Q (.inl (some (.ref b))) T) : CallQ (d + 1) 5 [.ref a, .int (nI k)] T Q := ⟨_, _, Or.inl ⟨a, k, b, rfl, h1, hk, hb, rfl, rfl⟩, hq⟩
theorem callQ_add {d a b : Nat} {T : TS} {Q : Post} (h1 : tK T a = 23) (hb : 2 ≤ tK T b) (hb9 : tK T b ≤ 9) (hc : tc T a ≤ 100000) (hq : Q (.inl (some (.int 1))) (sL a (tL T a ++ [b]) (fit a T))) : CallQ (d + 1) 7 [.ref a, .ref b] T Q := ⟨_, _, Or.inl ⟨a, b, rfl, h1, hb, hb9, hc, rfl, rfl⟩, hq⟩
theorem callQ_addAt {d a k b : Nat} {T : TS} {Q : Post} (h1 : tK T a = 23) (hb : 2 ≤ tK T b) (hb9 : tK T b ≤ 9) (hc : tc T a ≤ 100000) (hk : k ≤ (tL T a).length) (hk2 : k < 2 ^ 31) (hq : Q (.inl none) (sL a ((tL T a).insertIdx k b) (fit a T))) : CallQ (d + 1) 8 [.ref a, .int (nI k), .ref b] T Q := ⟨_, _, Or.inl ⟨a, k, b, rfl, h1, hb, hb9, hc, hk, hk2, rfl, rfl⟩, hq⟩
theorem callQ_rem {d a k b : Nat} {T : TS} {Q : Post} (h1 : tK T a = 23) (hk : k < 2 ^ 31) (hb : (tL T a)[k]? = some b) (hq : Q (.inl (some (.ref b))) (sL a ((tL T a).eraseIdx k) T)) : CallQ (d + 1) 9 [.ref a, .int (nI k)] T Q := ⟨_, _, Or.inl ⟨a, k, b, rfl, h1, hk, hb, rfl, rfl⟩, hq⟩
theorem callQ_nl {d a : Nat} {T : TS} {Q : Post} (h1 : tK T a = 1) (h2 : tI T 0 a = 0) (h3 : tR T 1 a = none) (h4 : tI T 2 a = 0) (hq : Q (.inl none) (nL a T)) : CallQ (d + 1) 0 [.ref a] T Q := ⟨_, _, Or.inl ⟨a, rfl, h1, h2, h3, h4, rfl, rfl⟩, hq⟩
