/-- the last n of the stack, in the order in which they were pushed, and what lies under them -/
def popN (n : Nat) (st : List Value) : Option (List Value × List Value) := match n, st with
  | 0, st => some ([], st)
  | 1, a :: st => some ([a], st)
  | 2, b :: a :: st => some ([a, b], st)
  | 3, c :: b :: a :: st => some ([a, b, c], st)
  | 4, d :: c :: b :: a :: st => some ([a, b, c, d], st)
  | 5, e :: d :: c :: b :: a :: st => some ([a, b, c, d, e], st)
  | 6, f :: e :: d :: c :: b :: a :: st => some ([a, b, c, d, e, f], st)
  | 7, g :: f :: e :: d :: c :: b :: a :: st => some ([a, b, c, d, e, f, g], st)
  | _, _ => none
/-- what an instruction is: 1 an end, 2 a call, 0 else -/
def icls : Instr → Nat
  | .ireturn | .areturn | .dreturn | .return_ => 1
  | .invokevirtual _ | .invokestatic _ | .invokespecial _ => 2
  | .new _ => 3
  | _ => 0
def rtRef (rt : Option FieldType) : Bool := match rt with
  | some (.object _) => true
  | some (.array _) => true
  | _ => false
/-- an end: what is answered -/
def endF (rt : Option FieldType) (i : Instr) (st : List Value) : Option (Option Value) := match i with
  | .ireturn => match st with | [.int x] => if rt = some .int ∨ (rt = some .boolean ∧ (x = 0 ∨ x = 1)) then some (some (.int x)) else none | _ => none
  | .areturn => match st with | [.ref x] => if rtRef rt = true then some (some (.ref x)) else none | [.null] => if rtRef rt = true then some (some .null) else none | _ => none
  | .dreturn => match st with | [.double x] => if rt = some .double then some (some (.double x)) else none | _ => none
  | .return_ => match st with | [] => if rt = none then some none else none | _ => none
  | _ => none
/-- a step that is no call and no end -/
def step (o nL : Nat) (ini : Bool) (i : Instr) (pc : Nat) (l : Loc0) (st : List Value) (T : TS) : Option Cfg :=
  match stkF o i st with
  | some st' => some (pc + ilen i, l, st', T)
  | none => match locF nL i l st with
    | some (l', st') => some (pc + ilen i, l', st', T)
    | none => match braF i pc st with
      | some (pc', st') => some (pc', l, st', T)
      | none => match hpF o ini i st T with
        | some (st', T') => some (pc + ilen i, l, st', T')
        | none => none
/-- which call it is -/
def cixOf : Instr → Option Nat
  | .invokevirtual k | .invokestatic k | .invokespecial k => some k
  | _ => none
/-- the sort of call that an instruction can be -/
def csort (i : Instr) (k : Nat) : Prop := match i with
  | .invokevirtual _ => k = 0
  | .invokestatic _ => k = 1 ∨ k = 2 ∨ k = 5
  | .invokespecial _ => k = 3 ∨ k = 4
  | _ => False
/-- where a method with a table of handlers goes on: (from, to, handler, class) -/
abbrev Hn : Type := List (Nat × Nat × Nat × Nat)
def hnd (hs : Hn) (pc x : Nat) : Option Nat := (hs.find? (fun h => decide (h.1 ≤ pc) && decide (pc < h.2.1) && decide (h.2.2.2 = x))).map (fun h => h.2.2.1)
/-- the lengths of instructions, a table's apart -/
def lenOk (i : Instr) (len : Nat) : Prop := match i with
  | .tableswitch _ _ _ _ => True
  | _ => len = ilen i
/-- a run of a method's body, to an outcome; C: what its calls do -/
def run (C : Nat → List Value → TS → Out → TS → Prop) (M : MI) (hs : Hn) : Nat → Nat → Loc0 → List Value → TS → Out → TS → Prop
  | 0, _, _, _, _, _, _ => False
  | n + 1, pc, l, st, T, out, T' => ∃ i len, decode M.2.1 pc = .ok (i, len) ∧ lenOk i len ∧ match icls i with
    | 1 => ∃ v, endF M.2.2.2.1 i st = some v ∧ out = .inl v ∧ T' = T
    | 2 => ∃ idx k mid, cixOf i = some idx ∧ callOf M.2.2.2.2.1 idx = some (k, mid) ∧ csort i k ∧ k ≤ 5 ∧
        match k with
        | 4 => ∃ a st', st = .ref a :: st' ∧ st'.length ≤ 4 ∧ run C M hs n (pc + 3) l st' T out T'
        | 5 => ∃ x y st', st = .int y :: .int x :: st' ∧ st'.length ≤ 4 ∧ run C M hs n (pc + 3) l (.int (if y < x then y else x) :: st') T out T'
        | _ => ∃ M' As st' st2 r T1, mth mid = some M' ∧ popN M'.2.2.2.2.2.2 st = some (As, st') ∧
            (if M'.2.2.2.2.2.1 then st2 = st' else ∃ a, st' = .ref a :: st2 ∧ (k = 3 ∨ tK T a = M'.2.2.2.2.1 + 1 ∨ (tK T a = 23 ∧ M'.2.2.2.2.1 = 0))) ∧ st2.length ≤ 4 ∧
            C mid (if M'.2.2.2.2.2.1 then As else st'.take 1 ++ As) T r T1 ∧
            match r with
            | .inl v => run C M hs n (pc + 3) l (v.toList ++ st2) T1 out T'
            | .inr x => match hnd hs pc x with
              | none => out = .inr x ∧ T' = T1
              | some h => ∃ k9 : Nat, k9 < M.2.2.1 ∧ (((∃ q : Fin 4, k9 = q ∧ decode M.2.1 h = .ok (.astore_n q, 1)) ∧ run C M hs n (h + 1) (ldel l k9) [] T1 out T') ∨ (decode M.2.1 h = .ok (.astore k9, 2) ∧ run C M hs n (h + 2) (ldel l k9) [] T1 out T'))
    | 3 => ∃ idx ci, i = .new idx ∧ clOf M.2.2.2.2.1 idx = some ci ∧ ((ci ≤ 8 ∧ run C M hs n (pc + 3) l (.ref (tn T) :: st) (nO ci T) out T') ∨
        (M.2.2.2.2.1 = 7 ∧ 100 ≤ ci ∧ ci ≤ 102 ∧ st.length ≤ 4 ∧ decode M.2.1 (pc + 3) = .ok (.dup, 1) ∧ decode M.2.1 (pc + 4) = .ok (.invokespecial (if ci = 100 then 46 else if ci = 101 then 53 else 73), 3) ∧ decode M.2.1 (pc + 7) = .ok (.athrow, 1) ∧ hs = [] ∧ out = .inr ci ∧ T' = nX T))
    | _ => ∃ pc' l' st' T1, step M.2.2.2.2.1 M.2.2.1 (M.1.name == "<init>") i pc l st T = some (pc', l', st', T1) ∧ run C M hs n pc' l' st' T1 out T'
def lwHT : List (Nat × List (Nat × Nat × Nat × Nat)) := []
/-- the handlers of the law's methods, by their numbers -/
def lwH (mid : Nat) : Hn := (lwHT.lookup mid).getD []
/-- a call, d deep at most -/
def Call : Nat → Nat → List Value → TS → Out → TS → Prop
  | 0 => fun _ _ _ _ _ => False
  | d + 1 => fun mid as T out T' => lst mid as T out T' ∨ (12 < mid ∧ ∃ M n, mth mid = some M ∧ (lg_sl as).length ≤ M.2.2.1 ∧ run (Call d) M (lwH mid) n 0 (lv_args 0 as) [] T out T')
