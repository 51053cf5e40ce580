/-! the store: what the heap is, field by field; lists whole -/
abbrev TS : Type := Nat × Nat × (Nat → Nat) × (Nat → Nat → Int32) × (Nat → Nat → Option Nat) × (Nat → Nat → Int32) × (Nat → Nat) × (Nat → Nat → Int64) × (Nat → List Nat) × (Nat → Nat)
/-- the heap's size, the slots used -/
def tn (T : TS) : Nat := T.1
def tu (T : TS) : Nat := T.2.1
/-- the kind of an address: 0 not known, c + 1 an object of class c, 20 ints, 21 bytes, 22 longs, 23 a list, 25 the empty row, 26 the script -/
def tK (T : TS) : Nat → Nat := T.2.2.1
def tI (T : TS) : Nat → Nat → Int32 := T.2.2.2.1
def tR (T : TS) : Nat → Nat → Option Nat := T.2.2.2.2.1
def tA (T : TS) : Nat → Nat → Int32 := T.2.2.2.2.2.1
def tl (T : TS) : Nat → Nat := T.2.2.2.2.2.2.1
def tJ (T : TS) : Nat → Nat → Int64 := T.2.2.2.2.2.2.2.1
def tL (T : TS) : Nat → List Nat := T.2.2.2.2.2.2.2.2.1
def tc (T : TS) : Nat → Nat := T.2.2.2.2.2.2.2.2.2
def up1 {α : Type} (g : Nat → α) (a : Nat) (v : α) : Nat → α := fun b => if b = a then v else g b
def up2 {α : Type} (g : Nat → Nat → α) (f a : Nat) (v : α) : Nat → Nat → α := fun h b => if h = f ∧ b = a then v else g h b
def sI (f a : Nat) (v : Int32) (T : TS) : TS := (tn T, tu T, tK T, up2 (tI T) f a v, tR T, tA T, tl T, tJ T, tL T, tc T)
def sR (f a : Nat) (v : Option Nat) (T : TS) : TS := (tn T, tu T, tK T, tI T, up2 (tR T) f a v, tA T, tl T, tJ T, tL T, tc T)
def sA (a i : Nat) (v : Int32) (T : TS) : TS := (tn T, tu T, tK T, tI T, tR T, up2 (tA T) a i v, tl T, tJ T, tL T, tc T)
def sJ (a i : Nat) (v : Int64) (T : TS) : TS := (tn T, tu T, tK T, tI T, tR T, tA T, tl T, up2 (tJ T) a i v, tL T, tc T)
/-- a new object of class c -/
def nO (c : Nat) (T : TS) : TS := (tn T + 1, tu T + NN c, up1 (tK T) (tn T) (c + 1), fun f a => if a = tn T then 0 else tI T f a, fun f a => if a = tn T then none else tR T f a, tA T, tl T, tJ T, tL T, tc T)
/-- a new row of kind k, of n places -/
def nA (k n : Nat) (T : TS) : TS := (tn T + 1, tu T + n, up1 (tK T) (tn T) k, tI T, tR T, up1 (tA T) (tn T) (fun _ => 0), up1 (tl T) (tn T) n, up1 (tJ T) (tn T) (fun _ => 0), tL T, tc T)
/-- an exception was made -/
def nX (T : TS) : TS := (tn T + 1, tu T + 6, tK T, tI T, tR T, tA T, tl T, tJ T, tL T, tc T)
/-- a list object becomes a list; a list's content; a list grows -/
def sL (a : Nat) (xs : List Nat) (T : TS) : TS := (tn T, tu T, tK T, tI T, tR T, tA T, tl T, tJ T, up1 (tL T) a xs, tc T)
def nL (a : Nat) (T : TS) : TS := (tn T, tu T, up1 (tK T) a 23, tI T, tR T, tA T, tl T, tJ T, up1 (tL T) a [], up1 (tc T) a 0)
def gL (a c : Nat) (T : TS) : TS := (tn T + 1, tu T + c, tK T, tI T, tR T, tA T, tl T, tJ T, tL T, up1 (tc T) a c)
/-- the room that a full list of room c takes next -/
def lcap (c : Nat) : Nat := if c = 0 then 10 else c + max 1 (c / 2)
/-- a list has room for one more -/
def fit (a : Nat) (T : TS) : TS := if (tL T a).length = tc T a then gL a (lcap (tc T a)) T else T
/-- outcomes: an answer, or an exception by its number -/
abbrev Out : Type := Option Value ⊕ Nat
/-- the list methods, by their numbers in the table: 0 <init>, 3 size, 5 get, 7 add, 8 add at a place, 9 remove -/
def lst (mid : Nat) (as : List Value) (T : TS) (out : Out) (T' : TS) : Prop := match mid with
  | 0 => ∃ a, as = [.ref a] ∧ tK T a = 1 ∧ tI T 0 a = 0 ∧ tR T 1 a = none ∧ tI T 2 a = 0 ∧ out = .inl none ∧ T' = nL a T
  | 3 => ∃ a, as = [.ref a] ∧ tK T a = 23 ∧ out = .inl (some (.int (nI (tL T a).length))) ∧ T' = T
  | 5 => ∃ a k b, as = [.ref a, .int (nI k)] ∧ tK T a = 23 ∧ k < 2 ^ 31 ∧ (tL T a)[k]? = some b ∧ out = .inl (some (.ref b)) ∧ T' = T
  | 7 => ∃ a b, as = [.ref a, .ref b] ∧ tK T a = 23 ∧ 2 ≤ tK T b ∧ tK T b ≤ 9 ∧ tc T a ≤ 100000 ∧ out = .inl (some (.int 1)) ∧ T' = sL a (tL T a ++ [b]) (fit a T)
  | 8 => ∃ a k b, as = [.ref a, .int (nI k), .ref b] ∧ tK T a = 23 ∧ 2 ≤ tK T b ∧ tK T b ≤ 9 ∧ tc T a ≤ 100000 ∧ k ≤ (tL T a).length ∧ k < 2 ^ 31 ∧ out = .inl none ∧ T' = sL a ((tL T a).insertIdx k b) (fit a T)
  | 9 => ∃ a k b, as = [.ref a, .int (nI k)] ∧ tK T a = 23 ∧ k < 2 ^ 31 ∧ (tL T a)[k]? = some b ∧ out = .inl (some (.ref b)) ∧ T' = sL a ((tL T a).eraseIdx k) T
  | _ => False
/-! the machine over the store -/
abbrev Loc0 : Type := List (Nat × Value)
def lget (l : Loc0) (k : Nat) : Option Value := match l with
  | [] => none
  | (j, v) :: l => if j = k then some v else lget l k
/-- what is left of the locals when place k takes a value of one word, of two -/
def ldel (l : Loc0) (k : Nat) : Loc0 := match l with
  | [] => []
  | (j, v) :: l => if j = k ∨ (j + 1 = k ∧ v.category = 2) then ldel l k else (j, v) :: ldel l k
def ldel2 (l : Loc0) (k : Nat) : Loc0 := match l with
  | [] => []
  | (j, v) :: l => if j = k ∨ j = k + 1 ∨ (j + 1 = k ∧ v.category = 2) then ldel2 l k else (j, v) :: ldel2 l k
abbrev Cfg : Type := Nat × Loc0 × List Value × TS
/-- the length of an instruction, as it stands in this code -/
def ilen : Instr → Nat
  | .bipush _ | .iload _ | .aload _ | .dload _ | .lload _ | .istore _ | .astore _ | .dstore _ | .lstore _ | .ldc _ | .newarray _ => 2
  | .ldc2_w _ | .sipush _ | .iinc _ _ | .ifCond _ _ | .if_icmp _ _ | .if_acmp _ _ | .ifnull _ | .ifnonnull _ | .goto _ | .getfield _ | .putfield _ | .getstatic _ | .invokevirtual _ | .invokespecial _ | .invokestatic _ | .new _ | .checkcast _ | .anewarray _ => 3
  | _ => 1
def cmpB (c : Jvm.ClassFile.Cond) (x y : Int32) : Bool := match c with
  | .eq => decide (x = y) | .ne => decide (¬ x = y) | .lt => decide (x < y) | .ge => decide (y ≤ x) | .gt => decide (y < x) | .le => decide (x ≤ y)
def kOf : ArrayType → Nat
  | .int => 20 | .long => 22 | _ => 0
def isRef (v : Value) : Prop := v = .null ∨ ∃ a, v = .ref a
/-- the law's own numbers -/
def ldcT (o n : Nat) : Option Int32 := if o = 9 then (if n = 161 then some 1073741824 else if n = 7 then some 735439303 else if n = 8 then some 1578607569 else if n = 9 then some 2147483647 else none) else none
/-- the stack's steps, which touch nothing but the stack -/
def stkF (o : Nat) (i : Instr) (st : List Value) : Option (List Value) := match i with
  | .iconst n => some (.int (Int32.ofInt n) :: st)
  | .bipush n => some (.int (Int8.ofInt n).toInt32 :: st)
  | .sipush n => some (.int (Int16.ofInt n).toInt32 :: st)
  | .lconst n => some (.long (Int64.ofNat n) :: st)
  | .dconst n => if n = 0 then some (.double FP.dconst0 :: st) else none
  | .aconst_null => some (.null :: st)
  | .ldc n => match ldcT o n with | some v => some (.int v :: st) | none => none
  | .ldc2_w n => if o = 9 ∧ n = 135 then some (.long (-1) :: st) else none
  | .iadd => match st with | .int y :: .int x :: st => some (.int (x + y) :: st) | _ => none
  | .isub => match st with | .int y :: .int x :: st => some (.int (x - y) :: st) | _ => none
  | .imul => match st with | .int y :: .int x :: st => some (.int (x * y) :: st) | _ => none
  | .irem => match st with | .int y :: .int x :: st => if y = 0 then none else some (.int (x - x / y * y) :: st) | _ => none
  | .idiv => match st with | .int y :: .int x :: st => if y = 0 then none else some (.int (x / y) :: st) | _ => none
  | .land => match st with | .long y :: .long x :: st => some (.long (x &&& y) :: st) | _ => none
  | .lor => match st with | .long y :: .long x :: st => some (.long (x ||| y) :: st) | _ => none
  | .lxor => match st with | .long y :: .long x :: st => some (.long (x ^^^ y) :: st) | _ => none
  | .lshl => match st with | .int y :: .long x :: st => some (.long (x <<< (y.toInt64 &&& 63)) :: st) | _ => none
  | .lshr => match st with | .int y :: .long x :: st => some (.long (x >>> (y.toInt64 &&& 63)) :: st) | _ => none
  | .l2i => match st with | .long x :: st => some (.int x.toInt32 :: st) | _ => none
  | .iand => match st with | .int y :: .int x :: st => some (.int (x &&& y) :: st) | _ => none
  | .i2l => match st with | .int x :: st => some (.long x.toInt64 :: st) | _ => none
  | .i2b => match st with | .int x :: st => some (.int x.toInt8.toInt32 :: st) | _ => none
  | .i2d => match st with | .int x :: st => some (.double (FP.i2d x) :: st) | _ => none
  | .lcmp => match st with | .long y :: .long x :: st => some (.int (lg_cmp x y) :: st) | _ => none
  | .dcmp op => match st with | .double y :: .double x :: st => some (.int (Op.cmpValue (FP.dcmp x y) op) :: st) | _ => none
  | .ddiv => match st with | .double y :: .double x :: st => if (FP.ddiv x y) &&& 0x7fffffffffffffff ≤ 0x7ff0000000000000 then some (.double (FP.ddiv x y) :: st) else none | _ => none
  | .dup => match st with | .int v :: st => some (.int v :: .int v :: st) | .ref v :: st => some (.ref v :: .ref v :: st) | _ => none
  | .dup2 => match st with | .int y :: .ref x :: st => some (.int y :: .ref x :: .int y :: .ref x :: st) | _ => none
  | .pop => match st with | .int _ :: st => some st | .ref _ :: st => some st | _ => none
  | _ => none
/-- the branches -/
def jmp (pc : Nat) (off : Int) (st : List Value) : Option (Nat × List Value) := if 0 ≤ (pc : Int) + off then some (((pc : Int) + off).toNat, st) else none
def braF (i : Instr) (pc : Nat) (st : List Value) : Option (Nat × List Value) := match i with
  | .ifCond c off => match st with | .int x :: st => if 0 ≤ (pc : Int) + off then some (if cmpB c x 0 = true then ((pc : Int) + off).toNat else pc + 3, st) else none | _ => none
  | .if_icmp c off => match st with | .int y :: .int x :: st => if 0 ≤ (pc : Int) + off then some (if cmpB c x y = true then ((pc : Int) + off).toNat else pc + 3, st) else none | _ => none
  | .if_acmp c off => match st with | .ref y :: .ref x :: st => if 0 ≤ (pc : Int) + off then (if c = .ne then some (if x = y then pc + 3 else ((pc : Int) + off).toNat, st) else some (if x = y then ((pc : Int) + off).toNat else pc + 3, st)) else none | .ref _ :: .null :: st => if 0 ≤ (pc : Int) + off then (if c = .ne then some (((pc : Int) + off).toNat, st) else some (pc + 3, st)) else none | _ => none
  | .ifnull off => match st with | .ref _ :: st => some (pc + 3, st) | .null :: st => jmp pc off st | _ => none
  | .ifnonnull off => match st with | .ref _ :: st => jmp pc off st | .null :: st => some (pc + 3, st) | _ => none
  | .goto off => jmp pc off st
  | .tableswitch dflt lo hi offs => match st with | .int x :: st => if x.toInt < lo ∨ hi < x.toInt then jmp pc dflt st else (match offs[(x.toInt - lo).toNat]? with | some off => jmp pc off st | none => none) | _ => none
  | _ => none
/-- the locals' steps -/
def locF (nL : Nat) (i : Instr) (l : Loc0) (st : List Value) : Option (Loc0 × List Value) := match i with
  | .iload k => match lget l k with | some (.int x) => some (l, .int x :: st) | _ => none
  | .iload_n k => match lget l k with | some (.int x) => some (l, .int x :: st) | _ => none
  | .aload k => match lget l k with | some (.ref x) => some (l, .ref x :: st) | some .null => some (l, .null :: st) | _ => none
  | .aload_n k => match lget l k with | some (.ref x) => some (l, .ref x :: st) | some .null => some (l, .null :: st) | _ => none
  | .dload k => match lget l k with | some (.double x) => some (l, .double x :: st) | _ => none
  | .lload_n k => match lget l k with | some (.long x) => some (l, .long x :: st) | _ => none
  | .istore k => match st with | .int x :: st => if k < nL then some ((k, .int x) :: ldel l k, st) else none | _ => none
  | .istore_n k => match st with | .int x :: st => if k < nL then some ((k.1, .int x) :: ldel l k, st) else none | _ => none
  | .astore k => match st with | .ref x :: st => if k < nL then some ((k, .ref x) :: ldel l k, st) else none | .null :: st => if k < nL then some ((k, .null) :: ldel l k, st) else none | _ => none
  | .astore_n k => match st with | .ref x :: st => if k < nL then some ((k.1, .ref x) :: ldel l k, st) else none | .null :: st => if k < nL then some ((k.1, .null) :: ldel l k, st) else none | _ => none
  | .dstore k => match st with | .double x :: st => if k + 1 < nL then some ((k, .double x) :: ldel2 l k, st) else none | _ => none
  | .iinc k n => match lget l k with | some (.int x) => if k < nL then some ((k, .int (x + Int32.ofInt n)) :: ldel l k, st) else none | _ => none
  | _ => none
/-- the heap's steps -/
def hpF (o : Nat) (ini : Bool) (i : Instr) (st : List Value) (T : TS) : Option (List Value × TS) := match i with
  | .getfield idx => match st with
    | .ref a :: st => (fldOf o idx).bind (fun f => if tK T a = f.1 + 1 then some ((if fI f.1 f.2 then .int (tI T (32 * f.1 + f.2) a) else va_rf (tR T (32 * f.1 + f.2) a)) :: st, T) else none)
    | _ => none
  | .putfield idx => match st with
    | .int v :: .ref a :: st => (fldOf o idx).bind (fun f => if tK T a = f.1 + 1 ∧ fI f.1 f.2 = true ∧ (fF f.1 f.2 = false ∨ (ini = true ∧ f.1 = o)) then some (st, sI (32 * f.1 + f.2) a v T) else none)
    | .ref v :: .ref a :: st => (fldOf o idx).bind (fun f => if tK T a = f.1 + 1 ∧ fI f.1 f.2 = false ∧ (fF f.1 f.2 = false ∨ (ini = true ∧ f.1 = o)) then some (st, sR (32 * f.1 + f.2) a (some v) T) else none)
    | .null :: .ref a :: st => (fldOf o idx).bind (fun f => if tK T a = f.1 + 1 ∧ fI f.1 f.2 = false ∧ (fF f.1 f.2 = false ∨ (ini = true ∧ f.1 = o)) then some (st, sR (32 * f.1 + f.2) a none T) else none)
    | _ => none
  | .arraylength => match st with | .ref a :: st => if tK T a = 20 ∨ tK T a = 26 then some (.int (nI (tl T a)) :: st, T) else none | _ => none
  | .iaload => match st with | .int i :: .ref a :: st => if (tK T a = 20 ∨ tK T a = 26) ∧ (¬ (i < 0 ∨ tl T a ≤ i.toNatClampNeg)) then some (.int (tA T a i.toNatClampNeg) :: st, T) else none | _ => none
  | .laload => match st with | .int i :: .ref a :: st => if tK T a = 22 ∧ (¬ (i < 0 ∨ tl T a ≤ i.toNatClampNeg)) then some (.long (tJ T a i.toNatClampNeg) :: st, T) else none | _ => none
  | .iastore => match st with | .int v :: .int i :: .ref a :: st => if tK T a = 20 ∧ (¬ (i < 0 ∨ tl T a ≤ i.toNatClampNeg)) then some (st, sA a i.toNatClampNeg v T) else none | _ => none
  | .lastore => match st with | .long v :: .int i :: .ref a :: st => if tK T a = 22 ∧ (¬ (i < 0 ∨ tl T a ≤ i.toNatClampNeg)) then some (st, sJ a i.toNatClampNeg v T) else none | _ => none
  | .newarray t => match st with | .int n :: st => if ¬ n < 0 ∧ n.toNatClampNeg ≤ 1000000 ∧ kOf t ≠ 0 then some (.ref (tn T) :: st, nA (kOf t) n.toNatClampNeg T) else none | _ => none
  | .checkcast idx => match st with
    | .ref a :: st => (clOf o idx).bind (fun ci => if tK T a = ci + 1 ∧ 1 ≤ ci ∧ ci ≤ 8 then some (.ref a :: st, T) else none)
    | _ => none
  | .new idx => (clOf o idx).bind (fun ci => if ci ≤ 8 then some (.ref (tn T) :: st, nO ci T) else none)
  | _ => none
