/-! the links and the methods, held against the words of the tables -/
theorem lookup_mem {α β : Type} [BEq α] [LawfulBEq α] {l : List (α × β)} {a : α} {b : β} (h : l.lookup a = some b) : (a, b) ∈ l := by
  induction l with
  | nil => simp at h
  | cons x l ih =>
    obtain ⟨k, v⟩ := x
    rw [List.lookup_cons] at h
    by_cases hk : a == k
    · have e := eq_of_beq hk
      subst e
      simp at h
      subst h
      exact List.mem_cons_self
    · simp [hk] at h
      exact List.mem_cons_of_mem _ (ih h)
def fldOf (o idx : Nat) : Option (Nat × Nat) := (fldT.lookup (o, idx)).map (fun e => (e.1, e.2.1))
def callOf (o idx : Nat) : Option (Nat × Nat) := (callT.lookup (o, idx)).map (fun e => (e.1, e.2.1))
def clOf (o idx : Nat) : Option Nat := (clT.lookup (o, idx)).map (fun e => e.1)
def xN (x : Nat) : String := if x = 100 then "java/lang/IllegalArgumentException" else if x = 101 then "java/lang/IllegalStateException" else "java/lang/IndexOutOfBoundsException"
def cN (c : Nat) : String := if c < 100 then RN c else xN c
def mY (k : Nat) : MethodName := ((mth k).map (fun M => M.1)).getD yX0_init
def fldW (e : (Nat × Nat) × Nat × Nat × Nat) : Jvm.Cond := .fieldLink (RN e.1.1) e.1.2 (RN e.2.1) (TN e.2.1 e.2.2.1).2.1 (TN e.2.1 e.2.2.1).2.2.1
def callW (e : (Nat × Nat) × Nat × Nat × Nat) : Jvm.Cond := if e.2.1 = 2 then .methodLinkNest (RN e.1.1) e.1.2 (mY e.2.2.1) "DedupVault" else if e.2.1 = 4 then .methodLink (RN e.1.1) e.1.2 objectInit else if e.2.1 = 5 then .methodLink (RN e.1.1) e.1.2 Lib.Math.min.name else .methodLink (RN e.1.1) e.1.2 (mY e.2.2.1)
def clW (e : (Nat × Nat) × Nat × Nat) : Jvm.Cond := .classLink (RN e.1.1) e.1.2 (cN e.2.1)
set_option maxRecDepth 100000 in
theorem fld_all : ∀ e ∈ fldT, lw_tbl[e.2.2.2]? = some (fldW e) ∧ goodWord (fldW e) = true ∧ e.2.2.1 < NN e.2.1 ∧ e.2.1 < 9 ∧ 1 ≤ e.2.1 := by decide +kernel
set_option maxRecDepth 100000 in
theorem call_all : ∀ e ∈ callT, lw_tbl[e.2.2.2]? = some (callW e) ∧ (e.2.1 ≠ 2 → goodWord (callW e) = true) := by decide +kernel
set_option maxRecDepth 100000 in
theorem cl_all : ∀ e ∈ clT, lw_tbl[e.2.2]? = some (clW e) ∧ goodWord (clW e) = true := by decide +kernel
/-- a method's words: code, initialised, static or of an instance, selected -/
def mW (M : MI) : List Jvm.Cond := [.initialized M.1.cls, if M.2.2.2.2.2.1 then .static M.1 else .instanceMethod M.1]
def mSel (M : MI) : Jvm.Cond := .selects M.1.cls M.1 M.1
def mOk (M : MI) (p : Nat × Nat × Nat × Nat) : Prop := lw_tbl[p.2.1]? = some (.initialized M.1.cls) ∧ lw_tbl[p.2.2.1]? = some (if M.2.2.2.2.2.1 then .static M.1 else .instanceMethod M.1) ∧ (M.2.2.2.2.2.1 = false → M.1.name ≠ "<init>" → lw_tbl[p.2.2.2]? = some (mSel M)) ∧ M.1.cls = RN M.2.2.2.2.1
def mOkB (M : MI) (p : Nat × Nat × Nat × Nat) : Bool := decide (lw_tbl[p.2.1]? = some (.initialized M.1.cls)) && decide (lw_tbl[p.2.2.1]? = some (if M.2.2.2.2.2.1 then .static M.1 else .instanceMethod M.1)) && (M.2.2.2.2.2.1 || decide (M.1.name = "<init>") || decide (lw_tbl[p.2.2.2]? = some (mSel M))) && decide (M.1.cls = RN M.2.2.2.2.1)
theorem mOk_of {M : MI} {p : Nat × Nat × Nat × Nat} (h : mOkB M p = true) : mOk M p := by
  simp only [mOkB, Bool.and_eq_true, Bool.or_eq_true, decide_eq_true_eq] at h
  obtain ⟨⟨⟨h1, h2⟩, h3⟩, h4⟩ := h
  refine ⟨h1, h2, fun q1 q2 => ?_, h4⟩
  rcases h3 with (h3 | h3) | h3
  · rw [q1] at h3; cases h3
  · exact absurd h3 q2
  · exact h3
set_option maxRecDepth 100000 in
theorem m_allB : ∀ e ∈ mPT, mOkB e.1 e.2 = true := by decide +kernel
theorem m_in {k : Nat} {M : MI} (h : mth k = some M) : ∃ p, (M, p) ∈ mPT := by
  unfold mth at h
  cases hk : mPT[k]? with
  | none => rw [hk] at h; cases h
  | some e =>
    rw [hk] at h
    cases h
    exact ⟨e.2, List.mem_of_getElem? hk⟩
theorem m_ok {k : Nat} {M : MI} (h : mth k = some M) : ∃ p, mOk M p := by
  obtain ⟨p, hp⟩ := m_in h
  exact ⟨p, mOk_of (m_allB _ hp)⟩
theorem m_code {k : Nat} {M : MI} (h : mth k = some M) : ∃ p : Nat, lw_tbl[p]? = some (.code M.1 M.2.1 M.2.2.1 M.2.2.2.1) := by
  obtain ⟨p, hp⟩ := m_in h
  exact ⟨_, mc_all _ hp⟩
set_option maxRecDepth 100000 in
theorem m_stB : ∀ e ∈ mPT, (e.1.2.2.2.2.2.1 || decide (e.1.2.2.2.2.1 < 9)) = true := by decide +kernel
/-- a method of an object is no method of the law -/
theorem m_st {k : Nat} {M : MI} (h : mth k = some M) (hs : M.2.2.2.2.2.1 = false) : M.2.2.2.2.1 < 9 := by
  obtain ⟨p, hp⟩ := m_in h
  have h1 := m_stB _ hp
  rw [hs, Bool.false_or, decide_eq_true_eq] at h1
  exact h1
set_option maxRecDepth 100000 in
theorem m_argsB : ∀ e ∈ mPT, (parseMethodDescriptor e.1.1.desc).map (fun d => d.parameters.length) = some e.1.2.2.2.2.2.2 := by decide +kernel
theorem m_args {k : Nat} {M : MI} (h : mth k = some M) : (parseMethodDescriptor M.1.desc).map (fun d => d.parameters.length) = some M.2.2.2.2.2.2 := by
  obtain ⟨p, hp⟩ := m_in h
  exact m_argsB _ hp
/-- what a call's sort says of the method called -/
def callB (e : (Nat × Nat) × Nat × Nat × Nat) : Bool := match mth e.2.2.1 with
  | none => false
  | some M => match e.2.1 with
    | 0 => !M.2.2.2.2.2.1 && decide (M.1.name ≠ "<init>")
    | 1 => M.2.2.2.2.2.1
    | 2 => M.2.2.2.2.2.1
    | 3 => !M.2.2.2.2.2.1 && decide (M.1.name = "<init>") && M.2.2.2.1.isNone
    | _ => true
set_option maxRecDepth 100000 in
theorem call_chk : ∀ e ∈ callT, callB e = true := by decide +kernel
set_option maxRecDepth 100000 in
theorem m_mlB : ∀ e ∈ mPT, e.1.2.2.1 ≤ 20 ∧ plainName e.1.1.cls = true ∧ (e.1.1.cls ≠ "java/lang/invoke/MethodHandle" ∧ e.1.1.cls ≠ "java/lang/invoke/VarHandle") := by decide +kernel
theorem m_ml {k : Nat} {M : MI} (h : mth k = some M) : M.2.2.1 ≤ 20 ∧ plainName M.1.cls = true ∧ (M.1.cls ≠ "java/lang/invoke/MethodHandle" ∧ M.1.cls ≠ "java/lang/invoke/VarHandle") := by
  obtain ⟨p, hp⟩ := m_in h
  exact m_mlB _ hp
