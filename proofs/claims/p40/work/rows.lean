section
-- ===== PART A: goes FIRST, ahead of the names: the tables' words, and 'selects' of the private methods out of them =====
/-- a private method of a class that the tables say can be made, by its rows of tables_1 -/
def lw_okq (q : MethodName × Nat) : Prop := (q.1.cls ≠ "java/lang/invoke/MethodHandle" ∧ q.1.cls ≠ "java/lang/invoke/VarHandle") ∧ Cond.instantiable q.1.cls q.2 ∈ tables_1 ∧ Cond.privateMethod q.1 ∈ tables_1 ∧ Cond.instanceMethod q.1 ∈ tables_1
theorem lw_p0 : lw_okq (⟨"java/util/ArrayList", "add", "(Ljava/lang/Object;[Ljava/lang/Object;I)V"⟩, 3) := ⟨⟨by decide +kernel, by decide +kernel⟩, List.mem_of_getElem? (i := 49) (by decide +kernel), List.mem_of_getElem? (i := 105) (by decide +kernel), List.mem_of_getElem? (i := 106) (by decide +kernel)⟩
theorem lw_p1 : lw_okq (⟨"java/util/ArrayList", "grow", "()[Ljava/lang/Object;"⟩, 3) := ⟨⟨by decide +kernel, by decide +kernel⟩, List.mem_of_getElem? (i := 49) (by decide +kernel), List.mem_of_getElem? (i := 109) (by decide +kernel), List.mem_of_getElem? (i := 110) (by decide +kernel)⟩
theorem lw_p2 : lw_okq (⟨"java/util/ArrayList", "grow", "(I)[Ljava/lang/Object;"⟩, 3) := ⟨⟨by decide +kernel, by decide +kernel⟩, List.mem_of_getElem? (i := 49) (by decide +kernel), List.mem_of_getElem? (i := 113) (by decide +kernel), List.mem_of_getElem? (i := 114) (by decide +kernel)⟩
theorem lw_p3 : lw_okq (⟨"java/lang/Throwable", "fillInStackTrace", "(I)Ljava/lang/Throwable;"⟩, 6) := ⟨⟨by decide +kernel, by decide +kernel⟩, List.mem_of_getElem? (i := 257) (by decide +kernel), List.mem_of_getElem? (i := 255) (by decide +kernel), List.mem_of_getElem? (i := 256) (by decide +kernel)⟩
theorem lw_p4 : lw_okq (⟨"DedupVault", "demandVersion", "(II)LDedupVault$Version;"⟩, 5) := ⟨⟨by decide +kernel, by decide +kernel⟩, List.mem_of_getElem? (i := 27) (by decide +kernel), List.mem_of_getElem? (i := 342) (by decide +kernel), List.mem_of_getElem? (i := 343) (by decide +kernel)⟩
theorem lw_p5 : lw_okq (⟨"DedupVault", "findVersion", "(II)LDedupVault$Version;"⟩, 5) := ⟨⟨by decide +kernel, by decide +kernel⟩, List.mem_of_getElem? (i := 27) (by decide +kernel), List.mem_of_getElem? (i := 346) (by decide +kernel), List.mem_of_getElem? (i := 347) (by decide +kernel)⟩
theorem lw_p6 : lw_okq (⟨"DedupVault", "latestKept", "(I)LDedupVault$Version;"⟩, 5) := ⟨⟨by decide +kernel, by decide +kernel⟩, List.mem_of_getElem? (i := 27) (by decide +kernel), List.mem_of_getElem? (i := 532) (by decide +kernel), List.mem_of_getElem? (i := 533) (by decide +kernel)⟩
theorem lw_p7 : lw_okq (⟨"DedupVault$Shelf", "storeNew", "(LDedupVault$Piece;)LDedupVault$Chunk;"⟩, 6) := ⟨⟨by decide +kernel, by decide +kernel⟩, List.mem_of_getElem? (i := 75) (by decide +kernel), List.mem_of_getElem? (i := 574) (by decide +kernel), List.mem_of_getElem? (i := 575) (by decide +kernel)⟩
theorem lw_p8 : lw_okq (⟨"DedupVault$Shelf", "openFor", "(LDedupVault$Piece;)LDedupVault$Container;"⟩, 6) := ⟨⟨by decide +kernel, by decide +kernel⟩, List.mem_of_getElem? (i := 75) (by decide +kernel), List.mem_of_getElem? (i := 578) (by decide +kernel), List.mem_of_getElem? (i := 579) (by decide +kernel)⟩
theorem lw_p9 : lw_okq (⟨"DedupVault$Shelf", "use", "(LDedupVault$Container;)V"⟩, 6) := ⟨⟨by decide +kernel, by decide +kernel⟩, List.mem_of_getElem? (i := 75) (by decide +kernel), List.mem_of_getElem? (i := 632) (by decide +kernel), List.mem_of_getElem? (i := 633) (by decide +kernel)⟩
theorem lw_p10 : lw_okq (⟨"DedupVault$Shelf", "leaveCache", "(LDedupVault$Container;)V"⟩, 6) := ⟨⟨by decide +kernel, by decide +kernel⟩, List.mem_of_getElem? (i := 75) (by decide +kernel), List.mem_of_getElem? (i := 636) (by decide +kernel), List.mem_of_getElem? (i := 637) (by decide +kernel)⟩
theorem lw_p11 : lw_okq (⟨"java/util/ArrayList", "fastRemove", "([Ljava/lang/Object;I)V"⟩, 3) := ⟨⟨by decide +kernel, by decide +kernel⟩, List.mem_of_getElem? (i := 49) (by decide +kernel), List.mem_of_getElem? (i := 644) (by decide +kernel), List.mem_of_getElem? (i := 645) (by decide +kernel)⟩
theorem lw_p12 : lw_okq (⟨"java/util/ArrayList", "rangeCheckForAdd", "(I)V"⟩, 3) := ⟨⟨by decide +kernel, by decide +kernel⟩, List.mem_of_getElem? (i := 49) (by decide +kernel), List.mem_of_getElem? (i := 653) (by decide +kernel), List.mem_of_getElem? (i := 654) (by decide +kernel)⟩
theorem lw_p13 : lw_okq (⟨"DedupVault$Version", "differenceTo", "(LDedupVault$Version;)I"⟩, 5) := ⟨⟨by decide +kernel, by decide +kernel⟩, List.mem_of_getElem? (i := 542) (by decide +kernel), List.mem_of_getElem? (i := 674) (by decide +kernel), List.mem_of_getElem? (i := 675) (by decide +kernel)⟩
theorem lw_p14 : lw_okq (⟨"DedupVault$Version", "fromEnd", "(I)I"⟩, 5) := ⟨⟨by decide +kernel, by decide +kernel⟩, List.mem_of_getElem? (i := 542) (by decide +kernel), List.mem_of_getElem? (i := 688) (by decide +kernel), List.mem_of_getElem? (i := 689) (by decide +kernel)⟩
theorem lw_p15 : lw_okq (⟨"DedupVault", "demandChunk", "(I)LDedupVault$Chunk;"⟩, 5) := ⟨⟨by decide +kernel, by decide +kernel⟩, List.mem_of_getElem? (i := 27) (by decide +kernel), List.mem_of_getElem? (i := 743) (by decide +kernel), List.mem_of_getElem? (i := 744) (by decide +kernel)⟩
def lw_privs_1 : List (MethodName × Nat) := [(⟨"java/util/ArrayList", "add", "(Ljava/lang/Object;[Ljava/lang/Object;I)V"⟩, 3), (⟨"java/util/ArrayList", "grow", "()[Ljava/lang/Object;"⟩, 3), (⟨"java/util/ArrayList", "grow", "(I)[Ljava/lang/Object;"⟩, 3), (⟨"java/lang/Throwable", "fillInStackTrace", "(I)Ljava/lang/Throwable;"⟩, 6), (⟨"DedupVault", "demandVersion", "(II)LDedupVault$Version;"⟩, 5), (⟨"DedupVault", "findVersion", "(II)LDedupVault$Version;"⟩, 5), (⟨"DedupVault", "latestKept", "(I)LDedupVault$Version;"⟩, 5), (⟨"DedupVault$Shelf", "storeNew", "(LDedupVault$Piece;)LDedupVault$Chunk;"⟩, 6), (⟨"DedupVault$Shelf", "openFor", "(LDedupVault$Piece;)LDedupVault$Container;"⟩, 6), (⟨"DedupVault$Shelf", "use", "(LDedupVault$Container;)V"⟩, 6), (⟨"DedupVault$Shelf", "leaveCache", "(LDedupVault$Container;)V"⟩, 6), (⟨"java/util/ArrayList", "fastRemove", "([Ljava/lang/Object;I)V"⟩, 3), (⟨"java/util/ArrayList", "rangeCheckForAdd", "(I)V"⟩, 3), (⟨"DedupVault$Version", "differenceTo", "(LDedupVault$Version;)I"⟩, 5), (⟨"DedupVault$Version", "fromEnd", "(I)I"⟩, 5), (⟨"DedupVault", "demandChunk", "(I)LDedupVault$Chunk;"⟩, 5)]
theorem lw_r1 : ∀ q ∈ lw_privs_1, lw_okq q := List.forall_mem_cons.mpr ⟨lw_p0, List.forall_mem_cons.mpr ⟨lw_p1, List.forall_mem_cons.mpr ⟨lw_p2, List.forall_mem_cons.mpr ⟨lw_p3, List.forall_mem_cons.mpr ⟨lw_p4, List.forall_mem_cons.mpr ⟨lw_p5, List.forall_mem_cons.mpr ⟨lw_p6, List.forall_mem_cons.mpr ⟨lw_p7, List.forall_mem_cons.mpr ⟨lw_p8, List.forall_mem_cons.mpr ⟨lw_p9, List.forall_mem_cons.mpr ⟨lw_p10, List.forall_mem_cons.mpr ⟨lw_p11, List.forall_mem_cons.mpr ⟨lw_p12, List.forall_mem_cons.mpr ⟨lw_p13, List.forall_mem_cons.mpr ⟨lw_p14, List.forall_mem_cons.mpr ⟨lw_p15, fun _ h => absurd h List.not_mem_nil⟩⟩⟩⟩⟩⟩⟩⟩⟩⟩⟩⟩⟩⟩⟩⟩
theorem lw_p16 : lw_okq (⟨"DedupVault$Shelf", "empty", "(LDedupVault$Container;)V"⟩, 6) := ⟨⟨by decide +kernel, by decide +kernel⟩, List.mem_of_getElem? (i := 75) (by decide +kernel), List.mem_of_getElem? (i := 809) (by decide +kernel), List.mem_of_getElem? (i := 810) (by decide +kernel)⟩
def lw_privs_2 : List (MethodName × Nat) := [(⟨"DedupVault$Shelf", "empty", "(LDedupVault$Container;)V"⟩, 6)]
theorem lw_r2 : ∀ q ∈ lw_privs_2, lw_okq q := List.forall_mem_cons.mpr ⟨lw_p16, fun _ h => absurd h List.not_mem_nil⟩
def lw_privs : List (MethodName × Nat) := lw_privs_1 ++ (lw_privs_2)
def lw_tbl : List Cond := k2_sels lw_privs ++ tables_1
theorem lw_privs_ok : ∀ q ∈ lw_privs, lw_okq q := by
  show ∀ q ∈ lw_privs_1 ++ (lw_privs_2), lw_okq q
  exact List.forall_mem_append.mpr ⟨lw_r1, lw_r2⟩
/-- the streams that the claim lets the run draw from -/
abbrev lw_cs : List Choice := [Jvm.Choice.named "NaN.bits"]
theorem lw_bits : nanBits ∈ lw_cs := by first | decide | exact List.mem_cons_self | simp [lw_cs, nanBits]
end
section
/-! ===== BEGIN words of one list among another's, by their places ===== -/
theorem goodIn_r {big : List Cond} (ws : List Cond) (ps : List Nat) (hp : ws = ps.filterMap (fun i => big[i]?)) (h : ws.all goodWord = true) : GoodIn big ws := by
  intro w hw
  have h1 := List.all_eq_true.mp h w hw
  rw [hp] at hw
  obtain ⟨i, -, hi⟩ := List.mem_filterMap.mp hw
  have hm : w ∈ big := by first | exact List.mem_of_getElem? hi | exact List.getElem?_mem hi
  exact ⟨hm, good_of_word h1⟩
theorem goodIn_app {big a b : List Cond} (ha : GoodIn big a) (hb : GoodIn big b) : GoodIn big (a ++ b) := fun w h => (List.mem_append.mp h).elim (ha w) (hb w)
theorem goodIn_ca {big a b : List Cond} {c : Cond} (ha : GoodIn big (c :: a)) (hb : GoodIn big b) : GoodIn big (c :: (a ++ b)) := fun w h => (List.mem_cons.mp h).elim (fun e => ha w (List.mem_cons.mpr (Or.inl e))) (fun h => (List.mem_append.mp h).elim (fun h => ha w (List.mem_cons.mpr (Or.inr h))) (hb w))
theorem goodIn_sub {big ws : List Cond} (hm : ∀ w ∈ ws, w ∈ big) (h : ws.all goodWord = true) : GoodIn big ws := fun w hw => ⟨hm w hw, good_of_word (List.all_eq_true.mp h w hw)⟩
/-! ===== END ===== -/
/-! ===== BEGIN exceptions that leave a method, and their catching by the caller (launches without stack traces) ===== -/
section VXA
/-! The laws vx_back, vx_callV, vx_callS, vx_callSW, vx_throw0, vx_throwS follow proofs of the library, with one case more: JvmDerived/Free/Laws.lean (Back.of_free), Shelf42/LK1.lean (callV, callS), Shelf/KitTraced.lean (throwNew0V, throwNewS). -/
/-- where a method has thrown q: the class by its name, the cell, what was written, the world -/
def vx_T (XC : String → State → State → Prop) (st : State) (q : Addr) (t : State) (mc ms : Nat) (free : Addr → Prop) : Prop :=
  ∃ (E : String) (ce : Cell) (L : List Loc), XC E st t ∧ t.heap[q]? = some ce ∧ ce.vm = .none ∧ st.vm.findClass E = some ce.cls ∧ st.WarmedH t.vm ∧ st.sameButNew ({ t with vm := st.vm } : State) L mc ms ∧ ∀ z ∈ L, free z.base
def vx_Q (Qc : Array Value → State → Outcome → State → Prop) (XC : String → State → State → Prop) (mc ms : Nat) (free : Addr → Prop) : Array Value → State → Outcome → State → Prop := fun a st o t =>
  (Qc a st o t ∧ ∃ L, FrameEnd st o t L mc ms ∧ ∀ q ∈ L, free q.base) ∨ ∃ q, o = .threw q ∧ vx_T XC st q t mc ms free
/-- a callee that returns or throws -/
def vx_Met (l : Launch) (y : MethodName) (ws : List Cond) (rm : Room) (Pc : Array Value → State → Prop) (Qc : Array Value → State → Outcome → State → Prop) (XC : String → State → State → Prop) (mc ms : Nat) (free : Addr → Prop) : Prop :=
  MetFree l y (headSpec ws rm) Pc (fun _ _ _ _ _ => True) (vx_Q Qc XC mc ms free)
def vx_Post (XC : String → State → State → Prop) (mc ms : Nat) (free : Addr → Prop) : Pt → Array Value → Addr → Pt → Prop := fun A a q B =>
  ∃ (g : JFrame) (mk : MethodId) (t : State) (L : List Loc) (E : String) (ce : Cell), B.U.heap = t.heap ∧ B.U.vm = t.vm ∧ XC E (A.U.calling g mk a) t ∧ t.heap[q]? = some ce ∧ ce.vm = .none ∧ A.U.vm.findClass E = some ce.cls ∧ B.locs = A.locs ++ L ∧ (∀ z ∈ L, free z.base) ∧ B.cells = A.cells + mc ∧ B.slots = A.slots + ms
def vx_Back (l : Launch) (R : Room) (p : Program) (e : Env) (below : List Frame) (s : State) (sargs : Array Value) (y : MethodName) (len W9 : Nat)
    (Pre : Pt → Array Value → Prop) (Post : Pt → Array Value → Option Value → Pt → Prop) (PostX : Pt → Array Value → Addr → Pt → Prop) : Prop :=
  ∀ (m : MethodId) (meth : Method) (c : Code) (A : Pt) (g : JFrame) (ig : Instr) (mk : MethodId) (a : Array Value),
    Stand p l e R s m sargs below meth c A.U A.locs A.cells A.slots → g.method = m → g.locals.size = c.maxLocals → decode c.code g.pc = .ok (ig, len) →
    2 * g.monitorRoom + (g.stack.map fun v => v.category).sum ≤ W9 → A.U.methodNamed? y = some mk → Pre A a →
    (∃ (v : Option Value) (B : Pt), Stand p l e R s m sargs below meth c B.U B.locs B.cells B.slots ∧ Post A a v B ∧
      Steps p.tables e below (doInvoke e (A.U.setTop g) [] mk a).1 (B.U.setTop { g with pc := g.pc + len, stack := v.toList ++ g.stack })) ∨
    (∃ (q : Addr) (B : Pt), Stand p l e R s m sargs below meth c B.U B.locs B.cells B.slots ∧ PostX A a q B ∧
      Steps p.tables e below (doInvoke e (A.U.setTop g) [] mk a).1 ((B.U.setTop g).pushFrame (.throwing q)))
section Payer
variable {l : Launch} {R : Room} {p : Program} {e : Env} {below : List Frame} {s : State} {sargs : Array Value} {y : MethodName} {len W9 : Nat}
theorem vx_back {ws : List Cond} {rm : Room} {Pc : Array Value → State → Prop} {Qc : Array Value → State → Outcome → State → Prop} {XC : String → State → State → Prop} {mc ms : Nat} {free : Addr → Prop} {bytes : ByteArray} {maxL : Nat} {ret : Option FieldType}
    (hM : vx_Met l y ws rm Pc Qc XC mc ms free) (hblind : FrameBlind Pc) (hrc : rm.cells = mc) (hrs : rm.slots = ms)
    (hframes : rm.frames + 1 ≤ R.frames) (hlocals : W9 + (maxL + 11) + rm.locals ≤ R.locals)
    (hws : ∀ w ∈ ws, ∀ a' U, s.WarmedH U.vm → w.before a' U = true) (hcode : Cond.code y bytes maxL ret ∈ ws) (hinit : ∀ a' U, s.WarmedH U.vm → (Cond.initialized y.cls).before a' U = true) :
    vx_Back l R p e below s sargs y len W9 (PreOf R mc ms Pc) (PostOf Qc mc ms free) (vx_Post XC mc ms free) := by
  intro m meth c A g ig mk a X hg hsize hdg hW hn hp
  have h1 : (headSpec ws rm).pre.before a A.U = true := atoms_intro fun w hw => hws w hw _ _ X.warmed
  have h2 : (Cond.code y bytes maxL ret).before a A.U = true := hws _ hcode _ _ X.warmed
  have h3 : (Cond.initialized y.cls).before a A.U = true := hinit _ _ X.warmed
  have h4 : A.cells + (headSpec ws rm).room.cells ≤ R.cells := by rw [show (headSpec ws rm).room.cells = mc from hrc]; exact hp.1
  have h5 : A.slots + (headSpec ws rm).room.slots ≤ R.slots := by rw [show (headSpec ws rm).room.slots = ms from hrs]; exact hp.2.1
  have hPc : Pc a (A.U.calling g mk a) := hblind _ _ _ _ hp.2.2
  obtain ⟨U, Ls, c0, s0⟩ := A
  dsimp only [Pt.U, Pt.locs, Pt.cells, Pt.slots] at h1 h2 h3 h4 h5 X hn hPc ⊢
  obtain ⟨methY, cY, hmY, hcY, -, hlY, -, -, -, -⟩ := Cond.code_spec hn h2
  obtain ⟨kY, hkY, -⟩ := className_of_methodNamed hn
  have hinitY : kY.init = .initialized := Cond.initialized_spec (findClass_of_methodNamed hn) hkY h3
  have h : At U g.method c below := by rw [hg]; exact X.here
  have hlocals9 : W9 + (maxL + 11) + (headSpec ws rm).room.locals ≤ R.locals := hlocals
  have happ : (headSpec ws rm).appliesLoose y e.platform (U.calling g mk a) = true :=
    Spec.appliesLoose_calling (g := g) h hdg hn hkY hinitY
      (X.room_calling (g := g) (R' := (headSpec ws rm).room) hsize hmY hcY hframes (by rw [hlY]; omega) h4 h5) h1
  obtain ⟨mid, hmid⟩ := h.above
  have hfr : (U.setTop g).frames = (.java g :: mid) ++ below := by rw [State.frames_setTop' g h.top, hmid]; rfl
  obtain ⟨o, s₂, hsteps, -, hend, hq⟩ := Steps.callFree hM p X.admits X.cas X.clock (acts := []) hfr happ hPc trivial
  have hq' : vx_Q Qc XC mc ms free a (U.calling g mk a) o s₂ := hq
  rw [State.frames_setTop' g h.top] at hend
  obtain ⟨g₀, hg0⟩ := Option.isSome_iff_exists.mp h.top
  obtain ⟨r, hr⟩ := State.topJava?_eq_some.mp hg0
  have hr' : (({ U with heap := s₂.heap, slotsUsed := s₂.slotsUsed } : State).setVm s₂.vm).frames = .java g₀ :: r := hr
  rcases hq' with ⟨hqc, L, hfe, hL⟩ | ⟨q, rfl, E, ce, L, hx, hce, hcv, hcl, hW₂, hsm, hL⟩
  · obtain ⟨⟨v, rfl⟩, hW₂, e2, q2, q3, q4, q5, q6⟩ := id hfe
    have e3 : s₂ = ({ (U.calling g mk a).setFrames s₂.frames with heap := s₂.heap, slotsUsed := s₂.slotsUsed } : State).setVm s₂.vm := by
      have : s₂ = ({ s₂ with vm := (U.calling g mk a).vm } : State).setVm s₂.vm := rfl
      rw [e2] at this
      exact this
    obtain ⟨c₂, i₂, len₂, hc₂, hd₂, hf₂⟩ := hend
    have hW' : U.WarmedH s₂.vm := hW₂
    have hcc : c₂ = c := by
      have h1 : s₂.code? g.method = U.code? g.method := by
        rw [State.code?_eq, State.code?_eq, hW'.alike.method?]
      exact Option.some.inj (hc₂.symm.trans (h1.trans h.code))
    subst hcc
    have hlen : len₂ = len := by rw [hdg] at hd₂; cases hd₂; rfl
    subst hlen
    have hs₂ : s₂ = (({ U with heap := s₂.heap, slotsUsed := s₂.slotsUsed } : State).setVm s₂.vm).setTop { g with pc := g.pc + len₂, stack := v.toList ++ g.stack } := by
      refine e3.trans ?_
      rw [hf₂, State.calling_eq h.top, State.setFrames_setFrames, State.setTop_of_frames _ hr', hr]
      rfl
    have hsame : U.sameButNew ({ U with heap := s₂.heap, slotsUsed := s₂.slotsUsed } : State) L mc ms := by
      refine ⟨?_, q2, q3, q4, q5, q6⟩
      obtain ⟨t, ht, -⟩ := State.frames_cons hr
      show ({ U with heap := s₂.heap, slotsUsed := s₂.slotsUsed } : State) = { U.setFrames U.frames with heap := s₂.heap, slotsUsed := s₂.slotsUsed }
      rw [State.setFrames_self ht]
    subst hg
    refine Or.inl ⟨v, ⟨(({ U with heap := s₂.heap, slotsUsed := s₂.slotsUsed } : State).setVm s₂.vm), Ls ++ L, c0 + mc, s0 + ms⟩,
      ⟨X.admits, X.cas, X.clock, X.frames, X.room, X.hears, X.method, X.code, (X.here.setHeapUsed s₂.heap s₂.slotsUsed).setVm hW'.alike, X.tail, State.WarmedH.trans X.warmed hW', X.limits, X.bytes, X.same.trans (hsame.setVm s.vm)⟩,
      ⟨g, mk, s₂, L, rfl, rfl, hqc, rfl, hL, rfl, rfl⟩, ?_⟩
    show Steps p.tables e below _ ((({ U with heap := s₂.heap, slotsUsed := s₂.slotsUsed } : State).setVm s₂.vm).setTop { g with pc := g.pc + len₂, stack := v.toList ++ g.stack })
    rw [← hs₂]
    exact hsteps
  · obtain ⟨e2, q2, q3, q4, q5, q6⟩ := id hsm
    have e3 : s₂ = ({ (U.calling g mk a).setFrames s₂.frames with heap := s₂.heap, slotsUsed := s₂.slotsUsed } : State).setVm s₂.vm := by
      have : s₂ = ({ s₂ with vm := (U.calling g mk a).vm } : State).setVm s₂.vm := rfl
      rw [e2] at this
      exact this
    have hf₂ : s₂.frames = .throwing q :: .java g :: U.frames.tail := hend
    have hW' : U.WarmedH s₂.vm := hW₂
    have hs₂ : s₂ = ((({ U with heap := s₂.heap, slotsUsed := s₂.slotsUsed } : State).setVm s₂.vm).setTop g).pushFrame (.throwing q) := by
      refine e3.trans ?_
      rw [hf₂, State.calling_eq h.top, State.setFrames_setFrames, State.pushFrame, State.frames_setTop _ hr', State.setTop_of_frames _ hr', State.setFrames_setFrames, hr]
      rfl
    have hsame : U.sameButNew ({ U with heap := s₂.heap, slotsUsed := s₂.slotsUsed } : State) L mc ms := by
      refine ⟨?_, q2, q3, q4, q5, q6⟩
      obtain ⟨t, ht, -⟩ := State.frames_cons hr
      show ({ U with heap := s₂.heap, slotsUsed := s₂.slotsUsed } : State) = { U.setFrames U.frames with heap := s₂.heap, slotsUsed := s₂.slotsUsed }
      rw [State.setFrames_self ht]
    subst hg
    refine Or.inr ⟨q, ⟨(({ U with heap := s₂.heap, slotsUsed := s₂.slotsUsed } : State).setVm s₂.vm), Ls ++ L, c0 + mc, s0 + ms⟩,
      ⟨X.admits, X.cas, X.clock, X.frames, X.room, X.hears, X.method, X.code, (X.here.setHeapUsed s₂.heap s₂.slotsUsed).setVm hW'.alike, X.tail, State.WarmedH.trans X.warmed hW', X.limits, X.bytes, X.same.trans (hsame.setVm s.vm)⟩,
      ⟨g, mk, s₂, L, E, ce, rfl, rfl, hx, hce, hcv, hcl, rfl, hL, rfl, rfl⟩, ?_⟩
    show Steps p.tables e below _ (((({ U with heap := s₂.heap, slotsUsed := s₂.slotsUsed } : State).setVm s₂.vm).setTop g).pushFrame (.throwing q))
    rw [← hs₂]
    exact hsteps
end Payer
section Calls
variable {p : Program} {l : Launch} {e : Env} {R : Room} {s : State} {m : MethodId} {args : Array Value} {below : List Frame} {meth : Method} {c : Code} {T : State} {locs : List Loc} {cells slots : Nat}
theorem vx_callV (X : Stand p l e R s m args below meth c T locs cells slots) (hexec : p.tables.exec = Jvm.exec) {own C : String} {index : Nat} {y : MethodName} {bytes : ByteArray} {maxL : Nat} {ret : Option FieldType}
    (hown : s.vm.findClass own = some m.cls) (hlink : (Cond.methodLink own index y).before args s = true) (hinst : (Cond.instanceMethod y).before args s = true) (hsel : (Cond.selects C y y).before args s = true)
    (hcode : (Cond.code y bytes maxL ret).before args s = true) (hy : y.cls ≠ "java/lang/invoke/MethodHandle" ∧ y.cls ≠ "java/lang/invoke/VarHandle")
    {W9 : Nat} {Pre : Pt → Array Value → Prop} {Post : Pt → Array Value → Option Value → Pt → Prop} {PostX : Pt → Array Value → Addr → Pt → Prop} (hK : vx_Back l R p e below s args y 3 W9 Pre Post PostX)
    {b : Addr} {cellB : Cell} (hcell : T.heap[b]? = some cellB) (hobj : cellB.vm.isStatics = false) (hcls : s.vm.findClass C = some cellB.cls)
    {g : JFrame} (hg : g.method = m) (hsize : g.locals.size = c.maxLocals) {argsL rest : List Value} (hlen : ∀ sig, parseMethodDescriptor y.desc = some sig → argsL.length = sig.parameters.length)
    (hstack : g.stack = argsL.reverse ++ .ref b :: rest) (hW : 2 * g.monitorRoom + (rest.map fun v => v.category).sum ≤ W9) (hdg : decode c.code g.pc = .ok (.invokevirtual index, 3))
    (hpre : ∀ vm₁, s.WarmedH vm₁ → Pre ⟨T.setVm vm₁, locs, cells, slots⟩ (Value.ref b :: argsL).toArray) :
    (∃ (v : Option Value) (vm₁ : Vm) (B : Pt), s.WarmedH vm₁ ∧ Stand p l e R s m args below meth c B.U B.locs B.cells B.slots ∧ Post ⟨T.setVm vm₁, locs, cells, slots⟩ (Value.ref b :: argsL).toArray v B ∧
      ∀ target, Steps p.tables e below (B.U.setTop { g with pc := g.pc + 3, stack := v.toList ++ rest }) target → Steps p.tables e below (T.setTop g) target) ∨
    (∃ (q : Addr) (vm₁ : Vm) (B : Pt), s.WarmedH vm₁ ∧ Stand p l e R s m args below meth c B.U B.locs B.cells B.slots ∧ PostX ⟨T.setVm vm₁, locs, cells, slots⟩ (Value.ref b :: argsL).toArray q B ∧
      Steps p.tables e below (T.setTop g) ((B.U.setTop { g with stack := rest }).pushFrame (.throwing q))) := by
  obtain ⟨mk, methM, hnamed, hmethM, hstM, habM⟩ := Cond.instanceMethod_spec hinst
  obtain ⟨methM', cM, hmethM', -, -, -, -, -, -, hsigM⟩ := Cond.code_spec hnamed hcode
  cases hmethM.symm.trans hmethM'
  obtain ⟨c2, r2, m2, q1, q2, q3, q4, kP, hkP, hkPi⟩ := Cond.selects_spec hsel
  cases hcls.symm.trans q1
  cases (State.methodFound?_of_named hnamed hy).symm.trans q2
  cases hnamed.symm.trans q3
  have hselP : selectMethod e.platform s.vm cellB.cls mk = .method mk := by rw [Launch.admits_selectMethod X.admits]; exact q4
  obtain ⟨vm₁, X₁, hstep₁⟩ := X.invokevirtual hexec hown hlink hnamed hmethM hstM hkP hkPi hy (a := b) (cell := cellB) hcell
    (fun z h => by rw [h] at hobj; cases hobj) hselP hmethM habM hkP hkPi (g := g) hg (argsL := argsL) (rest := rest) (hlen _ hsigM) hstack hdg
  rcases hK m meth c ⟨T.setVm vm₁, locs, cells, slots⟩ { g with stack := rest } (.invokevirtual index) mk (Value.ref b :: argsL).toArray X₁ hg hsize hdg hW (X₁.named hnamed) (hpre vm₁ X₁.warmed) with ⟨v, B, X', hpost, hsteps⟩ | ⟨q, B, X', hpost, hsteps⟩
  · exact Or.inl ⟨v, vm₁, B, X₁.warmed, X', hpost, fun target h => hstep₁ _ fun acts => by rw [doInvoke_state]; exact hsteps.trans h⟩
  · exact Or.inr ⟨q, vm₁, B, X₁.warmed, X', hpost, hstep₁ _ fun acts => by rw [doInvoke_state]; exact hsteps⟩
theorem vx_callS (X : Stand p l e R s m args below meth c T locs cells slots) (hexec : p.tables.exec = Jvm.exec) {own : String} {index : Nat} {y : MethodName} {bytes : ByteArray} {maxL : Nat} {ret : Option FieldType}
    (hown : s.vm.findClass own = some m.cls) (hlink : (Cond.methodLink own index y).before args s = true) (hstat : (Cond.static y).before args s = true) (hinit : (Cond.initialized y.cls).before args s = true)
    (hcode : (Cond.code y bytes maxL ret).before args s = true) (hy : y.cls ≠ "java/lang/invoke/MethodHandle" ∧ y.cls ≠ "java/lang/invoke/VarHandle")
    {W9 : Nat} {Pre : Pt → Array Value → Prop} {Post : Pt → Array Value → Option Value → Pt → Prop} {PostX : Pt → Array Value → Addr → Pt → Prop} (hK : vx_Back l R p e below s args y 3 W9 Pre Post PostX)
    {g : JFrame} (hg : g.method = m) (hsize : g.locals.size = c.maxLocals) {argsL rest : List Value} (hlen : ∀ sig, parseMethodDescriptor y.desc = some sig → argsL.length = sig.parameters.length)
    (hstack : g.stack = argsL.reverse ++ rest) (hW : 2 * g.monitorRoom + (rest.map fun v => v.category).sum ≤ W9) (hdg : decode c.code g.pc = .ok (.invokestatic index, 3))
    (hpre : ∀ vm₁, s.WarmedH vm₁ → Pre ⟨T.setVm vm₁, locs, cells, slots⟩ argsL.toArray) :
    (∃ (v : Option Value) (vm₁ : Vm) (B : Pt), s.WarmedH vm₁ ∧ Stand p l e R s m args below meth c B.U B.locs B.cells B.slots ∧ Post ⟨T.setVm vm₁, locs, cells, slots⟩ argsL.toArray v B ∧
      ∀ target, Steps p.tables e below (B.U.setTop { g with pc := g.pc + 3, stack := v.toList ++ rest }) target → Steps p.tables e below (T.setTop g) target) ∨
    (∃ (q : Addr) (vm₁ : Vm) (B : Pt), s.WarmedH vm₁ ∧ Stand p l e R s m args below meth c B.U B.locs B.cells B.slots ∧ PostX ⟨T.setVm vm₁, locs, cells, slots⟩ argsL.toArray q B ∧
      Steps p.tables e below (T.setTop g) ((B.U.setTop { g with stack := rest }).pushFrame (.throwing q))) := by
  obtain ⟨mk, hnamed⟩ := Cond.code_named hcode
  obtain ⟨methM, cM, hmethM, -, -, -, -, -, -, hsigM⟩ := Cond.code_spec hnamed hcode
  have hstatic : methM.isStatic = true := Cond.static_spec hnamed hmethM hstat
  obtain ⟨kP, hkP, -⟩ := className_of_methodNamed hnamed
  have hinitP : kP.init = .initialized := Cond.initialized_spec (findClass_of_methodNamed hnamed) hkP hinit
  obtain ⟨vm₁, X₁, hstep₁⟩ := X.invokestatic hexec hown hlink hnamed hmethM hstatic hkP hinitP hy (g := g) hg (argsL := argsL) (rest := rest) (hlen _ hsigM) hstack hdg
  rcases hK m meth c ⟨T.setVm vm₁, locs, cells, slots⟩ { g with stack := rest } (.invokestatic index) mk argsL.toArray X₁ hg hsize hdg hW (X₁.named hnamed) (hpre vm₁ X₁.warmed) with ⟨v, B, X', hpost, hsteps⟩ | ⟨q, B, X', hpost, hsteps⟩
  · exact Or.inl ⟨v, vm₁, B, X₁.warmed, X', hpost, fun target h => hstep₁ _ fun acts => by rw [doInvoke_state]; exact hsteps.trans h⟩
  · exact Or.inr ⟨q, vm₁, B, X₁.warmed, X', hpost, hstep₁ _ fun acts => by rw [doInvoke_state]; exact hsteps⟩
end Calls
theorem vx_cls {s : State} {T : State} {vm₁ : Vm} {E : String} {k : ClassId} (hW : s.WarmedH vm₁) (h : (T.setVm vm₁).vm.findClass E = some k) : s.vm.findClass E = some k := by
  have h1 : vm₁.findClass E = some k := h
  rw [hW.alike.findClass] at h1
  exact h1
/-- the method's frame g, with q thrown over it -/
def vx_W (p : Program) (l : Launch) (e : Env) (R : Room) (s : State) (m : MethodId) (args : Array Value) (below : List Frame) (meth : Method) (c : Code) (H : Heap) (locs : List Loc) (cells slots : Nat) (Q : State → Prop) (g : JFrame) (q : Addr) : Prop :=
  ∀ T : State, T.heap = H → Stand p l e R s m args below meth c T locs cells slots → ∃ t, Steps p.tables e below ((T.setTop g).pushFrame (.throwing q)) t ∧ Q t
def vx_Run (p : Program) (l : Launch) (e : Env) (R : Room) (s : State) (m : MethodId) (args : Array Value) (below : List Frame) (meth : Method) (c : Code) (H : Heap) (locs : List Loc) (cells slots mc ms : Nat) (g : JFrame) (rest : List Value) (Qa : State → Outcome → State → Prop) (XC : String → State → State → Prop) (free : Addr → Prop) : Prop :=
  ∀ T : State, T.heap = H → Stand p l e R s m args below meth c T locs cells slots →
    (∃ (v : Option Value) (st₀ t T' : State) (L : List Loc), st₀.heap = H ∧ Stand p l e R s m args below meth c T' (locs ++ L) (cells + mc) (slots + ms) ∧ (∀ q ∈ L, free q.base) ∧ T'.heap = t.heap ∧ T'.vm = t.vm ∧ Qa st₀ (.returned v) t ∧
      Goes p e below T g T' { g with pc := g.pc + 3, stack := v.toList ++ rest }) ∨
    (∃ (q : Addr) (st₀ t T' : State) (L : List Loc) (E : String) (ce : Cell), st₀.heap = H ∧ Stand p l e R s m args below meth c T' (locs ++ L) (cells + mc) (slots + ms) ∧ (∀ z ∈ L, free z.base) ∧ T'.heap = t.heap ∧ T'.vm = t.vm ∧ XC E st₀ t ∧ t.heap[q]? = some ce ∧ ce.vm = .none ∧ s.vm.findClass E = some ce.cls ∧
      Steps p.tables e below (T.setTop g) ((T'.setTop { g with stack := rest }).pushFrame (.throwing q)))
def vx_X {S : Type} (px : S → Prop) (B : String → S → State → Prop) (A : Nat → Prop) : String → State → State → Prop := fun E st t => ∃ u : S, px u ∧ B E u t ∧ va_F A st t
section Runs
variable {p : Program} {l : Launch} {e : Env} {R : Room} {s : State} {m : MethodId} {args : Array Value} {below : List Frame} {meth : Method} {c : Code} {H : Heap} {locs : List Loc} {cells slots : Nat}
variable {y : MethodName} {bytes cc : ByteArray} {maxL nL mc ms n index : Nat} {ret : Option FieldType} {ws : List Cond} {rm : Room} {Pc : Array Value → State → Prop} {Qc : Array Value → State → Outcome → State → Prop} {XC : String → State → State → Prop} {free : Addr → Prop} {Ts : List Cond} {own C : String} {b : Addr} {As rest : List Value} {g : JFrame}
theorem vx_callBack (cb : CallB R s args own index y bytes maxL ret ws rm mc ms n) (hM : vx_Met l y ws rm Pc Qc XC mc ms free) (hbl : FrameBlind Pc) : vx_Back l R p e below s args y 3 8 (PreOf R mc ms Pc) (PostOf Qc mc ms free) (vx_Post XC mc ms free) := by
  obtain ⟨hrc, hrs, hfr, hlo, hws, hcw, -, hini, -⟩ := cb
  exact vx_back (bytes := bytes) (maxL := maxL) (ret := ret) hM hbl hrc hrs hfr hlo hws hcw (fun a' U hW => word_at hW (Or.inl (by first | rfl | simp [Cond.onTables, Cond.keeps, Cond.steady])) hini)
theorem vx_runV (S : CallFix p m c cc nL s args Ts own) (hM : vx_Met l y ws rm Pc Qc XC mc ms free) (cw : CallW R s args own C index y bytes maxL ret ws rm mc ms n) (hp : PreV s H C b Pc As)
    (hg : g.method = m) (hn : As.length = n) (hsize : g.locals.size = nL) (hstack : g.stack = As.reverse ++ .ref b :: rest) (hW : 2 * g.monitorRoom + (rest.map fun v => v.category).sum ≤ 8) (hdg : decode cc g.pc = .ok (.invokevirtual index, 3)) (hf : cells + mc ≤ R.cells ∧ slots + ms ≤ R.slots) :
    vx_Run p l e R s m args below meth c H locs cells slots mc ms g rest (Qc (Value.ref b :: As).toArray) XC free := by
  have hK : vx_Back l R p e below s args y 3 8 (PreOf R mc ms Pc) (PostOf Qc mc ms free) (vx_Post XC mc ms free) := vx_callBack cw.1 hM hp.1
  obtain ⟨⟨-, -, -, -, -, -, hcode, -, hy, hlen, hl⟩, hin, hse⟩ := cw
  obtain ⟨hx, hb, hml, ho, -⟩ := S
  obtain ⟨-, ⟨cellB, hcB, hoB, hclB⟩, hPc⟩ := hp
  intro T hT X
  rcases vx_callV X hx (C := C) (bytes := bytes) (maxL := maxL) (ret := ret) ho hl hin hse hcode hy hK (by rw [hT]; exact hcB) hoB hclB hg (hsize.trans hml.symm) (argsL := As) (rest := rest) (fun sig h => hn.trans (hlen sig h)) hstack hW (by rw [hb]; exact hdg)
    (fun vm₁ hW₁ => ⟨hf.1, hf.2, hPc (T.setVm vm₁) hT hW₁⟩) with ⟨v, vm₁, ⟨U', l2, c2, s2⟩, hW₁, X', ⟨g', mk, t, L, e1, e2, hq, h1, hL, h2, h3⟩, st⟩ | ⟨q, vm₁, ⟨U', l2, c2, s2⟩, hW₁, X', ⟨g', mk, t, L, E, ce, e1, e2, hq, hce, hcv, hcl, h1, hL, h2, h3⟩, st⟩
  · dsimp only [Pt.U, Pt.locs, Pt.cells, Pt.slots] at X' e1 e2 h1 h2 h3 st
    subst h1; subst h2; subst h3
    exact Or.inl ⟨v, (T.setVm vm₁).calling g' mk (Value.ref b :: As).toArray, t, U', L, hT, X', hL, e1, e2, hq, st⟩
  · dsimp only [Pt.U, Pt.locs, Pt.cells, Pt.slots] at X' e1 e2 h1 h2 h3 st hcl
    subst h1; subst h2; subst h3
    exact Or.inr ⟨q, (T.setVm vm₁).calling g' mk (Value.ref b :: As).toArray, t, U', L, E, ce, hT, X', hL, e1, e2, hq, hce, hcv, vx_cls hW₁ hcl, st⟩
theorem vx_runS (S : CallFix p m c cc nL s args Ts own) (hM : vx_Met l y ws rm Pc Qc XC mc ms free) (cw : CallB R s args own index y bytes maxL ret ws rm mc ms n ∧ (Cond.static y).before args s = true) (hp : PreS s H Pc As)
    (hg : g.method = m) (hn : As.length = n) (hsize : g.locals.size = nL) (hstack : g.stack = As.reverse ++ rest) (hW : 2 * g.monitorRoom + (rest.map fun v => v.category).sum ≤ 8) (hdg : decode cc g.pc = .ok (.invokestatic index, 3)) (hf : cells + mc ≤ R.cells ∧ slots + ms ≤ R.slots) :
    vx_Run p l e R s m args below meth c H locs cells slots mc ms g rest (Qc As.toArray) XC free := by
  have hK : vx_Back l R p e below s args y 3 8 (PreOf R mc ms Pc) (PostOf Qc mc ms free) (vx_Post XC mc ms free) := vx_callBack cw.1 hM hp.1
  obtain ⟨⟨-, -, -, -, -, -, hcode, hini, hy, hlen, hl⟩, hstt⟩ := cw
  obtain ⟨hx, hb, hml, ho, -⟩ := S
  intro T hT X
  rcases vx_callS X hx (bytes := bytes) (maxL := maxL) (ret := ret) ho hl hstt hini hcode hy hK hg (hsize.trans hml.symm) (argsL := As) (rest := rest) (fun sig h => hn.trans (hlen sig h)) hstack hW (by rw [hb]; exact hdg)
    (fun vm₁ hW₁ => ⟨hf.1, hf.2, hp.2 (T.setVm vm₁) hT hW₁⟩) with ⟨v, vm₁, ⟨U', l2, c2, s2⟩, hW₁, X', ⟨g', mk, t, L, e1, e2, hq, h1, hL, h2, h3⟩, st⟩ | ⟨q, vm₁, ⟨U', l2, c2, s2⟩, hW₁, X', ⟨g', mk, t, L, E, ce, e1, e2, hq, hce, hcv, hcl, h1, hL, h2, h3⟩, st⟩
  · dsimp only [Pt.U, Pt.locs, Pt.cells, Pt.slots] at X' e1 e2 h1 h2 h3 st
    subst h1; subst h2; subst h3
    exact Or.inl ⟨v, (T.setVm vm₁).calling g' mk As.toArray, t, U', L, hT, X', hL, e1, e2, hq, st⟩
  · dsimp only [Pt.U, Pt.locs, Pt.cells, Pt.slots] at X' e1 e2 h1 h2 h3 st hcl
    subst h1; subst h2; subst h3
    exact Or.inr ⟨q, (T.setVm vm₁).calling g' mk As.toArray, t, U', L, E, ce, hT, X', hL, e1, e2, hq, hce, hcv, vx_cls hW₁ hcl, st⟩
end Runs
section Rows
variable {p : Program} {l : Launch} {e : Env} {R : Room} {s : State} {m : MethodId} {args : Array Value} {below : List Frame} {meth : Method} {c : Code} {H : Heap} {locs : List Loc} {cells slots : Nat} {Q : State → Prop}
variable {mc ms : Nat} {free : Addr → Prop} {A0 A1 : Nat → Prop} {H0 : Heap} {a : Array Value} {pc : Nat} {ls : Array Slot} {st0 rest : List Value}
theorem vx_keep {st₀ t T' : State} {L : List Loc} (h0 : st₀.heap = H) (e1 : T'.heap = t.heap) (hS : va_S A0 H0 H locs) (hA : ∀ q, q < H.size → A1 q → A0 q) (hf : ∀ q, free q → A0 q) (hL : ∀ q ∈ L, free q.base) (hF : va_F A1 st₀ t) :
    H.size ≤ T'.heap.size ∧ (∀ q : Nat, q < H.size → ¬ A1 q → T'.heap[q]? = H[q]?) ∧ va_S A0 H0 T'.heap (locs ++ L) := by
  obtain ⟨hz, hk⟩ := hF
  rw [h0] at hz hk
  exact ⟨by rw [e1]; exact hz, fun q h1 h2 => by rw [e1]; exact hk q h1 h2,
    ⟨Nat.le_trans hS.1 (by rw [e1]; exact hz), fun q h1 h2 => by rw [e1, hk q (Nat.lt_of_lt_of_le h1 hS.1) (fun z => h2 (hA q (Nat.lt_of_lt_of_le h1 hS.1) z))]; exact hS.2.1 q h1 h2, fun q hq => by
      rcases List.mem_append.mp hq with h | h
      · exact hS.2.2 q h
      · exact hf _ (hL q h)⟩⟩
theorem vx_calli {S SX : Type} {post : Int32 → S → Prop} {px : SX → Prop} {B : S → State → Prop} {BX : String → SX → State → Prop} {AX : Nat → Prop} (hr : vx_Run p l e R s m args below meth c H locs cells slots mc ms (F0 m pc ls st0) rest (va_Qi post B A1 a) (vx_X px BX AX) free) (hS : va_S A0 H0 H locs) (hA : ∀ q, q < H.size → A1 q → A0 q) (hf : ∀ q, free q → A0 q) (hAX : ∀ q, q < H.size → AX q → A0 q)
    (kx : ∀ (E : String) (ce : Cell) (q9 : Addr) (u : SX) (t : State) (H1 : Heap) (locs1 : List Loc), t.heap = H1 → s.vm.Alike t.vm → px u → BX E u t → H.size ≤ H1.size → (∀ q : Nat, q < H.size → ¬ AX q → H1[q]? = H[q]?) → va_S A0 H0 H1 locs1 → H1[q9]? = some ce → ce.vm = .none → s.vm.findClass E = some ce.cls → vx_W p l e R s m args below meth c H1 locs1 (cells + mc) (slots + ms) Q (F0 m pc ls rest) q9)
    (kk : ∀ (r : Int32) (u : S) (t : State) (H1 : Heap) (locs1 : List Loc), t.heap = H1 → s.vm.Alike t.vm → post r u → B u t → H.size ≤ H1.size → (∀ q : Nat, q < H.size → ¬ A1 q → H1[q]? = H[q]?) → va_S A0 H0 H1 locs1 → W p l e R s m args below meth c H1 locs1 (cells + mc) (slots + ms) Q (F0 m (pc + 3) ls (.int r :: rest))) : W p l e R s m args below meth c H locs cells slots Q (F0 m pc ls st0) := by
  intro T hT X
  rcases hr T hT X with ⟨v, st₀, t, T', L, h0, X', hL, e1, e2, ⟨⟨r, u, hv, hp, hb⟩, hF⟩, st⟩ | ⟨q, st₀, t, T', L, E, ce, h0, X', hL, e1, e2, ⟨u, hp, hb, hF⟩, hce, hcv, hcl, st⟩
  · cases hv
    obtain ⟨k1, k2, k3⟩ := vx_keep h0 e1 hS hA hf hL hF
    obtain ⟨t2, a1, b1⟩ := kk r u t T'.heap (locs ++ L) e1.symm (by rw [← e2]; exact X'.warmed.alike) hp hb k1 k2 k3 T' rfl X'
    exact ⟨t2, st t2 a1, b1⟩
  · obtain ⟨k1, k2, k3⟩ := vx_keep h0 e1 hS hAX hf hL hF
    obtain ⟨t2, a1, b1⟩ := kx E ce q u t T'.heap (locs ++ L) e1.symm (by rw [← e2]; exact X'.warmed.alike) hp hb k1 k2 k3 (by rw [e1]; exact hce) hcv hcl T' rfl X'
    exact ⟨t2, st.trans a1, b1⟩
theorem vx_calll {S SX : Type} {post : Int64 → S → Prop} {px : SX → Prop} {B : S → State → Prop} {BX : String → SX → State → Prop} {AX : Nat → Prop} (hr : vx_Run p l e R s m args below meth c H locs cells slots mc ms (F0 m pc ls st0) rest (va_Ql post B A1 a) (vx_X px BX AX) free) (hS : va_S A0 H0 H locs) (hA : ∀ q, q < H.size → A1 q → A0 q) (hf : ∀ q, free q → A0 q) (hAX : ∀ q, q < H.size → AX q → A0 q)
    (kx : ∀ (E : String) (ce : Cell) (q9 : Addr) (u : SX) (t : State) (H1 : Heap) (locs1 : List Loc), t.heap = H1 → s.vm.Alike t.vm → px u → BX E u t → H.size ≤ H1.size → (∀ q : Nat, q < H.size → ¬ AX q → H1[q]? = H[q]?) → va_S A0 H0 H1 locs1 → H1[q9]? = some ce → ce.vm = .none → s.vm.findClass E = some ce.cls → vx_W p l e R s m args below meth c H1 locs1 (cells + mc) (slots + ms) Q (F0 m pc ls rest) q9)
    (kk : ∀ (r : Int64) (u : S) (t : State) (H1 : Heap) (locs1 : List Loc), t.heap = H1 → s.vm.Alike t.vm → post r u → B u t → H.size ≤ H1.size → (∀ q : Nat, q < H.size → ¬ A1 q → H1[q]? = H[q]?) → va_S A0 H0 H1 locs1 → W p l e R s m args below meth c H1 locs1 (cells + mc) (slots + ms) Q (F0 m (pc + 3) ls (.long r :: rest))) : W p l e R s m args below meth c H locs cells slots Q (F0 m pc ls st0) := by
  intro T hT X
  rcases hr T hT X with ⟨v, st₀, t, T', L, h0, X', hL, e1, e2, ⟨⟨r, u, hv, hp, hb⟩, hF⟩, st⟩ | ⟨q, st₀, t, T', L, E, ce, h0, X', hL, e1, e2, ⟨u, hp, hb, hF⟩, hce, hcv, hcl, st⟩
  · cases hv
    obtain ⟨k1, k2, k3⟩ := vx_keep h0 e1 hS hA hf hL hF
    obtain ⟨t2, a1, b1⟩ := kk r u t T'.heap (locs ++ L) e1.symm (by rw [← e2]; exact X'.warmed.alike) hp hb k1 k2 k3 T' rfl X'
    exact ⟨t2, st t2 a1, b1⟩
  · obtain ⟨k1, k2, k3⟩ := vx_keep h0 e1 hS hAX hf hL hF
    obtain ⟨t2, a1, b1⟩ := kx E ce q u t T'.heap (locs ++ L) e1.symm (by rw [← e2]; exact X'.warmed.alike) hp hb k1 k2 k3 (by rw [e1]; exact hce) hcv hcl T' rfl X'
    exact ⟨t2, st.trans a1, b1⟩
theorem vx_callf {S SX : Type} {post : UInt32 → S → Prop} {px : SX → Prop} {B : S → State → Prop} {BX : String → SX → State → Prop} {AX : Nat → Prop} (hr : vx_Run p l e R s m args below meth c H locs cells slots mc ms (F0 m pc ls st0) rest (va_Qf post B A1 a) (vx_X px BX AX) free) (hS : va_S A0 H0 H locs) (hA : ∀ q, q < H.size → A1 q → A0 q) (hf : ∀ q, free q → A0 q) (hAX : ∀ q, q < H.size → AX q → A0 q)
    (kx : ∀ (E : String) (ce : Cell) (q9 : Addr) (u : SX) (t : State) (H1 : Heap) (locs1 : List Loc), t.heap = H1 → s.vm.Alike t.vm → px u → BX E u t → H.size ≤ H1.size → (∀ q : Nat, q < H.size → ¬ AX q → H1[q]? = H[q]?) → va_S A0 H0 H1 locs1 → H1[q9]? = some ce → ce.vm = .none → s.vm.findClass E = some ce.cls → vx_W p l e R s m args below meth c H1 locs1 (cells + mc) (slots + ms) Q (F0 m pc ls rest) q9)
    (kk : ∀ (r : UInt32) (u : S) (t : State) (H1 : Heap) (locs1 : List Loc), t.heap = H1 → s.vm.Alike t.vm → post r u → B u t → H.size ≤ H1.size → (∀ q : Nat, q < H.size → ¬ A1 q → H1[q]? = H[q]?) → va_S A0 H0 H1 locs1 → W p l e R s m args below meth c H1 locs1 (cells + mc) (slots + ms) Q (F0 m (pc + 3) ls (.float r :: rest))) : W p l e R s m args below meth c H locs cells slots Q (F0 m pc ls st0) := by
  intro T hT X
  rcases hr T hT X with ⟨v, st₀, t, T', L, h0, X', hL, e1, e2, ⟨⟨r, u, hv, hp, hb⟩, hF⟩, st⟩ | ⟨q, st₀, t, T', L, E, ce, h0, X', hL, e1, e2, ⟨u, hp, hb, hF⟩, hce, hcv, hcl, st⟩
  · cases hv
    obtain ⟨k1, k2, k3⟩ := vx_keep h0 e1 hS hA hf hL hF
    obtain ⟨t2, a1, b1⟩ := kk r u t T'.heap (locs ++ L) e1.symm (by rw [← e2]; exact X'.warmed.alike) hp hb k1 k2 k3 T' rfl X'
    exact ⟨t2, st t2 a1, b1⟩
  · obtain ⟨k1, k2, k3⟩ := vx_keep h0 e1 hS hAX hf hL hF
    obtain ⟨t2, a1, b1⟩ := kx E ce q u t T'.heap (locs ++ L) e1.symm (by rw [← e2]; exact X'.warmed.alike) hp hb k1 k2 k3 (by rw [e1]; exact hce) hcv hcl T' rfl X'
    exact ⟨t2, st.trans a1, b1⟩
theorem vx_calld {S SX : Type} {post : UInt64 → S → Prop} {px : SX → Prop} {B : S → State → Prop} {BX : String → SX → State → Prop} {AX : Nat → Prop} (hr : vx_Run p l e R s m args below meth c H locs cells slots mc ms (F0 m pc ls st0) rest (va_Qd post B A1 a) (vx_X px BX AX) free) (hS : va_S A0 H0 H locs) (hA : ∀ q, q < H.size → A1 q → A0 q) (hf : ∀ q, free q → A0 q) (hAX : ∀ q, q < H.size → AX q → A0 q)
    (kx : ∀ (E : String) (ce : Cell) (q9 : Addr) (u : SX) (t : State) (H1 : Heap) (locs1 : List Loc), t.heap = H1 → s.vm.Alike t.vm → px u → BX E u t → H.size ≤ H1.size → (∀ q : Nat, q < H.size → ¬ AX q → H1[q]? = H[q]?) → va_S A0 H0 H1 locs1 → H1[q9]? = some ce → ce.vm = .none → s.vm.findClass E = some ce.cls → vx_W p l e R s m args below meth c H1 locs1 (cells + mc) (slots + ms) Q (F0 m pc ls rest) q9)
    (kk : ∀ (r : UInt64) (u : S) (t : State) (H1 : Heap) (locs1 : List Loc), t.heap = H1 → s.vm.Alike t.vm → post r u → B u t → H.size ≤ H1.size → (∀ q : Nat, q < H.size → ¬ A1 q → H1[q]? = H[q]?) → va_S A0 H0 H1 locs1 → W p l e R s m args below meth c H1 locs1 (cells + mc) (slots + ms) Q (F0 m (pc + 3) ls (.double r :: rest))) : W p l e R s m args below meth c H locs cells slots Q (F0 m pc ls st0) := by
  intro T hT X
  rcases hr T hT X with ⟨v, st₀, t, T', L, h0, X', hL, e1, e2, ⟨⟨r, u, hv, hp, hb⟩, hF⟩, st⟩ | ⟨q, st₀, t, T', L, E, ce, h0, X', hL, e1, e2, ⟨u, hp, hb, hF⟩, hce, hcv, hcl, st⟩
  · cases hv
    obtain ⟨k1, k2, k3⟩ := vx_keep h0 e1 hS hA hf hL hF
    obtain ⟨t2, a1, b1⟩ := kk r u t T'.heap (locs ++ L) e1.symm (by rw [← e2]; exact X'.warmed.alike) hp hb k1 k2 k3 T' rfl X'
    exact ⟨t2, st t2 a1, b1⟩
  · obtain ⟨k1, k2, k3⟩ := vx_keep h0 e1 hS hAX hf hL hF
    obtain ⟨t2, a1, b1⟩ := kx E ce q u t T'.heap (locs ++ L) e1.symm (by rw [← e2]; exact X'.warmed.alike) hp hb k1 k2 k3 (by rw [e1]; exact hce) hcv hcl T' rfl X'
    exact ⟨t2, st.trans a1, b1⟩
theorem vx_callv {S SX : Type} {post : S → Prop} {px : SX → Prop} {B : S → State → Prop} {BX : String → SX → State → Prop} {AX : Nat → Prop} (hr : vx_Run p l e R s m args below meth c H locs cells slots mc ms (F0 m pc ls st0) rest (va_Qv post B A1 a) (vx_X px BX AX) free) (hS : va_S A0 H0 H locs) (hA : ∀ q, q < H.size → A1 q → A0 q) (hf : ∀ q, free q → A0 q) (hAX : ∀ q, q < H.size → AX q → A0 q)
    (kx : ∀ (E : String) (ce : Cell) (q9 : Addr) (u : SX) (t : State) (H1 : Heap) (locs1 : List Loc), t.heap = H1 → s.vm.Alike t.vm → px u → BX E u t → H.size ≤ H1.size → (∀ q : Nat, q < H.size → ¬ AX q → H1[q]? = H[q]?) → va_S A0 H0 H1 locs1 → H1[q9]? = some ce → ce.vm = .none → s.vm.findClass E = some ce.cls → vx_W p l e R s m args below meth c H1 locs1 (cells + mc) (slots + ms) Q (F0 m pc ls rest) q9)
    (kk : ∀ (u : S) (t : State) (H1 : Heap) (locs1 : List Loc), t.heap = H1 → s.vm.Alike t.vm → post u → B u t → H.size ≤ H1.size → (∀ q : Nat, q < H.size → ¬ A1 q → H1[q]? = H[q]?) → va_S A0 H0 H1 locs1 → W p l e R s m args below meth c H1 locs1 (cells + mc) (slots + ms) Q (F0 m (pc + 3) ls (rest))) : W p l e R s m args below meth c H locs cells slots Q (F0 m pc ls st0) := by
  intro T hT X
  rcases hr T hT X with ⟨v, st₀, t, T', L, h0, X', hL, e1, e2, ⟨⟨u, hv, hp, hb⟩, hF⟩, st⟩ | ⟨q, st₀, t, T', L, E, ce, h0, X', hL, e1, e2, ⟨u, hp, hb, hF⟩, hce, hcv, hcl, st⟩
  · cases hv
    obtain ⟨k1, k2, k3⟩ := vx_keep h0 e1 hS hA hf hL hF
    obtain ⟨t2, a1, b1⟩ := kk u t T'.heap (locs ++ L) e1.symm (by rw [← e2]; exact X'.warmed.alike) hp hb k1 k2 k3 T' rfl X'
    exact ⟨t2, st t2 a1, b1⟩
  · obtain ⟨k1, k2, k3⟩ := vx_keep h0 e1 hS hAX hf hL hF
    obtain ⟨t2, a1, b1⟩ := kx E ce q u t T'.heap (locs ++ L) e1.symm (by rw [← e2]; exact X'.warmed.alike) hp hb k1 k2 k3 (by rw [e1]; exact hce) hcv hcl T' rfl X'
    exact ⟨t2, st.trans a1, b1⟩
/-- caught by the row x of this method's table; the rows ahead don't take it -/
theorem vx_catch {own name : String} {E : String} {ce : Cell} {q : Addr} (hown : s.vm.findClass own = some m.cls) (pre : List ExceptionTableEntry) (x : ExceptionTableEntry) (suf : List ExceptionTableEntry) (hsplit : c.exceptionTable.toList = pre ++ x :: suf)
    (hpass : ∀ z ∈ pre, covers z pc = false ∨ (z.catchType ≠ 0 ∧ ∃ nm : String, (Cond.classLink own z.catchType nm).before args s = true ∧ va_Nc E nm s)) (hx : covers x pc = true) (h0 : x.catchType ≠ 0)
    (hlink : (Cond.classLink own x.catchType name).before args s = true) (hcast : (Cond.castable E name).before args s = true) (hcell : H[q]? = some ce) (hv : ce.vm = .none) (hcl : s.vm.findClass E = some ce.cls)
    (kk : W p l e R s m args below meth c H locs cells slots Q (F0 m x.handlerPc ls [.ref q])) : vx_W p l e R s m args below meth c H locs cells slots Q (F0 m pc ls rest) q := by
  intro T hT X
  have hpl : e.platform.magicAccessors = ({} : Platform).magicAccessors := by rw [X.admits.platform]
  obtain ⟨c3, c4, hc3, hc4, hasg⟩ := Cond.castable_spec hcast
  cases Option.some.inj (hc3.symm.trans hcl)
  obtain ⟨c5, hc5, hcl5⟩ := Cond.classLink_spec hown hlink e.platform hpl
  cases Option.some.inj (hc4.symm.trans hc5)
  obtain ⟨vm', X', st⟩ := X.thenCaughtThrough q (g := F0 m pc ls rest) rfl (Steps.refl _) (by rw [hT]; exact hcell) (by rw [hv]; rfl) (by obtain ⟨k9, h9, -⟩ := Vm.findClass_spec hcl; exact ⟨k9, h9⟩) pre x suf hsplit
    (fun z hz => by
      rcases hpass z hz with h | ⟨hz0, nm, hl1, hn1⟩
      · exact Or.inl h
      · obtain ⟨c6, hc6, hcl6⟩ := Cond.classLink_spec hown hl1 e.platform hpl
        obtain ⟨a8, b8, h1, h2, h3⟩ := hn1
        cases Option.some.inj (h1.symm.trans hcl)
        cases Option.some.inj (h2.symm.trans hc6)
        exact Or.inr ⟨hz0, _, hcl6, h3⟩) hx (Or.inr ⟨h0, c4, hcl5, hasg⟩)
  obtain ⟨t, a1, b1⟩ := kk (T.setVm vm') hT X'
  exact ⟨t, st.trans a1, b1⟩
end Rows
section Ends
variable {p : Program} {l : Launch} {e : Env} {R : Room} {s : State} {m : MethodId} {args : Array Value} {below : List Frame} {meth : Method} {c : Code} {H : Heap} {locs : List Loc} {cells slots : Nat} {Q : State → Prop}
variable {mc ms : Nat} {free : Addr → Prop} {A0 A1 : Nat → Prop} {H0 : Heap} {a : Array Value} {ls : Array Slot} {st0 rest : List Value}
variable {Qc : Array Value → State → Outcome → State → Prop} {XC : String → State → State → Prop}
/-- what a body that may throw owes at its end -/
def vx_MQ (below : List Frame) (Qc : Array Value → State → Outcome → State → Prop) (XC : String → State → State → Prop) (a : Array Value) (s : State) (mc ms : Nat) (free : Addr → Prop) : State → Prop := fun t =>
  ∃ o, t.status = .running ∧ Ended t below o ∧ vx_Q Qc XC mc ms free a s o t
theorem vx_ret {g : JFrame} {mc ms : Nat} (k : W p l e R s m args below meth c H locs cells slots (MQ below Qc args s mc ms free) g) : W p l e R s m args below meth c H locs cells slots (vx_MQ below Qc XC args s mc ms free) g := by
  intro T hT X
  obtain ⟨t, a1, o, b1, b2, b3, b4⟩ := k T hT X
  exact ⟨t, a1, o, b1, b2, Or.inl ⟨b3, b4⟩⟩
/-- not caught here: it goes on to the caller -/
theorem vx_widen {g : JFrame} {q : Addr} {k n : Nat} (h1 : cells ≤ k) (h2 : slots ≤ n) (kk : vx_W p l e R s m args below meth c H locs k n Q g q) : vx_W p l e R s m args below meth c H locs cells slots Q g q := fun T hT X => kk T hT (stand_widen X h1 h2)
theorem vx_out {pc : Nat} {E : String} {ce : Cell} {q : Addr} {mc ms : Nat} (hout : ∀ x ∈ c.exceptionTable.toList, covers x pc = false) (hlocks : meth.locks = false) (hcell : H[q]? = some ce) (hv : ce.vm = .none) (hcl : s.vm.findClass E = some ce.cls)
    (hx : ∀ t : State, t.heap = H → s.vm.Alike t.vm → XC E s t) (hf : ∀ z ∈ locs, free z.base) (hc : cells ≤ mc) (hs : slots ≤ ms) :
    vx_W p l e R s m args below meth c H locs cells slots (vx_MQ below Qc XC args s mc ms free) (F0 m pc ls rest) q := by
  intro T hT X
  obtain ⟨st1, hrun, hend, hW, hsm⟩ := X.leaveThrown q (g := F0 m pc ls rest) rfl rfl rfl hout hlocks
  have hcell9 : (T.setFrames (.throwing q :: below)).heap[q]? = some ce := by
    show T.heap[q]? = some ce
    rw [hT]; exact hcell
  exact ⟨_, st1, .threw q, hrun, hend, Or.inr ⟨q, rfl, E, ce, locs, hx _ hT hW.alike, hcell9, hv, hcl, hW, hsm.mono hc hs, hf⟩⟩
theorem vx_frame {U : State} {k n : Nat} (h : s.sameButNew ({ U with vm := s.vm } : State) locs k n) : s.heap.size ≤ U.heap.size ∧ ∀ q : Nat, q < s.heap.size → (∀ z ∈ locs, z.base ≠ q) → U.heap[q]? = s.heap[q]? := by
  obtain ⟨-, h2, -, -, -, h6⟩ := h
  refine ⟨h2, fun q hq hz => ?_⟩
  obtain ⟨c9, e1, e2, e3, e4⟩ := h6 q _ (Array.getElem?_eq_getElem hq)
  have hs : c9.slots = (s.heap[q]).slots := Array.ext_getElem? fun i => e4 i fun hm => hz _ hm rfl
  have h9 : c9 = s.heap[q] := by
    rw [hs] at e2
    exact e2
  have e5 : U.heap[q]? = some c9 := e1
  rw [e5, h9, Array.getElem?_eq_getElem hq]
/-- the words of a throw but the four that speak of the heap -/
def vx_no (w : Cond) : Bool := decide (w ≠ .isRef (.static Bundle.tN "UNASSIGNED_STACK" Bundle.steD)) && decide (w ≠ .isRef (.static Bundle.tN "SUPPRESSED_SENTINEL" Bundle.listD)) && decide (w ≠ .laysStatic Bundle.tN "UNASSIGNED_STACK" Bundle.steD) && decide (w ≠ .laysStatic Bundle.tN "SUPPRESSED_SENTINEL" Bundle.listD)
def vx_at0 (own : String) (ic : Nat) (X : String) (names : List String) : List Cond := (Bundle.ownAtoms0 own ic X names).filter vx_no
def vx_atS (own : String) (ic : Nat) (X : String) (names : List String) : List Cond := (Bundle.ownAtoms own ic X names).filter vx_no
/-- a word that the tables alone decide, or a good one -/
def vx_ot (w : Cond) : Bool := w.onTables || goodWord w
theorem vx_ot_at {args a' : Array Value} {s U : State} {w : Cond} (hW : s.WarmedH U.vm) (hvm : s.vm = U.vm) (hg : vx_ot w = true) (h : w.before args s = true) : w.before a' U = true := by
  simp only [vx_ot, Bool.or_eq_true] at hg
  rcases hg with hg | hg
  · exact va_tabs hg hvm h
  · exact word_at hW (good_of_word hg) h
/-- a list's words: the good ones out of the method's own list, the others by premises of their own -/
theorem vx_hat {args : Array Value} {s : State} {L B : List Cond} (h1 : ∀ w ∈ L.filter goodWord, w.before args s = true) (h2 : ∀ w ∈ L.filter (fun w => !goodWord w), w ∈ B) (h3 : ∀ w ∈ B, w.before args s = true) : ∀ w ∈ L, w.before args s = true := by
  intro w hw
  by_cases g : goodWord w = true
  · exact h1 w (List.mem_filter.mpr ⟨hw, g⟩)
  · refine h3 w (h2 w (List.mem_filter.mpr ⟨hw, ?_⟩))
    show (!goodWord w) = true
    cases hgw : goodWord w
    · rfl
    · exact absurd hgw g
theorem vx_c {args : Array Value} {s : State} {w : Cond} {B : List Cond} (h : w.before args s = true) (t : ∀ w ∈ B, w.before args s = true) : ∀ w' ∈ w :: B, w'.before args s = true := fun w' h' => (List.mem_cons.mp h').elim (fun e => by rw [e]; exact h) (t w')
theorem vx_n {args : Array Value} {s : State} : ∀ w ∈ ([] : List Cond), w.before args s = true := fun _ h => nomatch h
theorem vx_own {args : Array Value} {s : State} {L : List Cond} (h1 : ∀ w ∈ L.filter vx_no, w.before args s = true)
    (hU : (Cond.isRef (.static Bundle.tN "UNASSIGNED_STACK" Bundle.steD)).before args s = true) (hN : (Cond.isRef (.static Bundle.tN "SUPPRESSED_SENTINEL" Bundle.listD)).before args s = true)
    (lU : (Cond.laysStatic Bundle.tN "UNASSIGNED_STACK" Bundle.steD).before args s = true) (lN : (Cond.laysStatic Bundle.tN "SUPPRESSED_SENTINEL" Bundle.listD).before args s = true) : ∀ w ∈ L, w.before args s = true := by
  intro w hw
  by_cases e1 : w = .isRef (.static Bundle.tN "UNASSIGNED_STACK" Bundle.steD)
  · rw [e1]; exact hU
  · by_cases e2 : w = .isRef (.static Bundle.tN "SUPPRESSED_SENTINEL" Bundle.listD)
    · rw [e2]; exact hN
    · by_cases e3 : w = .laysStatic Bundle.tN "UNASSIGNED_STACK" Bundle.steD
      · rw [e3]; exact lU
      · by_cases e4 : w = .laysStatic Bundle.tN "SUPPRESSED_SENTINEL" Bundle.listD
        · rw [e4]; exact lN
        · exact h1 w (List.mem_filter.mpr ⟨hw, by unfold vx_no; rw [decide_eq_true e1, decide_eq_true e2, decide_eq_true e3, decide_eq_true e4]; rfl⟩)
/-- where a static field lies, its class's statics cell in H -/
def vx_L (C n d : String) (A : Nat → Prop) (U : State) (H : Heap) : Prop := ∃ (c : ClassId) (k : Class) (i : Nat) (f : Field) (a : Nat) (cell : Cell), U.vm.findClass C = some c ∧ U.fieldFound? C n d = some (c, k, i, f) ∧ f.isStatic = true ∧ k.statics = some a ∧ H[a]? = some cell ∧ cell.vm.isStatics = true ∧ cell.cls = c ∧ f.slot < cell.slots.size ∧ k.staticTypes[f.slot]? = some f.type ∧ ¬ A a
theorem vx_L.moved {C n d : String} {A : Nat → Prop} {u U : State} {H : Heap} (hvm : u.vm.Alike U.vm) (h : vx_L C n d A u H) : vx_L C n d A U H := by
  obtain ⟨c, k, i, f, a, cell, h1, h2, h3, h4, h5, h6, h7, h8, h9, h10⟩ := h
  obtain ⟨k', hi', he⟩ := State.fieldFound?_setVm hvm h2
  exact ⟨c, k', i, f, a, cell, by rw [hvm.findClass]; exact h1, hi', h3, by rw [he]; exact h4, h5, h6, h7, h8, by rw [he]; exact h9, h10⟩
theorem vx_L.kept {C n d : String} {A : Nat → Prop} {U : State} {H H1 : Heap} (h : vx_L C n d A U H) (hq : ∀ a : Nat, a < H.size → ¬ A a → H1[a]? = H[a]?) : vx_L C n d A U H1 := by
  obtain ⟨c, k, i, f, a, cell, h1, h2, h3, h4, h5, h6, h7, h8, h9, h10⟩ := h
  exact ⟨c, k, i, f, a, cell, h1, h2, h3, h4, by rw [hq a (Array.getElem?_eq_some_iff.mp h5).1 h10]; exact h5, h6, h7, h8, h9, h10⟩
theorem vx_L.narrow {C n d : String} {A B : Nat → Prop} {U : State} {H : Heap} (h : vx_L C n d A U H) (hAB : ∀ q, B q → A q) : vx_L C n d B U H := by
  obtain ⟨c, k, i, f, a, cell, h1, h2, h3, h4, h5, h6, h7, h8, h9, h10⟩ := h
  exact ⟨c, k, i, f, a, cell, h1, h2, h3, h4, h5, h6, h7, h8, h9, fun z => h10 (hAB _ z)⟩
theorem vx_L.word {C n d : String} {A : Nat → Prop} {s : State} {args : Array Value} (h : vx_L C n d A s s.heap) : (Cond.laysStatic C n d).before args s = true := by
  obtain ⟨c, k, i, f, a, cell, h1, h2, h3, h4, h5, h6, h7, h8, h9, -⟩ := h
  show (Cond.laysStatic C n d).holds args s none s [] = true
  exact Cond.laysStatic_of h1 h2 h3 h4 h5 h6 h7 h8 h9
/-- .. and what it holds: null or some reference -/
def vx_Zq (C n d : String) (A : Nat → Prop) (U : State) (H : Heap) : Prop := va_Zq C n d A U H ∧ vx_L C n d A U H
theorem vx_Zq.moved {C n d : String} {A : Nat → Prop} {u U : State} {H : Heap} (hvm : u.vm.Alike U.vm) (h : vx_Zq C n d A u H) : vx_Zq C n d A U H := ⟨va_Zq.moved hvm h.1, vx_L.moved hvm h.2⟩
theorem vx_Zq.kept {C n d : String} {A : Nat → Prop} {U : State} {H H1 : Heap} (h : vx_Zq C n d A U H) (hq : ∀ a : Nat, a < H.size → ¬ A a → H1[a]? = H[a]?) : vx_Zq C n d A U H1 := ⟨va_Zq.kept h.1 hq, vx_L.kept h.2 hq⟩
theorem vx_Zq.narrow {C n d : String} {A B : Nat → Prop} {U : State} {H : Heap} (h : vx_Zq C n d A U H) (hAB : ∀ q, B q → A q) : vx_Zq C n d B U H := ⟨va_Zq.narrow h.1 hAB, vx_L.narrow h.2 hAB⟩
theorem vx_Zqof {args : Array Value} {s : State} {C n d : String} {A : Nat → Prop} (hl : (Cond.laysStatic C n d).before args s = true) (hini : (Cond.initialized C).before args s = true) (h : (Cond.isRef (.static C n d)).before args s = true) (hA : ∀ a : Nat, a < s.heap.size → ¬ A a) : vx_Zq C n d A s s.heap := by
  refine ⟨va_Zqof hl hini h hA, ?_⟩
  obtain ⟨c, k, i, f, a, cell, h1, h2, h3, h4, h5, h6, h7, h8, h9⟩ := Cond.laysStatic_spec hl
  exact ⟨c, k, i, f, a, cell, h1, h2, h3, h4, h5, h6, h7, h8, h9, hA a (Array.getElem?_eq_some_iff.mp h5).1⟩
theorem vx_isRef {C n d : String} {v : Value} {A : Nat → Prop} {s : State} {args : Array Value} (h : va_Z C n d v A s s.heap) (hv : v.isRef = true) : (Cond.isRef (.static C n d)).before args s = true := by
  obtain ⟨cf, kf, fi, f, a, cell, h1, h2, h3, h4, h5, h6, h7, -⟩ := h
  have he : (Term.static C n d).eval args s none [] s = some v := by
    simp [Term.eval, State.fieldNamed?, h1, h2, h4, h5, h6, h7]
  simp only [Cond.before, Cond.holds, Cond.value, he]
  cases v <;> simp_all [Value.isRef]
theorem vx_isRefq {C n d : String} {A : Nat → Prop} {s : State} {args : Array Value} (h : va_Zq C n d A s s.heap) : (Cond.isRef (.static C n d)).before args s = true := by
  rcases h with h | ⟨t, h⟩
  · exact vx_isRef h rfl
  · exact vx_isRef h rfl
/-- the same frame, seen from here: as if the method were called anew in this heap -/
theorem vx_rebase {T : State} (X : Stand p l e R s m args below meth c T locs cells slots) {R' : Room} (hf : R'.frames ≤ R.frames) (hl : R'.locals ≤ R.locals) (hc : cells + R'.cells ≤ R.cells) (hs : slots + R'.slots ≤ R.slots) :
    Stand p l e R' ((T.setVm s.vm).setFrames (.invoking m args :: below)) m args below meth c T [] 0 0 := by
  have htop : (T.setVm s.vm).topJava?.isSome := X.here.top
  have hF : ((T.setVm s.vm).setFrames (.invoking m args :: below)).frames = .invoking m args :: below := State.frames_setFrames _ (State.cur_lt_of_top htop)
  obtain ⟨g₀, hg0⟩ := Option.isSome_iff_exists.mp htop
  obtain ⟨r, hr⟩ := State.topJava?_eq_some.mp hg0
  have hl9 : e.platform.stackLimits (T.setVm s.vm).me = e.platform.stackLimits s.me := X.limits
  have hb9 : (T.setVm s.vm).me.stackBytes = s.me.stackBytes := X.bytes
  refine ⟨X.admits, X.cas, X.clock, hF, ?_, X.hears, X.method, X.code, X.here, X.tail, X.warmed, ?_, ?_, ?_⟩
  · have h := X.room
    have hU : ((T.setVm s.vm).setFrames (.invoking m args :: below)).localsInUse = s.localsInUse := by
      rw [State.localsInUse_invoking hF (meth := meth) (c := c) X.method X.code, State.localsInUse_invoking X.frames X.method X.code]
    simp only [State.hasRoom, Bool.and_eq_true, decide_eq_true_eq] at h ⊢
    obtain ⟨⟨⟨⟨h1, h2, h3, h4, h5, h6⟩, h7⟩, h8⟩, h9⟩ := h
    rw [X.frames, List.length_cons] at h2 h3
    have q1 := X.heapSize
    have q2 := X.used
    simp only [hF, hU, List.length_cons, State.stackLimits_setFrames, State.stackBytes_setFrames, hl9, hb9]
    refine ⟨⟨⟨⟨by omega, by omega, by omega, by omega, by omega, h6⟩, ?_⟩, ?_⟩, X.book⟩
    · show T.heap.size + R'.cells ≤ e.platform.maxCells
      omega
    · show T.slotsUsed + R'.slots ≤ e.platform.maxSlots
      omega
  · rw [State.stackLimits_setFrames]; rfl
  · rw [State.stackBytes_setFrames]; rfl
  · refine ⟨?_, Nat.le_refl _, Nat.le_refl _, ?_, ?_, fun a c9 h9 => ⟨c9, h9, rfl, rfl, fun _ _ => rfl⟩⟩
    · obtain ⟨t, ht, -⟩ := State.frames_cons hr
      show T.setVm s.vm = { ((T.setVm s.vm).setFrames (.invoking m args :: below)).setFrames (T.setVm s.vm).frames with heap := T.heap, slotsUsed := T.slotsUsed }
      rw [State.setFrames_setFrames, State.setFrames_self ht]
      rfl
    · show T.slotsUsed = T.slotsUsed + ((T.heap.toList.drop T.heap.size).map (·.slots.size)).sum
      rw [List.drop_eq_nil_of_le (Nat.le_of_eq Array.length_toList)]
      rfl
    · show ((T.heap.toList.drop T.heap.size).map (·.slots.size)).sum ≤ 0
      rw [List.drop_eq_nil_of_le (Nat.le_of_eq Array.length_toList)]
      exact Nat.le_refl _
/-- 'throw new E()': new; dup; invokespecial; athrow -/
theorem vx_throw0 {cc : ByteArray} {pc : Nat} (hexec : p.tables.exec = Jvm.exec) (hb : c.code = cc) (hl : l.stackTraces = false) {own cls : String} {names : List String} {ik ic mc ms : Nat} {A : Nat → Prop}
    (hown : s.vm.findClass own = some m.cls) (hcls : Bundle.fit cls = true) (hnames : ∀ n ∈ names, Bundle.fit n = true)
    (hk : (Cond.classLink own ik cls).before args s = true) (hini : (Cond.initialized cls).before args s = true) (hat : ∀ w ∈ vx_at0 own ic cls names, w.before args s = true)
    (hgood : ∀ w ∈ Cond.classLink own ik cls :: Cond.initialized cls :: vx_at0 own ic cls names, vx_ot w = true)
    (hU : vx_Zq Bundle.tN "UNASSIGNED_STACK" Bundle.steD A s s.heap) (hN : vx_Zq Bundle.tN "SUPPRESSED_SENTINEL" Bundle.listD A s s.heap) (hS : va_S A s.heap H locs) (hsize : ls.size = c.maxLocals)
    (d0 : decode cc pc = .ok (.new ik, 3)) (d3 : decode cc (pc + 3) = .ok (.dup, 1)) (d4 : decode cc (pc + 4) = .ok (.invokespecial ic, 3)) (d7 : decode cc (pc + 7) = .ok (.athrow, 1))
    (hout : ∀ x ∈ c.exceptionTable.toList, covers x (pc + 7) = false)
    (hRframes : names.length + 3 < R.frames) (hRlocals : (rest.map fun v => v.category).sum + (13 * (names.length + 1) + 42) ≤ R.locals) (hRcells : cells + 1 ≤ R.cells) (hRslots : slots + 6 ≤ R.slots) (hlocks : meth.locks = false)
    (hx : ∀ t : State, s.vm.Alike t.vm → H.size ≤ t.heap.size → (∀ q : Nat, q < H.size → t.heap[q]? = H[q]?) → XC cls s t)
    (hf : ∀ z ∈ locs, free z.base) (hc : cells + 1 ≤ mc) (hs : slots + 6 ≤ ms) :
    W p l e R s m args below meth c H locs cells slots (vx_MQ below Qc XC args s mc ms free) (F0 m pc ls rest) := by
  intro T hT X
  have htr : e.platform.stackTraces = false := (show e.platform.stackTraces = l.stackTraces by rw [X.admits.platform]).trans hl
  have Y := vx_rebase X (R' := { frames := R.frames, locals := R.locals, cells := 1, slots := 6 }) (Nat.le_refl _) (Nat.le_refl _) hRcells hRslots
  obtain ⟨s', hA⟩ : ∃ z, z = (T.setVm s.vm).setFrames (.invoking m args :: below) := ⟨_, rfl⟩
  rw [← hA] at Y
  have hvm : s'.vm = s.vm := by rw [hA]; rfl
  have hhp : s'.heap = H := by rw [hA]; exact hT
  have hW0 : s.WarmedH s'.vm := by rw [hvm]; exact State.WarmedH.refl s
  have hat' : ∀ w ∈ vx_at0 own ic cls names, w.before args s' = true := fun w hw => vx_ot_at hW0 hvm.symm (hgood w (List.mem_cons_of_mem _ (List.mem_cons_of_mem _ hw))) (hat w hw)
  have hk' : (Cond.classLink own ik cls).before args s' = true := vx_ot_at hW0 hvm.symm (hgood _ List.mem_cons_self) hk
  have hini' : (Cond.initialized cls).before args s' = true := vx_ot_at hW0 hvm.symm (hgood _ (List.mem_cons_of_mem _ List.mem_cons_self)) hini
  have hU' : vx_Zq Bundle.tN "UNASSIGNED_STACK" Bundle.steD A s' s'.heap := by rw [hhp]; exact vx_Zq.moved hW0.alike (hU.kept hS.2.1)
  have hN' : vx_Zq Bundle.tN "SUPPRESSED_SENTINEL" Bundle.listD A s' s'.heap := by rw [hhp]; exact vx_Zq.moved hW0.alike (hN.kept hS.2.1)
  have h : ∀ w ∈ Bundle.ownAtoms0 own ic cls names, w.before args s' = true := vx_own hat' (vx_isRefq hU'.1) (vx_isRefq hN'.1) hU'.2.word hN'.2.word
  have hown' : s'.vm.findClass own = some m.cls := by rw [hvm]; exact hown
  have hins : (Cond.instantiable cls 6).before args s' = true := h _ (by simp [Bundle.ownAtoms0])
  obtain ⟨vm₁, cX, kX, hfX, hkX, -, -, X₁, st1⟩ := Y.newCold hexec (own := own) (C := cls) (index := ik) (n := 6) hown' hk' hins hini'
    (g := F0 m pc ls rest) rfl (by rw [hb]; exact d0) (Nat.le_refl _) (Nat.le_refl _)
  generalize hT1 : (T.setVm vm₁).pushCell { cls := cX, slots := kX.instanceTypes.map defaultValue, vm := .none } = T1 at X₁ st1
  have hcat : (Value.ref T.heap.size).category = 1 := rfl
  have hcellA : T1.heap[T.heap.size]? = some (freshCell cX kX) := by rw [← hT1]; exact State.heap_pushCell_size _ _
  have d3' : decode c.code (pc + 3) = .ok (.dup, 1) := by rw [hb]; exact d3
  obtain ⟨U, hsteps, hrun, hend, hW, hsame, ce, hce, hO⟩ := X₁.ctorThrow0 hexec htr (own := own) (cls := cls) (names := names) (ic := ic) hown' hcls hnames h (fun x hx => nomatch hx) hfX hkX hcellA (by rw [hhp, hT]; exact Nat.le_refl _)
    (g := { method := m, pc := pc + 4, locals := ls, stack := .ref T.heap.size :: .ref T.heap.size :: rest, locked := none }) rfl hsize rfl rfl (rest := rest) rfl
    (by rw [hb]; exact d4) (by rw [hb]; exact d7) hout hRframes (by simp only [List.map_cons, List.sum_cons, hcat]; omega) hlocks
  obtain ⟨f1, f2⟩ := vx_frame hsame
  rw [hhp] at f1 f2
  have hWs : s.WarmedH U.vm := State.WarmedH.trans hW0 hW
  have hcl : s.vm.findClass cls = some ce.cls := by
    have h9 := hO.cls
    rw [hvm] at h9
    exact h9
  have hall : s.sameButNew ({ U with vm := s.vm } : State) locs mc ms := by
    subst hA
    obtain ⟨e1, e2⟩ := hsame
    rw [State.setFrames_setFrames] at e1
    have h2 : (T.setVm s.vm).sameButNew ({ U with vm := s.vm } : State) [] (0 + 1) (0 + 6) := ⟨e1, e2⟩
    have h3 := X.same.trans h2
    rw [List.append_nil] at h3
    exact h3.mono hc hs
  refine ⟨U, ?_, .threw T.heap.size, hrun, hend, Or.inr ⟨T.heap.size, rfl, cls, ce, locs, hx U hWs.alike f1 (fun q hq => f2 q hq (fun z hz => nomatch hz)), hce, hO.vm, hcl, hWs, hall, hf⟩⟩
  refine st1 _ ?_
  show Steps p.tables e below (T1.setTop { method := m, pc := pc + 3, locals := ls, stack := .ref T.heap.size :: rest, locked := none }) _
  jvm_step X₁.here [X₁.here.top, hexec, d3', Value.category]
  exact hsteps
/-- 'throw new E("text")': new; dup; ldc; invokespecial; athrow -/
theorem vx_throwS {cc : ByteArray} {pc : Nat} (hexec : p.tables.exec = Jvm.exec) (hb : c.code = cc) (hl : l.stackTraces = false) {own cls text : String} {names : List String} {ik is ic mc ms sa : Nat} {A : Nat → Prop}
    (hown : s.vm.findClass own = some m.cls) (hcls : Bundle.fit cls = true) (hnames : ∀ n ∈ names, Bundle.fit n = true)
    (hk : (Cond.classLink own ik cls).before args s = true) (hini : (Cond.initialized cls).before args s = true) (hstr : vk_R own is text sa s) (hat : ∀ w ∈ vx_atS own ic cls names, w.before args s = true)
    (hgood : ∀ w ∈ Cond.classLink own ik cls :: Cond.initialized cls :: vx_atS own ic cls names, vx_ot w = true)
    (hU : vx_Zq Bundle.tN "UNASSIGNED_STACK" Bundle.steD A s s.heap) (hN : vx_Zq Bundle.tN "SUPPRESSED_SENTINEL" Bundle.listD A s s.heap) (hS : va_S A s.heap H locs) (hsize : ls.size = c.maxLocals)
    (d0 : decode cc pc = .ok (.new ik, 3)) (d3 : decode cc (pc + 3) = .ok (.dup, 1)) (d4 : decode cc (pc + 4) = .ok (.ldc is, 2)) (d6 : decode cc (pc + 6) = .ok (.invokespecial ic, 3)) (d9 : decode cc (pc + 9) = .ok (.athrow, 1))
    (hout : ∀ x ∈ c.exceptionTable.toList, covers x (pc + 9) = false)
    (hRframes : names.length + 3 < R.frames) (hRlocals : (rest.map fun v => v.category).sum + (13 * (names.length + 1) + 43) ≤ R.locals) (hRcells : cells + 1 ≤ R.cells) (hRslots : slots + 6 ≤ R.slots) (hlocks : meth.locks = false)
    (hx : ∀ t : State, s.vm.Alike t.vm → H.size ≤ t.heap.size → (∀ q : Nat, q < H.size → t.heap[q]? = H[q]?) → XC cls s t)
    (hf : ∀ z ∈ locs, free z.base) (hc : cells + 1 ≤ mc) (hs : slots + 6 ≤ ms) :
    W p l e R s m args below meth c H locs cells slots (vx_MQ below Qc XC args s mc ms free) (F0 m pc ls rest) := by
  intro T hT X
  have htr : e.platform.stackTraces = false := (show e.platform.stackTraces = l.stackTraces by rw [X.admits.platform]).trans hl
  have Y := vx_rebase X (R' := { frames := R.frames, locals := R.locals, cells := 1, slots := 6 }) (Nat.le_refl _) (Nat.le_refl _) hRcells hRslots
  obtain ⟨s', hA⟩ : ∃ z, z = (T.setVm s.vm).setFrames (.invoking m args :: below) := ⟨_, rfl⟩
  rw [← hA] at Y
  have hvm : s'.vm = s.vm := by rw [hA]; rfl
  have hhp : s'.heap = H := by rw [hA]; exact hT
  have hW0 : s.WarmedH s'.vm := by rw [hvm]; exact State.WarmedH.refl s
  have hat' : ∀ w ∈ vx_atS own ic cls names, w.before args s' = true := fun w hw => vx_ot_at hW0 hvm.symm (hgood w (List.mem_cons_of_mem _ (List.mem_cons_of_mem _ hw))) (hat w hw)
  have hk' : (Cond.classLink own ik cls).before args s' = true := vx_ot_at hW0 hvm.symm (hgood _ List.mem_cons_self) hk
  have hini' : (Cond.initialized cls).before args s' = true := vx_ot_at hW0 hvm.symm (hgood _ (List.mem_cons_of_mem _ List.mem_cons_self)) hini
  have hU' : vx_Zq Bundle.tN "UNASSIGNED_STACK" Bundle.steD A s' s'.heap := by rw [hhp]; exact vx_Zq.moved hW0.alike (hU.kept hS.2.1)
  have hN' : vx_Zq Bundle.tN "SUPPRESSED_SENTINEL" Bundle.listD A s' s'.heap := by rw [hhp]; exact vx_Zq.moved hW0.alike (hN.kept hS.2.1)
  have h : ∀ w ∈ Bundle.ownAtoms own ic cls names, w.before args s' = true := vx_own hat' (vx_isRefq hU'.1) (vx_isRefq hN'.1) hU'.2.word hN'.2.word
  have hown' : s'.vm.findClass own = some m.cls := by rw [hvm]; exact hown
  have hins : (Cond.instantiable cls 6).before args s' = true := h _ (by simp [Bundle.ownAtoms])
  obtain ⟨vm₁, cX, kX, hfX, hkX, -, -, X₁, st1⟩ := Y.newCold hexec (own := own) (C := cls) (index := ik) (n := 6) hown' hk' hins hini'
    (g := F0 m pc ls rest) rfl (by rw [hb]; exact d0) (Nat.le_refl _) (Nat.le_refl _)
  generalize hT1 : (T.setVm vm₁).pushCell { cls := cX, slots := kX.instanceTypes.map defaultValue, vm := .none } = T1 at X₁ st1
  have hcat : (Value.ref T.heap.size).category = 1 := rfl
  have hcellA : T1.heap[T.heap.size]? = some (freshCell cX kX) := by rw [← hT1]; exact State.heap_pushCell_size _ _
  have d3' : decode c.code (pc + 3) = .ok (.dup, 1) := by rw [hb]; exact d3
  have d4' : decode c.code (pc + 4) = .ok (.ldc is, 2) := by rw [hb]; exact d4
  have hstr' : vk_R own is text sa s' := vk_R.warm hW0 hstr
  obtain ⟨U, hsteps, hrun, hend, hW, hsame, ce, hce, hO⟩ := X₁.ctorThrowS hexec htr (own := own) (cls := cls) (names := names) (ic := ic) hown' hcls hnames h (fun x hx => nomatch hx) hfX hkX hcellA (by rw [hhp, hT]; exact Nat.le_refl _) (msg := .ref sa) rfl
    (g := { method := m, pc := pc + 6, locals := ls, stack := .ref sa :: .ref T.heap.size :: .ref T.heap.size :: rest, locked := none }) rfl hsize rfl rfl (rest := rest) rfl
    (by rw [hb]; exact d6) (by rw [hb]; exact d9) hout hRframes (by simp only [List.map_cons, List.sum_cons, hcat]; omega) hlocks
  obtain ⟨f1, f2⟩ := vx_frame hsame
  rw [hhp] at f1 f2
  have hWs : s.WarmedH U.vm := State.WarmedH.trans hW0 hW
  have hcl : s.vm.findClass cls = some ce.cls := by
    have h9 := hO.cls
    rw [hvm] at h9
    exact h9
  have hall : s.sameButNew ({ U with vm := s.vm } : State) locs mc ms := by
    subst hA
    obtain ⟨e1, e2⟩ := hsame
    rw [State.setFrames_setFrames] at e1
    have h2 : (T.setVm s.vm).sameButNew ({ U with vm := s.vm } : State) [] (0 + 1) (0 + 6) := ⟨e1, e2⟩
    have h3 := X.same.trans h2
    rw [List.append_nil] at h3
    exact h3.mono hc hs
  refine ⟨U, ?_, .threw T.heap.size, hrun, hend, Or.inr ⟨T.heap.size, rfl, cls, ce, locs, hx U hWs.alike f1 (fun q hq => f2 q hq (fun z hz => nomatch hz)), hce, hO.vm, hcl, hWs, hall, hf⟩⟩
  refine st1 _ ?_
  show Steps p.tables e below (T1.setTop { method := m, pc := pc + 3, locals := ls, stack := .ref T.heap.size :: rest, locked := none }) _
  jvm_step X₁.here [X₁.here.top, hexec, d3', Value.category]
  exact X₁.ldcString hexec (own := own) (text := text) (index := is) (a := sa) hown' hstr'.1 hstr'.2
    (g := { method := m, pc := pc + 4, locals := ls, stack := .ref T.heap.size :: .ref T.heap.size :: rest, locked := none }) rfl d4' _ hsteps
/-- 'throw new E("text")', the text by a wide index -/
theorem vx_throwSW {cc : ByteArray} {pc : Nat} (hexec : p.tables.exec = Jvm.exec) (hb : c.code = cc) (hl : l.stackTraces = false) {own cls text : String} {names : List String} {ik is ic mc ms sa : Nat} {A : Nat → Prop}
    (hown : s.vm.findClass own = some m.cls) (hcls : Bundle.fit cls = true) (hnames : ∀ n ∈ names, Bundle.fit n = true)
    (hk : (Cond.classLink own ik cls).before args s = true) (hini : (Cond.initialized cls).before args s = true) (hstr : vk_R own is text sa s) (hat : ∀ w ∈ vx_atS own ic cls names, w.before args s = true)
    (hgood : ∀ w ∈ Cond.classLink own ik cls :: Cond.initialized cls :: vx_atS own ic cls names, vx_ot w = true)
    (hU : vx_Zq Bundle.tN "UNASSIGNED_STACK" Bundle.steD A s s.heap) (hN : vx_Zq Bundle.tN "SUPPRESSED_SENTINEL" Bundle.listD A s s.heap) (hS : va_S A s.heap H locs) (hsize : ls.size = c.maxLocals)
    (d0 : decode cc pc = .ok (.new ik, 3)) (d3 : decode cc (pc + 3) = .ok (.dup, 1)) (d4 : decode cc (pc + 4) = .ok (.ldc_w is, 3)) (d7 : decode cc (pc + 7) = .ok (.invokespecial ic, 3)) (d10 : decode cc (pc + 10) = .ok (.athrow, 1))
    (hout : ∀ x ∈ c.exceptionTable.toList, covers x (pc + 10) = false)
    (hRframes : names.length + 3 < R.frames) (hRlocals : (rest.map fun v => v.category).sum + (13 * (names.length + 1) + 43) ≤ R.locals) (hRcells : cells + 1 ≤ R.cells) (hRslots : slots + 6 ≤ R.slots) (hlocks : meth.locks = false)
    (hx : ∀ t : State, s.vm.Alike t.vm → H.size ≤ t.heap.size → (∀ q : Nat, q < H.size → t.heap[q]? = H[q]?) → XC cls s t)
    (hf : ∀ z ∈ locs, free z.base) (hc : cells + 1 ≤ mc) (hs : slots + 6 ≤ ms) :
    W p l e R s m args below meth c H locs cells slots (vx_MQ below Qc XC args s mc ms free) (F0 m pc ls rest) := by
  intro T hT X
  have htr : e.platform.stackTraces = false := (show e.platform.stackTraces = l.stackTraces by rw [X.admits.platform]).trans hl
  have Y := vx_rebase X (R' := { frames := R.frames, locals := R.locals, cells := 1, slots := 6 }) (Nat.le_refl _) (Nat.le_refl _) hRcells hRslots
  obtain ⟨s', hA⟩ : ∃ z, z = (T.setVm s.vm).setFrames (.invoking m args :: below) := ⟨_, rfl⟩
  rw [← hA] at Y
  have hvm : s'.vm = s.vm := by rw [hA]; rfl
  have hhp : s'.heap = H := by rw [hA]; exact hT
  have hW0 : s.WarmedH s'.vm := by rw [hvm]; exact State.WarmedH.refl s
  have hat' : ∀ w ∈ vx_atS own ic cls names, w.before args s' = true := fun w hw => vx_ot_at hW0 hvm.symm (hgood w (List.mem_cons_of_mem _ (List.mem_cons_of_mem _ hw))) (hat w hw)
  have hk' : (Cond.classLink own ik cls).before args s' = true := vx_ot_at hW0 hvm.symm (hgood _ List.mem_cons_self) hk
  have hini' : (Cond.initialized cls).before args s' = true := vx_ot_at hW0 hvm.symm (hgood _ (List.mem_cons_of_mem _ List.mem_cons_self)) hini
  have hU' : vx_Zq Bundle.tN "UNASSIGNED_STACK" Bundle.steD A s' s'.heap := by rw [hhp]; exact vx_Zq.moved hW0.alike (hU.kept hS.2.1)
  have hN' : vx_Zq Bundle.tN "SUPPRESSED_SENTINEL" Bundle.listD A s' s'.heap := by rw [hhp]; exact vx_Zq.moved hW0.alike (hN.kept hS.2.1)
  have h : ∀ w ∈ Bundle.ownAtoms own ic cls names, w.before args s' = true := vx_own hat' (vx_isRefq hU'.1) (vx_isRefq hN'.1) hU'.2.word hN'.2.word
  have hown' : s'.vm.findClass own = some m.cls := by rw [hvm]; exact hown
  have hins : (Cond.instantiable cls 6).before args s' = true := h _ (by simp [Bundle.ownAtoms])
  obtain ⟨vm₁, cX, kX, hfX, hkX, -, -, X₁, st1⟩ := Y.newCold hexec (own := own) (C := cls) (index := ik) (n := 6) hown' hk' hins hini'
    (g := F0 m pc ls rest) rfl (by rw [hb]; exact d0) (Nat.le_refl _) (Nat.le_refl _)
  generalize hT1 : (T.setVm vm₁).pushCell { cls := cX, slots := kX.instanceTypes.map defaultValue, vm := .none } = T1 at X₁ st1
  have hcat : (Value.ref T.heap.size).category = 1 := rfl
  have hcellA : T1.heap[T.heap.size]? = some (freshCell cX kX) := by rw [← hT1]; exact State.heap_pushCell_size _ _
  have d3' : decode c.code (pc + 3) = .ok (.dup, 1) := by rw [hb]; exact d3
  have d4' : decode c.code (pc + 4) = .ok (.ldc_w is, 3) := by rw [hb]; exact d4
  have hstr' : vk_R own is text sa s' := vk_R.warm hW0 hstr
  obtain ⟨U, hsteps, hrun, hend, hW, hsame, ce, hce, hO⟩ := X₁.ctorThrowS hexec htr (own := own) (cls := cls) (names := names) (ic := ic) hown' hcls hnames h (fun x hx => nomatch hx) hfX hkX hcellA (by rw [hhp, hT]; exact Nat.le_refl _) (msg := .ref sa) rfl
    (g := { method := m, pc := pc + 7, locals := ls, stack := .ref sa :: .ref T.heap.size :: .ref T.heap.size :: rest, locked := none }) rfl hsize rfl rfl (rest := rest) rfl
    (by rw [hb]; exact d7) (by rw [hb]; exact d10) hout hRframes (by simp only [List.map_cons, List.sum_cons, hcat]; omega) hlocks
  obtain ⟨f1, f2⟩ := vx_frame hsame
  rw [hhp] at f1 f2
  have hWs : s.WarmedH U.vm := State.WarmedH.trans hW0 hW
  have hcl : s.vm.findClass cls = some ce.cls := by
    have h9 := hO.cls
    rw [hvm] at h9
    exact h9
  have hall : s.sameButNew ({ U with vm := s.vm } : State) locs mc ms := by
    subst hA
    obtain ⟨e1, e2⟩ := hsame
    rw [State.setFrames_setFrames] at e1
    have h2 : (T.setVm s.vm).sameButNew ({ U with vm := s.vm } : State) [] (0 + 1) (0 + 6) := ⟨e1, e2⟩
    have h3 := X.same.trans h2
    rw [List.append_nil] at h3
    exact h3.mono hc hs
  refine ⟨U, ?_, .threw T.heap.size, hrun, hend, Or.inr ⟨T.heap.size, rfl, cls, ce, locs, hx U hWs.alike f1 (fun q hq => f2 q hq (fun z hz => nomatch hz)), hce, hO.vm, hcl, hWs, hall, hf⟩⟩
  refine st1 _ ?_
  show Steps p.tables e below (T1.setTop { method := m, pc := pc + 3, locals := ls, stack := .ref T.heap.size :: rest, locked := none }) _
  jvm_step X₁.here [X₁.here.top, hexec, d3', Value.category]
  exact X₁.ldcStringW hexec (own := own) (text := text) (index := is) (a := sa) hown' hstr'.1 hstr'.2
    (g := { method := m, pc := pc + 4, locals := ls, stack := .ref T.heap.size :: .ref T.heap.size :: rest, locked := none }) rfl d4' _ hsteps
end Ends
section Bodies
variable {l : Launch}
theorem vx_ofW {y : MethodName} {ws ws' : List Cond} {rm : Room} {Pc : Array Value → State → Prop} {Qc : Array Value → State → Outcome → State → Prop} {XC : String → State → State → Prop} {mc ms : Nat} {free : Addr → Prop} {cc : ByteArray} {maxL : Nat} {ret : Option FieldType}
    (hy : plainName y.cls = true) (hw : ws = Cond.code y cc maxL ret :: ws')
    (body : ∀ p e s m args below meth c s₁, BodyLoose p l y (headSpec ws rm) cc maxL ret e s m args below meth c s₁ → c.maxLocals = maxL → (∀ x ∈ c.exceptionTable.toList, False) → Pc args s →
      W p l e (headSpec ws rm).room s m args below meth c s.heap [] 0 0 (vx_MQ below Qc XC args s mc ms free) (entryFrame m args maxL)) : vx_Met l y ws rm Pc Qc XC mc ms free := by
  refine MetFree.of_bodyS (code := cc) (maxLocals := maxL) (ret := ret) hy ?_ ?_
  · intro args s m h hn
    obtain ⟨meth, c, h1, h2, h3, h4, h5, h6, -, -⟩ := Cond.code_spec hn (atoms_spec (ws := ws) h _ (by rw [hw]; exact List.mem_cons_self))
    exact ⟨meth, c, h1, h2, h3, h4, h5, h6⟩
  · intro p e s m args below meth c s₁ B hml hP _
    have hh0 : s₁.heap = s.heap := by rw [B.state]; rfl
    have ht : ∀ x ∈ c.exceptionTable.toList, False := by
      obtain ⟨meth9, c9, h1, h2, -, -, -, -, h7, -⟩ := Cond.code_spec B.named (atoms_spec (ws := ws) B.pre _ (by rw [hw]; exact List.mem_cons_self))
      cases Option.some.inj (h1.symm.trans B.method)
      cases Option.some.inj (h2.symm.trans (Stand.of_body B).code)
      intro x hx
      rw [Array.isEmpty_iff.mp h7] at hx
      cases hx
    obtain ⟨t, a1, o, b1, b2, b3⟩ := body p e s m args below meth c s₁ B hml ht hP s₁ hh0 (Stand.of_body B)
    exact ⟨t, o, a1, b1, b2, b3⟩
/-- the table of a body with handlers -/
theorem vx_table {p : Program} {x y : MethodName} {S : Spec} {cc bytes : ByteArray} {maxL maxL' : Nat} {ret ret' : Option FieldType} {e : Env} {s s₁ : State} {m : MethodId} {args : Array Value} {below : List Frame} {meth : Method} {c : Code} {hh : List (Nat × Nat × Nat × Nat)}
    (B : BodyLoose p l y S cc maxL ret e s m args below meth c s₁) (h : (Cond.codeWith y bytes maxL' ret' hh).before args s = true) : c.exceptionTable.toList = tableOf hh := by
  obtain ⟨m9, meth9, c9, hn9, h1, h2, -, -, h6, -⟩ := Cond.codeWith_spec h
  cases Option.some.inj (hn9.symm.trans B.named)
  cases Option.some.inj (h1.symm.trans B.method)
  cases Option.some.inj (h2.symm.trans (Stand.of_body B).code)
  rw [← h6, table_eq]
end Bodies
end VXA
/-! ===== END ===== -/
/-! ===== BEGIN a static call of a method with an exception table ===== -/
section VXS
variable {p : Program} {l : Launch} {e : Env} {R : Room} {s : State} {m : MethodId} {args : Array Value} {below : List Frame} {meth : Method} {c : Code} {T : State} {H : Heap} {locs : List Loc} {cells slots : Nat}
abbrev vx_CSW (R : Room) (s : State) (args : Array Value) (own : String) (index : Nat) (y : MethodName) (bytes : ByteArray) (maxL : Nat) (ret : Option FieldType) (hh : List (Nat × Nat × Nat × Nat)) (ws : List Cond) (rm : Room) (mc ms n : Nat) : Prop :=
  (rm.cells = mc ∧ rm.slots = ms ∧ rm.frames + 1 ≤ R.frames ∧ 8 + (maxL + 11) + rm.locals ≤ R.locals ∧ (∀ w ∈ ws, ∀ (a' : Array Value) (U : State), s.WarmedH U.vm → w.before a' U = true) ∧ Cond.codeWith y bytes maxL ret hh ∈ ws) ∧
  (Cond.codeWith y bytes maxL ret hh).before args s = true ∧ (Cond.initialized y.cls).before args s = true ∧ (y.cls ≠ "java/lang/invoke/MethodHandle" ∧ y.cls ≠ "java/lang/invoke/VarHandle") ∧
  (∀ sig, parseMethodDescriptor y.desc = some sig → n = sig.parameters.length) ∧ (Cond.methodLink own index y).before args s = true ∧ (Cond.static y).before args s = true
theorem vx_cwSW {own : String} {index maxL mc ms : Nat} {y : MethodName} {bytes : ByteArray} {ret : Option FieldType} {hh : List (Nat × Nat × Nat × Nat)} {Ts ws ws' : List Cond} {rm : Room} (n : Nat) (ht : ∀ w ∈ Ts, w.before args s = true) (hT : GoodIn Ts (va_wsS own index y ws)) (hw : ws = Cond.codeWith y bytes maxL ret hh :: ws') (hrc : rm.cells = mc) (hrs : rm.slots = ms)
    (hd : y.cls ≠ "java/lang/invoke/MethodHandle" ∧ y.cls ≠ "java/lang/invoke/VarHandle" ∧ (parseMethodDescriptor y.desc).map (fun d => d.parameters.length) = some n) (hR : rm.frames + 1 ≤ R.frames ∧ 8 + (maxL + 11) + rm.locals ≤ R.locals) :
    vx_CSW R s args own index y bytes maxL ret hh ws rm mc ms n := by
  have ok : ∀ w ∈ va_wsS own index y ws, w.before args s = true := fun w h => ht w (hT w h).1
  have hG : GoodIn Ts ws := fun w h => hT w (by unfold va_wsS; exact List.mem_append_right _ h)
  have hc : Cond.codeWith y bytes maxL ret hh ∈ ws := by rw [hw]; exact List.mem_cons_self
  refine ⟨⟨hrc, hrs, hR.1, hR.2, pay_in ht hG, hc⟩, ht _ (hG _ hc).1, ok _ (by simp [va_wsS]), ⟨hd.1, hd.2.1⟩, fun sig h => ?_, ok _ (by simp [va_wsS]), ok _ (by simp [va_wsS])⟩
  have h2 := hd.2.2
  rw [h] at h2
  exact (Option.some.inj h2).symm
theorem vx_callSW (X : Stand p l e R s m args below meth c T locs cells slots) (hexec : p.tables.exec = Jvm.exec) {own : String} {index : Nat} {y : MethodName} {bytes : ByteArray} {maxL : Nat} {ret : Option FieldType} {hh : List (Nat × Nat × Nat × Nat)}
    (hown : s.vm.findClass own = some m.cls) (hlink : (Cond.methodLink own index y).before args s = true) (hstat : (Cond.static y).before args s = true) (hinit : (Cond.initialized y.cls).before args s = true)
    (hcode : (Cond.codeWith y bytes maxL ret hh).before args s = true) (hy : y.cls ≠ "java/lang/invoke/MethodHandle" ∧ y.cls ≠ "java/lang/invoke/VarHandle")
    {W9 : Nat} {Pre : Pt → Array Value → Prop} {Post : Pt → Array Value → Option Value → Pt → Prop} (hK : Back l R p e below s args y 3 W9 Pre Post)
    {g : JFrame} (hg : g.method = m) (hsize : g.locals.size = c.maxLocals) {argsL rest : List Value} (hlen : ∀ sig, parseMethodDescriptor y.desc = some sig → argsL.length = sig.parameters.length)
    (hstack : g.stack = argsL.reverse ++ rest) (hW : 2 * g.monitorRoom + (rest.map fun v => v.category).sum ≤ W9) (hdg : decode c.code g.pc = .ok (.invokestatic index, 3))
    (hpre : ∀ vm₁, s.WarmedH vm₁ → Pre ⟨T.setVm vm₁, locs, cells, slots⟩ argsL.toArray) :
    ∃ (v : Option Value) (vm₁ : Vm) (B : Pt), s.WarmedH vm₁ ∧ Stand p l e R s m args below meth c B.U B.locs B.cells B.slots ∧ Post ⟨T.setVm vm₁, locs, cells, slots⟩ argsL.toArray v B ∧
      ∀ target, Steps p.tables e below (B.U.setTop { g with pc := g.pc + 3, stack := v.toList ++ rest }) target → Steps p.tables e below (T.setTop g) target := by
  obtain ⟨mk, methM, cM, hnamed, hmethM, -, -, -, -, -, -, hsigM⟩ := Cond.codeWith_spec hcode
  have hstatic : methM.isStatic = true := Cond.static_spec hnamed hmethM hstat
  obtain ⟨kP, hkP, -⟩ := className_of_methodNamed hnamed
  have hinitP : kP.init = .initialized := Cond.initialized_spec (findClass_of_methodNamed hnamed) hkP hinit
  obtain ⟨vm₁, X₁, hstep₁⟩ := X.invokestatic hexec hown hlink hnamed hmethM hstatic hkP hinitP hy (g := g) hg (argsL := argsL) (rest := rest) (hlen _ hsigM) hstack hdg
  obtain ⟨v, B, X', hpost, hsteps⟩ := hK m meth c ⟨T.setVm vm₁, locs, cells, slots⟩ { g with stack := rest } (.invokestatic index) mk argsL.toArray X₁ hg hsize hdg hW (X₁.named hnamed) (hpre vm₁ X₁.warmed)
  exact ⟨v, vm₁, B, X₁.warmed, X', hpost, fun target h => hstep₁ _ fun acts => by rw [doInvoke_state]; exact hsteps.trans h⟩
theorem vx_runSW {y : MethodName} {bytes cc : ByteArray} {maxL nL mc ms n index : Nat} {ret : Option FieldType} {hh : List (Nat × Nat × Nat × Nat)} {ws : List Cond} {rm : Room} {Pc : Array Value → State → Prop} {Qc : Array Value → State → Outcome → State → Prop} {free : Addr → Prop} {Ts : List Cond} {own : String} {As rest : List Value} {g : JFrame}
    (S : CallFix p m c cc nL s args Ts own) (hM : Met l y ws rm Pc Qc mc ms free) (cw : vx_CSW R s args own index y bytes maxL ret hh ws rm mc ms n) (hp : PreS s H Pc As)
    (hg : g.method = m) (hn : As.length = n) (hsize : g.locals.size = nL) (hstack : g.stack = As.reverse ++ rest) (hW : 2 * g.monitorRoom + (rest.map fun v => v.category).sum ≤ 8) (hdg : decode cc g.pc = .ok (.invokestatic index, 3)) (hf : cells + mc ≤ R.cells ∧ slots + ms ≤ R.slots) :
    va_Run p l e R s m args below meth c H locs cells slots mc ms g rest (Qc As.toArray) (free) := by
  obtain ⟨⟨hrc, hrs, hfr, hlo, hws, hcw⟩, hcode, hini, hy, hlen, hl, hstt⟩ := cw
  have hK : Back l R p e below s args y 3 8 (PreOf R mc ms Pc) (PostOf Qc mc ms free) := va_backW (hh := hh) (bytes := bytes) (maxL := maxL) (ret := ret) hM hp.1 hrc hrs hfr hlo hws hcw (fun a' U hW => word_at hW (Or.inl (by first | rfl | simp [Cond.onTables, Cond.keeps, Cond.steady])) hini)
  obtain ⟨hx, hb, hml, ho, -⟩ := S
  intro T hT X
  obtain ⟨v, vm₁, ⟨U', l2, c2, s2⟩, hW₁, X', ⟨g', mk, t, L, e1, e2, hq, h1, hL, h2, h3⟩, st⟩ := vx_callSW X hx (hh := hh) (bytes := bytes) (maxL := maxL) (ret := ret) ho hl hstt hini hcode hy hK hg (hsize.trans hml.symm) (argsL := As) (rest := rest) (fun sig h => hn.trans (hlen sig h)) hstack hW (by rw [hb]; exact hdg)
    (fun vm₁ hW₁ => ⟨hf.1, hf.2, hp.2 (T.setVm vm₁) hT hW₁⟩)
  dsimp only [Pt.U, Pt.locs, Pt.cells, Pt.slots] at X' e1 e2 h1 h2 h3 st
  subst h1; subst h2; subst h3
  exact ⟨v, (T.setVm vm₁).calling g' mk As.toArray, t, U', L, hT, X', hL, e1, e2, hq, st⟩
/-- not caught here, past rows that name other classes: it goes on to the caller -/
theorem vx_outP {p : Program} {l : Launch} {e : Env} {R : Room} {s : State} {m : MethodId} {args : Array Value} {below : List Frame} {meth : Method} {c : Code} {H : Heap} {locs : List Loc} {cells slots : Nat} {free : Addr → Prop} {ls : Array Slot} {rest : List Value} {Qc : Array Value → State → Outcome → State → Prop} {XC : String → State → State → Prop}
    {pc : Nat} {own E : String} {ce : Cell} {q : Addr} {mc ms : Nat} (hown : s.vm.findClass own = some m.cls) (hlocks : meth.locks = false)
    (hpass : ∀ z ∈ c.exceptionTable.toList, covers z pc = false ∨ (z.catchType ≠ 0 ∧ ∃ nm : String, (Cond.classLink own z.catchType nm).before args s = true ∧ va_Nc E nm s)) (hcell : H[q]? = some ce) (hv : ce.vm = .none) (hcl : s.vm.findClass E = some ce.cls)
    (hx : ∀ t : State, t.heap = H → s.vm.Alike t.vm → XC E s t) (hf : ∀ z ∈ locs, free z.base) (hc : cells ≤ mc) (hs : slots ≤ ms) :
    vx_W p l e R s m args below meth c H locs cells slots (vx_MQ below Qc XC args s mc ms free) (F0 m pc ls rest) q := by
  intro T hT X
  have hpl : e.platform.magicAccessors = ({} : Platform).magicAccessors := by rw [X.admits.platform]
  obtain ⟨vm', hW', X', st⟩ := X.outThrough hlocks q (g := F0 m pc ls rest) rfl rfl rfl (cell := ce) (by rw [hT]; exact hcell) (by rw [hv]; rfl)
    (by obtain ⟨k9, h9, -⟩ := Vm.findClass_spec hcl; exact ⟨k9, h9⟩) (fun z hz => by
      rcases hpass z hz with h | ⟨hz0, nm, hl1, hn1⟩
      · exact Or.inl h
      · obtain ⟨c6, hc6, hcl6⟩ := Cond.classLink_spec hown hl1 e.platform hpl
        obtain ⟨a8, b8, h1, h2, h3⟩ := hn1
        cases Option.some.inj (h1.symm.trans hcl)
        cases Option.some.inj (h2.symm.trans hc6)
        exact Or.inr ⟨hz0, _, hcl6, h3⟩)
  obtain ⟨g₀, hfr⟩ := X'.frames_eq
  have hcell9 : ((T.setVm vm').setFrames (.throwing q :: below)).heap[q]? = some ce := by
    show T.heap[q]? = some ce
    rw [hT]; exact hcell
  have hend : Ended ((T.setVm vm').setFrames (.throwing q :: below)) below (.threw q) := State.frames_setFrames _ (State.cur_lt_of_frames hfr)
  refine ⟨(T.setVm vm').setFrames (.throwing q :: below), ?_, .threw q, X'.here.running, hend, Or.inr ⟨q, rfl, E, ce, locs, hx _ hT (X'.ends _).1.alike, hcell9, hv, hcl, (X'.ends _).1, (X'.ends _).2.mono hc hs, hf⟩⟩
  rw [X.pushThrowing_eq]
  exact st
/-- a thing of a world lies in the heap -/
theorem vx_lt {D : va_G} {cl : List vw_C} {ws : va_W} {H1 : Heap} (h : va_P D cl ws H1) {k : Nat} {q : Nat × va_E} (hk : ws[k]? = some q) : q.1 < H1.size := (h k q hk).lt
end VXS
/-! ===== END ===== -/
/-! ===== BEGIN methods with a table of their own: called by a name, returning or throwing ===== -/
section VXH
/-! vx_backW, vx_callVX, vx_callSX, vx_callVW, vx_runVW, vx_runVX, vx_runSX, vx_ofWH follow the same proofs as their sisters above (Free/Laws.lean, Shelf42/LK1.lean); vx_outP calls Shelf42/NT130.lean (outThrough). -/
section
variable {l : Launch} {R : Room} {p : Program} {e : Env} {below : List Frame} {s : State} {sargs : Array Value} {y : MethodName} {len W9 : Nat}
theorem vx_backW {ws : List Cond} {rm : Room} {Pc : Array Value → State → Prop} {Qc : Array Value → State → Outcome → State → Prop} {XC : String → State → State → Prop} {mc ms : Nat} {free : Addr → Prop} {bytes : ByteArray} {maxL : Nat} {ret : Option FieldType} {hh : List (Nat × Nat × Nat × Nat)}
    (hM : vx_Met l y ws rm Pc Qc XC mc ms free) (hblind : FrameBlind Pc) (hrc : rm.cells = mc) (hrs : rm.slots = ms)
    (hframes : rm.frames + 1 ≤ R.frames) (hlocals : W9 + (maxL + 11) + rm.locals ≤ R.locals)
    (hws : ∀ w ∈ ws, ∀ a' U, s.WarmedH U.vm → w.before a' U = true) (hcode : Cond.codeWith y bytes maxL ret hh ∈ ws) (hinit : ∀ a' U, s.WarmedH U.vm → (Cond.initialized y.cls).before a' U = true) :
    vx_Back l R p e below s sargs y len W9 (PreOf R mc ms Pc) (PostOf Qc mc ms free) (vx_Post XC mc ms free) := by
  intro m meth c A g ig mk a X hg hsize hdg hW hn hp
  have h1 : (headSpec ws rm).pre.before a A.U = true := atoms_intro fun w hw => hws w hw _ _ X.warmed
  have h2 : (Cond.codeWith y bytes maxL ret hh).before a A.U = true := hws _ hcode _ _ X.warmed
  have h3 : (Cond.initialized y.cls).before a A.U = true := hinit _ _ X.warmed
  have h4 : A.cells + (headSpec ws rm).room.cells ≤ R.cells := by rw [show (headSpec ws rm).room.cells = mc from hrc]; exact hp.1
  have h5 : A.slots + (headSpec ws rm).room.slots ≤ R.slots := by rw [show (headSpec ws rm).room.slots = ms from hrs]; exact hp.2.1
  have hPc : Pc a (A.U.calling g mk a) := hblind _ _ _ _ hp.2.2
  obtain ⟨U, Ls, c0, s0⟩ := A
  dsimp only [Pt.U, Pt.locs, Pt.cells, Pt.slots] at h1 h2 h3 h4 h5 X hn hPc ⊢
  obtain ⟨m9, methY, cY, hn9, hmY, hcY, -, hlY, -⟩ := Cond.codeWith_spec h2
  cases Option.some.inj (hn9.symm.trans hn)
  obtain ⟨kY, hkY, -⟩ := className_of_methodNamed hn
  have hinitY : kY.init = .initialized := Cond.initialized_spec (findClass_of_methodNamed hn) hkY h3
  have h : At U g.method c below := by rw [hg]; exact X.here
  have hlocals9 : W9 + (maxL + 11) + (headSpec ws rm).room.locals ≤ R.locals := hlocals
  have happ : (headSpec ws rm).appliesLoose y e.platform (U.calling g mk a) = true :=
    Spec.appliesLoose_calling (g := g) h hdg hn hkY hinitY
      (X.room_calling (g := g) (R' := (headSpec ws rm).room) hsize hmY hcY hframes (by rw [hlY]; omega) h4 h5) h1
  obtain ⟨mid, hmid⟩ := h.above
  have hfr : (U.setTop g).frames = (.java g :: mid) ++ below := by rw [State.frames_setTop' g h.top, hmid]; rfl
  obtain ⟨o, s₂, hsteps, -, hend, hq⟩ := Steps.callFree hM p X.admits X.cas X.clock (acts := []) hfr happ hPc trivial
  have hq' : vx_Q Qc XC mc ms free a (U.calling g mk a) o s₂ := hq
  rw [State.frames_setTop' g h.top] at hend
  obtain ⟨g₀, hg0⟩ := Option.isSome_iff_exists.mp h.top
  obtain ⟨r, hr⟩ := State.topJava?_eq_some.mp hg0
  have hr' : (({ U with heap := s₂.heap, slotsUsed := s₂.slotsUsed } : State).setVm s₂.vm).frames = .java g₀ :: r := hr
  rcases hq' with ⟨hqc, L, hfe, hL⟩ | ⟨q, rfl, E, ce, L, hx, hce, hcv, hcl, hW₂, hsm, hL⟩
  · obtain ⟨⟨v, rfl⟩, hW₂, e2, q2, q3, q4, q5, q6⟩ := id hfe
    have e3 : s₂ = ({ (U.calling g mk a).setFrames s₂.frames with heap := s₂.heap, slotsUsed := s₂.slotsUsed } : State).setVm s₂.vm := by
      have : s₂ = ({ s₂ with vm := (U.calling g mk a).vm } : State).setVm s₂.vm := rfl
      rw [e2] at this
      exact this
    obtain ⟨c₂, i₂, len₂, hc₂, hd₂, hf₂⟩ := hend
    have hW' : U.WarmedH s₂.vm := hW₂
    have hcc : c₂ = c := by
      have h1 : s₂.code? g.method = U.code? g.method := by
        rw [State.code?_eq, State.code?_eq, hW'.alike.method?]
      exact Option.some.inj (hc₂.symm.trans (h1.trans h.code))
    subst hcc
    have hlen : len₂ = len := by rw [hdg] at hd₂; cases hd₂; rfl
    subst hlen
    have hs₂ : s₂ = (({ U with heap := s₂.heap, slotsUsed := s₂.slotsUsed } : State).setVm s₂.vm).setTop { g with pc := g.pc + len₂, stack := v.toList ++ g.stack } := by
      refine e3.trans ?_
      rw [hf₂, State.calling_eq h.top, State.setFrames_setFrames, State.setTop_of_frames _ hr', hr]
      rfl
    have hsame : U.sameButNew ({ U with heap := s₂.heap, slotsUsed := s₂.slotsUsed } : State) L mc ms := by
      refine ⟨?_, q2, q3, q4, q5, q6⟩
      obtain ⟨t, ht, -⟩ := State.frames_cons hr
      show ({ U with heap := s₂.heap, slotsUsed := s₂.slotsUsed } : State) = { U.setFrames U.frames with heap := s₂.heap, slotsUsed := s₂.slotsUsed }
      rw [State.setFrames_self ht]
    subst hg
    refine Or.inl ⟨v, ⟨(({ U with heap := s₂.heap, slotsUsed := s₂.slotsUsed } : State).setVm s₂.vm), Ls ++ L, c0 + mc, s0 + ms⟩,
      ⟨X.admits, X.cas, X.clock, X.frames, X.room, X.hears, X.method, X.code, (X.here.setHeapUsed s₂.heap s₂.slotsUsed).setVm hW'.alike, X.tail, State.WarmedH.trans X.warmed hW', X.limits, X.bytes, X.same.trans (hsame.setVm s.vm)⟩,
      ⟨g, mk, s₂, L, rfl, rfl, hqc, rfl, hL, rfl, rfl⟩, ?_⟩
    show Steps p.tables e below _ ((({ U with heap := s₂.heap, slotsUsed := s₂.slotsUsed } : State).setVm s₂.vm).setTop { g with pc := g.pc + len₂, stack := v.toList ++ g.stack })
    rw [← hs₂]
    exact hsteps
  · obtain ⟨e2, q2, q3, q4, q5, q6⟩ := id hsm
    have e3 : s₂ = ({ (U.calling g mk a).setFrames s₂.frames with heap := s₂.heap, slotsUsed := s₂.slotsUsed } : State).setVm s₂.vm := by
      have : s₂ = ({ s₂ with vm := (U.calling g mk a).vm } : State).setVm s₂.vm := rfl
      rw [e2] at this
      exact this
    have hf₂ : s₂.frames = .throwing q :: .java g :: U.frames.tail := hend
    have hW' : U.WarmedH s₂.vm := hW₂
    have hs₂ : s₂ = ((({ U with heap := s₂.heap, slotsUsed := s₂.slotsUsed } : State).setVm s₂.vm).setTop g).pushFrame (.throwing q) := by
      refine e3.trans ?_
      rw [hf₂, State.calling_eq h.top, State.setFrames_setFrames, State.pushFrame, State.frames_setTop _ hr', State.setTop_of_frames _ hr', State.setFrames_setFrames, hr]
      rfl
    have hsame : U.sameButNew ({ U with heap := s₂.heap, slotsUsed := s₂.slotsUsed } : State) L mc ms := by
      refine ⟨?_, q2, q3, q4, q5, q6⟩
      obtain ⟨t, ht, -⟩ := State.frames_cons hr
      show ({ U with heap := s₂.heap, slotsUsed := s₂.slotsUsed } : State) = { U.setFrames U.frames with heap := s₂.heap, slotsUsed := s₂.slotsUsed }
      rw [State.setFrames_self ht]
    subst hg
    refine Or.inr ⟨q, ⟨(({ U with heap := s₂.heap, slotsUsed := s₂.slotsUsed } : State).setVm s₂.vm), Ls ++ L, c0 + mc, s0 + ms⟩,
      ⟨X.admits, X.cas, X.clock, X.frames, X.room, X.hears, X.method, X.code, (X.here.setHeapUsed s₂.heap s₂.slotsUsed).setVm hW'.alike, X.tail, State.WarmedH.trans X.warmed hW', X.limits, X.bytes, X.same.trans (hsame.setVm s.vm)⟩,
      ⟨g, mk, s₂, L, E, ce, rfl, rfl, hx, hce, hcv, hcl, rfl, hL, rfl, rfl⟩, ?_⟩
    show Steps p.tables e below _ (((({ U with heap := s₂.heap, slotsUsed := s₂.slotsUsed } : State).setVm s₂.vm).setTop g).pushFrame (.throwing q))
    rw [← hs₂]
    exact hsteps
end
variable {p : Program} {l : Launch} {e : Env} {R : Room} {s : State} {m : MethodId} {args : Array Value} {below : List Frame} {meth : Method} {c : Code} {T : State} {H : Heap} {locs : List Loc} {cells slots : Nat}
theorem vx_callVX (X : Stand p l e R s m args below meth c T locs cells slots) (hexec : p.tables.exec = Jvm.exec) {own C : String} {index : Nat} {y : MethodName} {bytes : ByteArray} {maxL : Nat} {ret : Option FieldType} {hh : List (Nat × Nat × Nat × Nat)}
    (hown : s.vm.findClass own = some m.cls) (hlink : (Cond.methodLink own index y).before args s = true) (hinst : (Cond.instanceMethod y).before args s = true) (hsel : (Cond.selects C y y).before args s = true)
    (hcode : (Cond.codeWith y bytes maxL ret hh).before args s = true) (hy : y.cls ≠ "java/lang/invoke/MethodHandle" ∧ y.cls ≠ "java/lang/invoke/VarHandle")
    {W9 : Nat} {Pre : Pt → Array Value → Prop} {Post : Pt → Array Value → Option Value → Pt → Prop} {PostX : Pt → Array Value → Addr → Pt → Prop} (hK : vx_Back l R p e below s args y 3 W9 Pre Post PostX)
    {b : Addr} {cellB : Cell} (hcell : T.heap[b]? = some cellB) (hobj : cellB.vm.isStatics = false) (hcls : s.vm.findClass C = some cellB.cls)
    {g : JFrame} (hg : g.method = m) (hsize : g.locals.size = c.maxLocals) {argsL rest : List Value} (hlen : ∀ sig, parseMethodDescriptor y.desc = some sig → argsL.length = sig.parameters.length)
    (hstack : g.stack = argsL.reverse ++ .ref b :: rest) (hW : 2 * g.monitorRoom + (rest.map fun v => v.category).sum ≤ W9) (hdg : decode c.code g.pc = .ok (.invokevirtual index, 3))
    (hpre : ∀ vm₁, s.WarmedH vm₁ → Pre ⟨T.setVm vm₁, locs, cells, slots⟩ (Value.ref b :: argsL).toArray) :
    (∃ (v : Option Value) (vm₁ : Vm) (B : Pt), s.WarmedH vm₁ ∧ Stand p l e R s m args below meth c B.U B.locs B.cells B.slots ∧ Post ⟨T.setVm vm₁, locs, cells, slots⟩ (Value.ref b :: argsL).toArray v B ∧
      ∀ target, Steps p.tables e below (B.U.setTop { g with pc := g.pc + 3, stack := v.toList ++ rest }) target → Steps p.tables e below (T.setTop g) target) ∨
    (∃ (q : Addr) (vm₁ : Vm) (B : Pt), s.WarmedH vm₁ ∧ Stand p l e R s m args below meth c B.U B.locs B.cells B.slots ∧ PostX ⟨T.setVm vm₁, locs, cells, slots⟩ (Value.ref b :: argsL).toArray q B ∧
      Steps p.tables e below (T.setTop g) ((B.U.setTop { g with stack := rest }).pushFrame (.throwing q))) := by
  obtain ⟨mk, methM, hnamed, hmethM, hstM, habM⟩ := Cond.instanceMethod_spec hinst
  obtain ⟨m8, methM', cM, hn8, hmethM', -, -, -, -, -, -, hsigM⟩ := Cond.codeWith_spec hcode
  cases Option.some.inj (hn8.symm.trans hnamed)
  cases hmethM.symm.trans hmethM'
  obtain ⟨c2, r2, m2, q1, q2, q3, q4, kP, hkP, hkPi⟩ := Cond.selects_spec hsel
  cases hcls.symm.trans q1
  cases (State.methodFound?_of_named hnamed hy).symm.trans q2
  cases hnamed.symm.trans q3
  have hselP : selectMethod e.platform s.vm cellB.cls mk = .method mk := by rw [Launch.admits_selectMethod X.admits]; exact q4
  obtain ⟨vm₁, X₁, hstep₁⟩ := X.invokevirtual hexec hown hlink hnamed hmethM hstM hkP hkPi hy (a := b) (cell := cellB) hcell
    (fun z h => by rw [h] at hobj; cases hobj) hselP hmethM habM hkP hkPi (g := g) hg (argsL := argsL) (rest := rest) (hlen _ hsigM) hstack hdg
  rcases hK m meth c ⟨T.setVm vm₁, locs, cells, slots⟩ { g with stack := rest } (.invokevirtual index) mk (Value.ref b :: argsL).toArray X₁ hg hsize hdg hW (X₁.named hnamed) (hpre vm₁ X₁.warmed) with ⟨v, B, X', hpost, hsteps⟩ | ⟨q, B, X', hpost, hsteps⟩
  · exact Or.inl ⟨v, vm₁, B, X₁.warmed, X', hpost, fun target h => hstep₁ _ fun acts => by rw [doInvoke_state]; exact hsteps.trans h⟩
  · exact Or.inr ⟨q, vm₁, B, X₁.warmed, X', hpost, hstep₁ _ fun acts => by rw [doInvoke_state]; exact hsteps⟩
theorem vx_callSX (X : Stand p l e R s m args below meth c T locs cells slots) (hexec : p.tables.exec = Jvm.exec) {own : String} {index : Nat} {y : MethodName} {bytes : ByteArray} {maxL : Nat} {ret : Option FieldType} {hh : List (Nat × Nat × Nat × Nat)}
    (hown : s.vm.findClass own = some m.cls) (hlink : (Cond.methodLink own index y).before args s = true) (hstat : (Cond.static y).before args s = true) (hinit : (Cond.initialized y.cls).before args s = true)
    (hcode : (Cond.codeWith y bytes maxL ret hh).before args s = true) (hy : y.cls ≠ "java/lang/invoke/MethodHandle" ∧ y.cls ≠ "java/lang/invoke/VarHandle")
    {W9 : Nat} {Pre : Pt → Array Value → Prop} {Post : Pt → Array Value → Option Value → Pt → Prop} {PostX : Pt → Array Value → Addr → Pt → Prop} (hK : vx_Back l R p e below s args y 3 W9 Pre Post PostX)
    {g : JFrame} (hg : g.method = m) (hsize : g.locals.size = c.maxLocals) {argsL rest : List Value} (hlen : ∀ sig, parseMethodDescriptor y.desc = some sig → argsL.length = sig.parameters.length)
    (hstack : g.stack = argsL.reverse ++ rest) (hW : 2 * g.monitorRoom + (rest.map fun v => v.category).sum ≤ W9) (hdg : decode c.code g.pc = .ok (.invokestatic index, 3))
    (hpre : ∀ vm₁, s.WarmedH vm₁ → Pre ⟨T.setVm vm₁, locs, cells, slots⟩ argsL.toArray) :
    (∃ (v : Option Value) (vm₁ : Vm) (B : Pt), s.WarmedH vm₁ ∧ Stand p l e R s m args below meth c B.U B.locs B.cells B.slots ∧ Post ⟨T.setVm vm₁, locs, cells, slots⟩ argsL.toArray v B ∧
      ∀ target, Steps p.tables e below (B.U.setTop { g with pc := g.pc + 3, stack := v.toList ++ rest }) target → Steps p.tables e below (T.setTop g) target) ∨
    (∃ (q : Addr) (vm₁ : Vm) (B : Pt), s.WarmedH vm₁ ∧ Stand p l e R s m args below meth c B.U B.locs B.cells B.slots ∧ PostX ⟨T.setVm vm₁, locs, cells, slots⟩ argsL.toArray q B ∧
      Steps p.tables e below (T.setTop g) ((B.U.setTop { g with stack := rest }).pushFrame (.throwing q))) := by
  obtain ⟨mk, methM, cM, hnamed, hmethM, -, -, -, -, -, -, hsigM⟩ := Cond.codeWith_spec hcode
  have hstatic : methM.isStatic = true := Cond.static_spec hnamed hmethM hstat
  obtain ⟨kP, hkP, -⟩ := className_of_methodNamed hnamed
  have hinitP : kP.init = .initialized := Cond.initialized_spec (findClass_of_methodNamed hnamed) hkP hinit
  obtain ⟨vm₁, X₁, hstep₁⟩ := X.invokestatic hexec hown hlink hnamed hmethM hstatic hkP hinitP hy (g := g) hg (argsL := argsL) (rest := rest) (hlen _ hsigM) hstack hdg
  rcases hK m meth c ⟨T.setVm vm₁, locs, cells, slots⟩ { g with stack := rest } (.invokestatic index) mk argsL.toArray X₁ hg hsize hdg hW (X₁.named hnamed) (hpre vm₁ X₁.warmed) with ⟨v, B, X', hpost, hsteps⟩ | ⟨q, B, X', hpost, hsteps⟩
  · exact Or.inl ⟨v, vm₁, B, X₁.warmed, X', hpost, fun target h => hstep₁ _ fun acts => by rw [doInvoke_state]; exact hsteps.trans h⟩
  · exact Or.inr ⟨q, vm₁, B, X₁.warmed, X', hpost, hstep₁ _ fun acts => by rw [doInvoke_state]; exact hsteps⟩
theorem vx_callVW (X : Stand p l e R s m args below meth c T locs cells slots) (hexec : p.tables.exec = Jvm.exec) {own C : String} {index : Nat} {y : MethodName} {bytes : ByteArray} {maxL : Nat} {ret : Option FieldType} {hh : List (Nat × Nat × Nat × Nat)}
    (hown : s.vm.findClass own = some m.cls) (hlink : (Cond.methodLink own index y).before args s = true) (hinst : (Cond.instanceMethod y).before args s = true) (hsel : (Cond.selects C y y).before args s = true)
    (hcode : (Cond.codeWith y bytes maxL ret hh).before args s = true) (hy : y.cls ≠ "java/lang/invoke/MethodHandle" ∧ y.cls ≠ "java/lang/invoke/VarHandle")
    {W9 : Nat} {Pre : Pt → Array Value → Prop} {Post : Pt → Array Value → Option Value → Pt → Prop} (hK : Back l R p e below s args y 3 W9 Pre Post)
    {b : Addr} {cellB : Cell} (hcell : T.heap[b]? = some cellB) (hobj : cellB.vm.isStatics = false) (hcls : s.vm.findClass C = some cellB.cls)
    {g : JFrame} (hg : g.method = m) (hsize : g.locals.size = c.maxLocals) {argsL rest : List Value} (hlen : ∀ sig, parseMethodDescriptor y.desc = some sig → argsL.length = sig.parameters.length)
    (hstack : g.stack = argsL.reverse ++ .ref b :: rest) (hW : 2 * g.monitorRoom + (rest.map fun v => v.category).sum ≤ W9) (hdg : decode c.code g.pc = .ok (.invokevirtual index, 3))
    (hpre : ∀ vm₁, s.WarmedH vm₁ → Pre ⟨T.setVm vm₁, locs, cells, slots⟩ (Value.ref b :: argsL).toArray) :
    ∃ (v : Option Value) (vm₁ : Vm) (B : Pt), s.WarmedH vm₁ ∧ Stand p l e R s m args below meth c B.U B.locs B.cells B.slots ∧ Post ⟨T.setVm vm₁, locs, cells, slots⟩ (Value.ref b :: argsL).toArray v B ∧
      ∀ target, Steps p.tables e below (B.U.setTop { g with pc := g.pc + 3, stack := v.toList ++ rest }) target → Steps p.tables e below (T.setTop g) target := by
  obtain ⟨mk, methM, hnamed, hmethM, hstM, habM⟩ := Cond.instanceMethod_spec hinst
  obtain ⟨m8, methM', cM, hn8, hmethM', -, -, -, -, -, -, hsigM⟩ := Cond.codeWith_spec hcode
  cases Option.some.inj (hn8.symm.trans hnamed)
  cases hmethM.symm.trans hmethM'
  obtain ⟨c2, r2, m2, q1, q2, q3, q4, kP, hkP, hkPi⟩ := Cond.selects_spec hsel
  cases hcls.symm.trans q1
  cases (State.methodFound?_of_named hnamed hy).symm.trans q2
  cases hnamed.symm.trans q3
  have hselP : selectMethod e.platform s.vm cellB.cls mk = .method mk := by rw [Launch.admits_selectMethod X.admits]; exact q4
  obtain ⟨vm₁, X₁, hstep₁⟩ := X.invokevirtual hexec hown hlink hnamed hmethM hstM hkP hkPi hy (a := b) (cell := cellB) hcell
    (fun z h => by rw [h] at hobj; cases hobj) hselP hmethM habM hkP hkPi (g := g) hg (argsL := argsL) (rest := rest) (hlen _ hsigM) hstack hdg
  obtain ⟨v, B, X', hpost, hsteps⟩ := hK m meth c ⟨T.setVm vm₁, locs, cells, slots⟩ { g with stack := rest } (.invokevirtual index) mk (Value.ref b :: argsL).toArray X₁ hg hsize hdg hW (X₁.named hnamed) (hpre vm₁ X₁.warmed)
  exact ⟨v, vm₁, B, X₁.warmed, X', hpost, fun target h => hstep₁ _ fun acts => by rw [doInvoke_state]; exact hsteps.trans h⟩
abbrev vx_CVW (R : Room) (s : State) (args : Array Value) (own C : String) (index : Nat) (y : MethodName) (bytes : ByteArray) (maxL : Nat) (ret : Option FieldType) (hh : List (Nat × Nat × Nat × Nat)) (ws : List Cond) (rm : Room) (mc ms n : Nat) : Prop :=
  (rm.cells = mc ∧ rm.slots = ms ∧ rm.frames + 1 ≤ R.frames ∧ 8 + (maxL + 11) + rm.locals ≤ R.locals ∧ (∀ w ∈ ws, ∀ (a' : Array Value) (U : State), s.WarmedH U.vm → w.before a' U = true) ∧ Cond.codeWith y bytes maxL ret hh ∈ ws) ∧
  (Cond.codeWith y bytes maxL ret hh).before args s = true ∧ (Cond.initialized y.cls).before args s = true ∧ (y.cls ≠ "java/lang/invoke/MethodHandle" ∧ y.cls ≠ "java/lang/invoke/VarHandle") ∧
  (∀ sig, parseMethodDescriptor y.desc = some sig → n = sig.parameters.length) ∧ (Cond.methodLink own index y).before args s = true ∧ (Cond.instanceMethod y).before args s = true ∧ (Cond.selects C y y).before args s = true
theorem vx_cwVW {own C : String} {index maxL mc ms : Nat} {y : MethodName} {bytes : ByteArray} {ret : Option FieldType} {hh : List (Nat × Nat × Nat × Nat)} {Ts ws ws' : List Cond} {rm : Room} (n : Nat) (ht : ∀ w ∈ Ts, w.before args s = true) (hT : GoodIn Ts (wsV own index C y ws)) (hw : ws = Cond.codeWith y bytes maxL ret hh :: ws') (hrc : rm.cells = mc) (hrs : rm.slots = ms)
    (hd : y.cls = C ∧ y.cls ≠ "java/lang/invoke/MethodHandle" ∧ y.cls ≠ "java/lang/invoke/VarHandle" ∧ (parseMethodDescriptor y.desc).map (fun d => d.parameters.length) = some n) (hR : rm.frames + 1 ≤ R.frames ∧ 8 + (maxL + 11) + rm.locals ≤ R.locals) :
    vx_CVW R s args own C index y bytes maxL ret hh ws rm mc ms n := by
  obtain ⟨hC, hd⟩ := hd
  subst hC
  have ok : ∀ w ∈ wsV own index y.cls y ws, w.before args s = true := fun w h => ht w (hT w h).1
  have hG : GoodIn Ts ws := fun w h => hT w (by unfold wsV; exact List.mem_append_right _ h)
  have hc : Cond.codeWith y bytes maxL ret hh ∈ ws := by rw [hw]; exact List.mem_cons_self
  refine ⟨⟨hrc, hrs, hR.1, hR.2, pay_in ht hG, hc⟩, ht _ (hG _ hc).1, ok _ (by simp [wsV]), ⟨hd.1, hd.2.1⟩, fun sig h => ?_, ok _ (by simp [wsV]), ok _ (by simp [wsV]), ok _ (by simp [wsV])⟩
  have h2 := hd.2.2
  rw [h] at h2
  exact (Option.some.inj h2).symm
theorem vx_runVW {y : MethodName} {bytes cc : ByteArray} {maxL nL mc ms n index : Nat} {ret : Option FieldType} {hh : List (Nat × Nat × Nat × Nat)} {ws : List Cond} {rm : Room} {Pc : Array Value → State → Prop} {Qc : Array Value → State → Outcome → State → Prop} {free : Addr → Prop} {Ts : List Cond} {own C : String} {b : Addr} {As rest : List Value} {g : JFrame}
    (S : CallFix p m c cc nL s args Ts own) (hM : Met l y ws rm Pc Qc mc ms free) (cw : vx_CVW R s args own C index y bytes maxL ret hh ws rm mc ms n) (hp : PreV s H C b Pc As)
    (hg : g.method = m) (hn : As.length = n) (hsize : g.locals.size = nL) (hstack : g.stack = As.reverse ++ .ref b :: rest) (hW : 2 * g.monitorRoom + (rest.map fun v => v.category).sum ≤ 8) (hdg : decode cc g.pc = .ok (.invokevirtual index, 3)) (hf : cells + mc ≤ R.cells ∧ slots + ms ≤ R.slots) :
    va_Run p l e R s m args below meth c H locs cells slots mc ms g rest (Qc (Value.ref b :: As).toArray) free := by
  obtain ⟨⟨hrc, hrs, hfr, hlo, hws, hcw⟩, hcode, hini, hy, hlen, hl, hin, hse⟩ := cw
  have hK : Back l R p e below s args y 3 8 (PreOf R mc ms Pc) (PostOf Qc mc ms free) := va_backW (hh := hh) (bytes := bytes) (maxL := maxL) (ret := ret) hM hp.1 hrc hrs hfr hlo hws hcw (fun a' U hW => word_at hW (Or.inl (by first | rfl | simp [Cond.onTables, Cond.keeps, Cond.steady])) hini)
  obtain ⟨hx, hb, hml, ho, -⟩ := S
  obtain ⟨-, ⟨cellB, hcB, hoB, hclB⟩, hPc⟩ := hp
  intro T hT X
  obtain ⟨v, vm₁, ⟨U', l2, c2, s2⟩, hW₁, X', ⟨g', mk, t, L, e1, e2, hq, h1, hL, h2, h3⟩, st⟩ := vx_callVW X hx (C := C) (hh := hh) (bytes := bytes) (maxL := maxL) (ret := ret) ho hl hin hse hcode hy hK (by rw [hT]; exact hcB) hoB hclB hg (hsize.trans hml.symm) (argsL := As) (rest := rest) (fun sig h => hn.trans (hlen sig h)) hstack hW (by rw [hb]; exact hdg)
    (fun vm₁ hW₁ => ⟨hf.1, hf.2, hPc (T.setVm vm₁) hT hW₁⟩)
  dsimp only [Pt.U, Pt.locs, Pt.cells, Pt.slots] at X' e1 e2 h1 h2 h3 st
  subst h1; subst h2; subst h3
  exact ⟨v, (T.setVm vm₁).calling g' mk (Value.ref b :: As).toArray, t, U', L, hT, X', hL, e1, e2, hq, st⟩
section
variable {y : MethodName} {bytes cc : ByteArray} {maxL nL mc ms n index : Nat} {ret : Option FieldType} {ws : List Cond} {rm : Room} {Pc : Array Value → State → Prop} {Qc : Array Value → State → Outcome → State → Prop} {XC : String → State → State → Prop} {free : Addr → Prop} {Ts : List Cond} {own C : String} {b : Addr} {As rest : List Value} {g : JFrame}
theorem vx_runVX {hh : List (Nat × Nat × Nat × Nat)} (S : CallFix p m c cc nL s args Ts own) (hM : vx_Met l y ws rm Pc Qc XC mc ms free) (cw : vx_CVW R s args own C index y bytes maxL ret hh ws rm mc ms n) (hp : PreV s H C b Pc As)
    (hg : g.method = m) (hn : As.length = n) (hsize : g.locals.size = nL) (hstack : g.stack = As.reverse ++ .ref b :: rest) (hW : 2 * g.monitorRoom + (rest.map fun v => v.category).sum ≤ 8) (hdg : decode cc g.pc = .ok (.invokevirtual index, 3)) (hf : cells + mc ≤ R.cells ∧ slots + ms ≤ R.slots) :
    vx_Run p l e R s m args below meth c H locs cells slots mc ms g rest (Qc (Value.ref b :: As).toArray) XC free := by
  obtain ⟨⟨hrc, hrs, hfr, hlo, hws, hcw⟩, hcode, hini, hy, hlen, hl, hin, hse⟩ := cw
  have hK : vx_Back l R p e below s args y 3 8 (PreOf R mc ms Pc) (PostOf Qc mc ms free) (vx_Post XC mc ms free) := vx_backW (hh := hh) (bytes := bytes) (maxL := maxL) (ret := ret) hM hp.1 hrc hrs hfr hlo hws hcw (fun a' U hW => word_at hW (Or.inl (by first | rfl | simp [Cond.onTables, Cond.keeps, Cond.steady])) hini)
  obtain ⟨hx, hb, hml, ho, -⟩ := S
  obtain ⟨-, ⟨cellB, hcB, hoB, hclB⟩, hPc⟩ := hp
  intro T hT X
  rcases vx_callVX X hx (C := C) (hh := hh) (bytes := bytes) (maxL := maxL) (ret := ret) ho hl hin hse hcode hy hK (by rw [hT]; exact hcB) hoB hclB hg (hsize.trans hml.symm) (argsL := As) (rest := rest) (fun sig h => hn.trans (hlen sig h)) hstack hW (by rw [hb]; exact hdg)
    (fun vm₁ hW₁ => ⟨hf.1, hf.2, hPc (T.setVm vm₁) hT hW₁⟩) with ⟨v, vm₁, ⟨U', l2, c2, s2⟩, hW₁, X', ⟨g', mk, t, L, e1, e2, hq, h1, hL, h2, h3⟩, st⟩ | ⟨q, vm₁, ⟨U', l2, c2, s2⟩, hW₁, X', ⟨g', mk, t, L, E, ce, e1, e2, hq, hce, hcv, hcl, h1, hL, h2, h3⟩, st⟩
  · dsimp only [Pt.U, Pt.locs, Pt.cells, Pt.slots] at X' e1 e2 h1 h2 h3 st
    subst h1; subst h2; subst h3
    exact Or.inl ⟨v, (T.setVm vm₁).calling g' mk (Value.ref b :: As).toArray, t, U', L, hT, X', hL, e1, e2, hq, st⟩
  · dsimp only [Pt.U, Pt.locs, Pt.cells, Pt.slots] at X' e1 e2 h1 h2 h3 st hcl
    subst h1; subst h2; subst h3
    exact Or.inr ⟨q, (T.setVm vm₁).calling g' mk (Value.ref b :: As).toArray, t, U', L, E, ce, hT, X', hL, e1, e2, hq, hce, hcv, vx_cls hW₁ hcl, st⟩
theorem vx_runSX {hh : List (Nat × Nat × Nat × Nat)} (S : CallFix p m c cc nL s args Ts own) (hM : vx_Met l y ws rm Pc Qc XC mc ms free) (cw : vx_CSW R s args own index y bytes maxL ret hh ws rm mc ms n) (hp : PreS s H Pc As)
    (hg : g.method = m) (hn : As.length = n) (hsize : g.locals.size = nL) (hstack : g.stack = As.reverse ++ rest) (hW : 2 * g.monitorRoom + (rest.map fun v => v.category).sum ≤ 8) (hdg : decode cc g.pc = .ok (.invokestatic index, 3)) (hf : cells + mc ≤ R.cells ∧ slots + ms ≤ R.slots) :
    vx_Run p l e R s m args below meth c H locs cells slots mc ms g rest (Qc As.toArray) XC free := by
  obtain ⟨⟨hrc, hrs, hfr, hlo, hws, hcw⟩, hcode, hini, hy, hlen, hl, hstt⟩ := cw
  have hK : vx_Back l R p e below s args y 3 8 (PreOf R mc ms Pc) (PostOf Qc mc ms free) (vx_Post XC mc ms free) := vx_backW (hh := hh) (bytes := bytes) (maxL := maxL) (ret := ret) hM hp.1 hrc hrs hfr hlo hws hcw (fun a' U hW => word_at hW (Or.inl (by first | rfl | simp [Cond.onTables, Cond.keeps, Cond.steady])) hini)
  obtain ⟨hx, hb, hml, ho, -⟩ := S
  intro T hT X
  rcases vx_callSX X hx (hh := hh) (bytes := bytes) (maxL := maxL) (ret := ret) ho hl hstt hini hcode hy hK hg (hsize.trans hml.symm) (argsL := As) (rest := rest) (fun sig h => hn.trans (hlen sig h)) hstack hW (by rw [hb]; exact hdg)
    (fun vm₁ hW₁ => ⟨hf.1, hf.2, hp.2 (T.setVm vm₁) hT hW₁⟩) with ⟨v, vm₁, ⟨U', l2, c2, s2⟩, hW₁, X', ⟨g', mk, t, L, e1, e2, hq, h1, hL, h2, h3⟩, st⟩ | ⟨q, vm₁, ⟨U', l2, c2, s2⟩, hW₁, X', ⟨g', mk, t, L, E, ce, e1, e2, hq, hce, hcv, hcl, h1, hL, h2, h3⟩, st⟩
  · dsimp only [Pt.U, Pt.locs, Pt.cells, Pt.slots] at X' e1 e2 h1 h2 h3 st
    subst h1; subst h2; subst h3
    exact Or.inl ⟨v, (T.setVm vm₁).calling g' mk As.toArray, t, U', L, hT, X', hL, e1, e2, hq, st⟩
  · dsimp only [Pt.U, Pt.locs, Pt.cells, Pt.slots] at X' e1 e2 h1 h2 h3 st hcl
    subst h1; subst h2; subst h3
    exact Or.inr ⟨q, (T.setVm vm₁).calling g' mk As.toArray, t, U', L, E, ce, hT, X', hL, e1, e2, hq, hce, hcv, vx_cls hW₁ hcl, st⟩
end
end VXH
theorem vx_ofWH {l : Launch} {y : MethodName} {ws ws' : List Cond} {rm : Room} {Pc : Array Value → State → Prop} {Qc : Array Value → State → Outcome → State → Prop} {XC : String → State → State → Prop} {mc ms : Nat} {free : Addr → Prop} {cc : ByteArray} {maxL : Nat} {ret : Option FieldType} {hh : List (Nat × Nat × Nat × Nat)}
    (hy : plainName y.cls = true) (hw : ws = Cond.codeWith y cc maxL ret hh :: ws')
    (body : ∀ p e s m args below meth c s₁, BodyLoose p l y (headSpec ws rm) cc maxL ret e s m args below meth c s₁ → c.maxLocals = maxL → Pc args s →
      W p l e (headSpec ws rm).room s m args below meth c s.heap [] 0 0 (vx_MQ below Qc XC args s mc ms free) (entryFrame m args maxL)) : vx_Met l y ws rm Pc Qc XC mc ms free := by
  refine MetFree.of_bodyS (code := cc) (maxLocals := maxL) (ret := ret) hy ?_ ?_
  · intro args s m h hn
    obtain ⟨m9, meth, c, hn9, h1, h2, h3, h4, -, h5, h6, -⟩ := Cond.codeWith_spec (atoms_spec (ws := ws) h _ (by rw [hw]; exact List.mem_cons_self))
    cases hn.symm.trans hn9
    exact ⟨meth, c, h1, h2, h3, h4, h5, h6⟩
  · intro p e s m args below meth c s₁ B hml hP _
    have hh0 : s₁.heap = s.heap := by rw [B.state]; rfl
    obtain ⟨t, a1, o, b1, b2, b3⟩ := body p e s m args below meth c s₁ B hml hP s₁ hh0 (Stand.of_body B)
    exact ⟨t, o, a1, b1, b2, b3⟩
/-! ===== END ===== -/
/-! ===== BEGIN what the machine throws by itself, no traces kept ===== -/
section VXM
set_option maxHeartbeats 1000000 in
/-- the machine throws cls with the message text, no traces kept: from its note over the frame g to 'throwing' over the same frame (follows the proofs of Stand.vmThrowsMessage, Shelf/KitTracedVmS.lean, and Stand.throwsMessageColdBareV, StandMessageColdV.lean, without the step out of the frame) -/
theorem vx_vmAt {p : Program} {l : Launch} {e : Env} {R : Room} {s : State} {m₀ : MethodId} {args : Array Value} {below : List Frame} {meth : Method} {c : Code} {W : State} {locs : List Loc} {cells slots : Nat}
    (X : Stand p l e R s m₀ args below meth c W locs cells slots) (hexec : p.tables.exec = Jvm.exec) (htr : e.platform.stackTraces = false) {cls : String} {names : List String} {text : String}
    (hcls : Bundle.fit cls = true) (hnames : ∀ n ∈ names, Bundle.fit n = true) (hsoe : (cls == "java/lang/StackOverflowError") = false) (hoom : (cls == "java/lang/OutOfMemoryError") = false)
    (h : ∀ a ∈ Bundle.messageArmAtoms cls names, a.before args s = true)
    (hlocs : ∀ x ∈ locs, ∀ cell, s.heap[x.base]? = some cell → cell.vm.isStatics = false)
    (htext : (text == notModelled) = false) (hlimit : ¬ (stringBytes (stringToUtf16 text)).size > e.platform.arrayLengthLimit) (hheap : ¬ (stringBytes (stringToUtf16 text)).size * componentBytes .byte > e.platform.maxHeapBytes)
    {g : JFrame} (hg : g.method = m₀) (hsize : g.locals.size = c.maxLocals)
    (hRframes : names.length + 4 < R.frames) (hRlocals : 2 * g.monitorRoom + (g.stack.map fun v => v.category).sum + 10240 ≤ R.locals) (hshort : 13 * names.length + 55 ≤ 10240)
    (hRcells : cells + 3 ≤ R.cells) (hRslots : slots + ((stringBytes (stringToUtf16 text)).size + 4 + 6) ≤ R.slots) (hlocks : meth.locks = false) :
    ∃ (S : State) (q : Addr) (ce : Cell), (∀ target, Steps p.tables e below ((S.setTop g).pushFrame (.throwing q)) target → Steps p.tables e below ((W.setTop g).pushFrame (.throwNew cls (some text) none)) target) ∧
      Stand p l e R s m₀ args below meth c S locs (cells + 3) (slots + ((stringBytes (stringToUtf16 text)).size + 4 + 6)) ∧ S.heap[q]? = some ce ∧ s.vm.findClass cls = some ce.cls ∧ ce.vm = .none := by
  have howns : e.platform.frameOwnsMonitors = true := by rw [X.admits.platform]
  have hfin : e.platform.finalization = false := by rw [X.admits.platform]
  have hpl : e.platform.magicAccessors = ({} : Platform).magicAccessors := by rw [X.admits.platform]
  have a : ∀ x, x ∈ Bundle.messageArmAtoms cls names → x.holds args s none s [] = true := fun x hx => h x hx
  obtain ⟨T, Z0, L, -, Y⟩ := ThrowableC.of_atoms (args := args) howns hfin hpl (fun x hx => h x (by simp [Bundle.messageArmAtoms, hx]))
  obtain ⟨Z, M, LZ, LM, hnZ⟩ := Init0T.ofS_atoms (args := args) hpl L Y (fun x hx => h x (by simp [Bundle.messageArmAtoms, hx]))
  obtain ⟨P1, Ps, hlen, L1, hL, hP1m, hlink1, hlink⟩ := Bundle.chainS (args := args) hpl hnZ names cls hcls hnames (fun x hx => h x (by simp [Bundle.messageArmAtoms, hx]))
  obtain ⟨Zs, LZs, hn4, hfitv, hfitc⟩ := StringT.of_atoms (args := args) (fun x hx => h x (by simp [Bundle.messageArmAtoms, hx]))
  have hfound : s.vm.findClass cls = some P1.m.cls := findClass_of_methodNamed hP1m
  obtain ⟨c1, kX, hc1, hk, hord, -, -, hn6⟩ := Cond.instantiable_spec (a (.instantiable cls 6) (by simp [Bundle.messageArmAtoms]))
  cases Option.some.inj (hc1.symm.trans hfound)
  have hinit := Cond.initialized_spec hfound hk (a (.initialized cls) (by simp [Bundle.messageArmAtoms]))
  have hctor : kX.findMethod "<init>" "(Ljava/lang/String;)V" = some P1.m.idx := findMethod_of_methodNamed hP1m hk
  have hsel0 : selectMethod e.platform s.vm P1.m.cls T.fill0 = .method T.fill0 := by
    obtain ⟨c2, r2, m2, q1, q2, q3, q4, -⟩ := Cond.selects_spec (a (.selects cls Bundle.tFill0 Bundle.tFill0) (by simp [Bundle.messageArmAtoms]))
    cases Option.some.inj (q1.symm.trans hfound)
    cases Option.some.inj (q2.symm.trans (State.methodFound?_of_named Y.fill0 (by decide)))
    cases Option.some.inj (q3.symm.trans Y.fill0)
    rw [Launch.admits_selectMethod X.admits]; exact q4
  have hselF : selectMethod e.platform s.vm P1.m.cls T.fill = .method T.fill := by
    obtain ⟨c2, r2, m2, q1, q2, q3, q4, -⟩ := Cond.selects_spec (a (.selects cls Bundle.tFill Bundle.tFill) (by simp [Bundle.messageArmAtoms]))
    cases Option.some.inj (q1.symm.trans hfound)
    cases Option.some.inj (q2.symm.trans (State.methodFound?_of_named Y.fill (by decide)))
    cases Option.some.inj (q3.symm.trans Y.fill)
    rw [Launch.admits_selectMethod X.admits]; exact q4
  obtain ⟨cellS0, hcS0, hiss⟩ := Y.statics
  obtain ⟨u0, hu0⟩ := Cond.staticRefV Y.unassigned L.unassignedStatic L.statics hcS0 hiss (a (.isRef (.static Bundle.tN "UNASSIGNED_STACK" Bundle.steD)) (by simp [Bundle.messageArmAtoms]))
  obtain ⟨sen, hsen⟩ := Cond.staticRefV Y.sentinel L.sentinelStatic L.statics hcS0 hiss (a (.isRef (.static Bundle.tN "SUPPRESSED_SENTINEL" Bundle.listD)) (by simp [Bundle.messageArmAtoms]))
  obtain ⟨ci198, i198, fB, hk198, hg198, ha198, hsB, -, hnB, htB, hffB⟩ := Cond.ownField (t := .object "java/lang/Object") Y.found L.cls (by decide +kernel) (a (.fieldLink Bundle.tN 198 Bundle.tN "backtrace" "Ljava/lang/Object;") (by simp [Bundle.messageArmAtoms])) (a (.lays Bundle.tN Bundle.tN "backtrace" "Ljava/lang/Object;") (by simp [Bundle.messageArmAtoms])) e.platform hpl
  obtain ⟨cellS, hcS', heS, -, hkeep⟩ := X.same.2.2.2.2.2 T.aS cellS0 hcS0
  have hcellS : W.heap[T.aS]? = some cellS := hcS'
  have hout' : ∀ i, (⟨T.aS, i⟩ : Loc) ∉ locs := fun i hmem => by
    have := hlocs _ hmem cellS0 hcS0
    rw [hiss] at this; cases this
  have hknownS : cellS.vm ≠ .unknown := by
    rw [heS]; intro hu
    rw [show cellS0.vm = .unknown from hu] at hiss
    cases hiss
  have hvU : cellS.slots[T.fUnassigned.slot]? = some u0.v := by rw [hkeep _ (hout' _)]; exact hu0
  have hvSen : cellS.slots[T.fSentinel.slot]? = some sen.v := by rw [hkeep _ (hout' _)]; exact hsen
  obtain ⟨iM, hffM⟩ := Y.msg
  obtain ⟨tyC, dC, hdC, hdnC⟩ := Cond.laysAt hfound hk Y.cause (a (.lays cls Bundle.tN "cause" "Ljava/lang/Throwable;") (by simp [Bundle.messageArmAtoms]))
  obtain ⟨tyS, dS, hdS, hdnS⟩ := Cond.laysAt hfound hk Y.stack (a (.lays cls Bundle.tN "stackTrace" Bundle.steD) (by simp [Bundle.messageArmAtoms]))
  obtain ⟨tyP, dP, hdP, hdnP⟩ := Cond.laysAt hfound hk Y.supp (a (.lays cls Bundle.tN "suppressedExceptions" Bundle.listD) (by simp [Bundle.messageArmAtoms]))
  obtain ⟨tyM, dM, hdM, hdnM⟩ := Cond.laysAt hfound hk hffM (a (.lays cls Bundle.tN "detailMessage" "Ljava/lang/String;") (by simp [Bundle.messageArmAtoms]))
  obtain ⟨tyB, dB, hdB, hdnB⟩ := Cond.laysAt hfound hk hffB (a (.lays cls Bundle.tN "backtrace" "Ljava/lang/Object;") (by simp [Bundle.messageArmAtoms]))
  have bC := Cond.laysApart hdB hdC hdnB hdnC (by rw [hnB, Y.causeName]; decide)
  have bS := Cond.laysApart hdB hdS hdnB hdnS (by rw [hnB, Y.stackName]; decide)
  have bP := Cond.laysApart hdB hdP hdnB hdnP (by rw [hnB, Y.suppName]; decide)
  have hbk : ((preparedCellV T.toThrowableT (freshCell P1.m.cls kX) (W.heap.size + 2) u0 sen).withEntry W.cur).slots[fB.slot]? = some .null := by
    have := fresh_default (c := P1.m.cls) tyB
    rw [htB] at this
    simpa [preparedCellV, Cell.setSlot, Cell.withEntry, Array.getElem?_setIfInBounds, bC, bS, bP, bC.symm, bS.symm, bP.symm, defaultValue] using this
  have tkC := Takes.of_laid (v := .ref (W.heap.size + 2)) hk hord tyC (by rw [Y.causeType]; rfl)
  have tkS := Takes.of_laid (v := u0.v) hk hord tyS (by rw [Y.stackType]; exact fits_refV_array _ u0)
  have tkP := Takes.of_laid (v := sen.v) hk hord tyP (by rw [Y.suppType]; exact fits_refV_object _ sen)
  have tkM := Takes.of_laid (v := .ref (W.heap.size + 1)) hk hord tyM (by rw [Y.msgType]; rfl)
  have hskip : SkipFacts T e.platform s (fun u => u) u0 ((preparedCellV T.toThrowableT (freshCell P1.m.cls kX) (W.heap.size + 2) u0 sen).withEntry W.cur) := ⟨{ ci198 := ci198, i198 := i198, fBack := fB }, ⟨hk198, hg198, ha198, hsB⟩, hbk, fun _ _ => rfl⟩
  have h0 : At W g.method c below := by rw [hg]; exact X.here
  obtain ⟨hbeyond, hfreeW⟩ := X.vmMayThrow hsize (.throwNew cls (some text) none) (fun f hf => by cases hf) rfl hRlocals
  have hfr' : W.frames.length + Ps.length + 4 < (e.platform.stackLimits W.me).1 := by have := X.framesAbove hRframes; omega
  have hwd' : (stackUse (.java g :: W.frames.tail)).2 + 13 * Ps.length + 55 ≤ (e.platform.stackLimits W.me).2 := by have := X.stackAbove hsize (K := 13 * Ps.length + 55) (by omega); omega
  have hslots : W.slotsUsed + (stringBytes (stringToUtf16 text)).size + Zs.kS.instanceTypes.size + kX.instanceTypes.size ≤ e.platform.maxSlots := by
    have := X.slotsAbove hRslots
    rw [hn4, hn6]
    omega
  obtain ⟨vm', hW', st⟩ := Steps.vmThrowsMessageColdByV p (s₀ := s) (S := W) (g := g) h0 hexec T L Z LZ M LM X.warmed (t := W.cur) rfl Zs LZs P1 L1 Ps hL hlink1 hlink hsoe hoom hfound hk hinit hord hctor
    (Launch.admits_hotImplicitExceptions X.admits) hbeyond hfreeW htext hlimit hheap (X.cellsAbove hRcells) hslots (hfitv _) (hfitc _)
    (Nn := fun u => u) heapOnly_id (fun _ _ => rfl) (fun _ => rfl) (fun u x y => setCell_twice _ _ _ _) (fun _ => Nat.le_refl _) (cN := ((preparedCellV T.toThrowableT (freshCell P1.m.cls kX) (W.heap.size + 2) u0 sen).withEntry W.cur))
    hsel0 hcellS hknownS hvU tkS (fun _ hu => hu) (fun _ hu => hu) rfl rfl rfl (by simp [preparedCellV, Cell.setSlot, Cell.withEntry]) hskip (fun _ _ hA hW _ hroom _ hrest => L.nativeOff p htr hA hW hroom hrest) hselF hvSen tkC tkP tkM Y.objLocals rfl hfr' hwd'
  rw [plainBareV_eq T.toThrowableT (W.heap.size + 2) u0 sen (.ref (W.heap.size + 1)) W.cur rfl rfl] at st
  obtain ⟨-, -, w3, w4, -, -, -⟩ := withThrown_facts e.platform W Zs text P1.m.cls kX
  have X3 := ((X.pushed (bytesOf Zs.cB (stringToUtf16 text))).pushed (stringAt Zs.cS Zs.kS Zs.fv Zs.fc (stringToUtf16 text) W.heap.size)).pushed (freshCell P1.m.cls kX)
  rw [← withString_eq] at X3
  have X4 := X3.noted hW'
  have ha : (W.heap.size + 2) < ((withThrown W Zs text P1.m.cls kX).setVm vm').heap.size := by show _ < (withThrown W Zs text P1.m.cls kX).heap.size; rw [w3]; omega
  have hcell : ((withThrown W Zs text P1.m.cls kX).setVm vm').heap[(W.heap.size + 2)]? = some (freshCell P1.m.cls kX) := w4
  have X5 := ((((X4.stored hcell T.fCause.slot (.ref (W.heap.size + 2))).storedAgain ha T.fStack.slot u0.v).storedAgain ha T.fSupp.slot sen.v).storedAgain ha T.fStack.slot u0.v).storedAgain ha T.fMsg.slot (.ref (W.heap.size + 1))
  obtain ⟨g₁, hfrM⟩ := X5.frames_eq
  have hU : ((((withThrown W Zs text P1.m.cls kX).setVm vm').setCell (W.heap.size + 2) (plainBareV T.toThrowableT (freshCell P1.m.cls kX) (W.heap.size + 2) u0 sen (.ref (W.heap.size + 1)))).setTop g).pushFrame (.throwing (W.heap.size + 2)) = (((withThrown W Zs text P1.m.cls kX).setVm vm').setCell (W.heap.size + 2) (plainBareV T.toThrowableT (freshCell P1.m.cls kX) (W.heap.size + 2) u0 sen (.ref (W.heap.size + 1)))).setFrames (.throwing (W.heap.size + 2) :: .java g :: below) := by
    rw [State.pushFrame, State.frames_setTop _ hfrM, State.setTop_of_frames _ hfrM, State.setFrames_setFrames]
  have b1 : (bytesOf Zs.cB (stringToUtf16 text)).slots.size = (stringBytes (stringToUtf16 text)).size := by
    rw [(Cell.writeAll_facts _ _).2.2]; simp [bytes0]
  have b2 : (stringAt Zs.cS Zs.kS Zs.fv Zs.fc (stringToUtf16 text) W.heap.size).slots.size = 4 := by simp [string0, Cell.setSlot, hn4]
  have b3 : (freshCell P1.m.cls kX).slots.size = 6 := by simp [hn6]
  rw [b1, b2, b3] at X5
  have e9 : slots + (stringBytes (stringToUtf16 text)).size + 4 + 6 = slots + ((stringBytes (stringToUtf16 text)).size + 4 + 6) := by omega
  rw [e9] at X5
  simp only [List.append_assoc, List.cons_append, List.nil_append] at X5
  refine ⟨((withThrown W Zs text P1.m.cls kX).setVm vm').setCell (W.heap.size + 2) (plainBareV T.toThrowableT (freshCell P1.m.cls kX) (W.heap.size + 2) u0 sen (.ref (W.heap.size + 1))), W.heap.size + 2, _, fun target ht => st _ (by rw [X.tail, ← hU]; exact ht),
    X5.forget (fun y hy => ?_), heapAt_setCell_self _ ha, hfound, rfl⟩
  simp only [List.mem_cons, List.not_mem_nil, or_false] at hy
  have hge : s.heap.size ≤ W.heap.size := X.same.2.1
  rcases hy with rfl | rfl | rfl | rfl | rfl <;> exact Nat.le_trans hge (Nat.le_add_right _ 2)
set_option maxHeartbeats 1000000 in
/-- the machine throws NullPointerException, no traces kept: from its note over the frame g to 'throwing' over the same frame (follows the proof of Stand.vmThrowsNpe, Shelf42/KT2.lean; throwsNpeColdBareVAt, Shelf42/NT91.lean, called) -/
theorem vx_npeAt {p : Program} {l : Launch} {e : Env} {R : Room} {s : State} {m₀ : MethodId} {args : Array Value} {below : List Frame} {meth : Method} {c : Code} {W : State} {locs : List Loc} {cells slots : Nat}
    (X : Stand p l e R s m₀ args below meth c W locs cells slots) (hexec : p.tables.exec = Jvm.exec) (htr : e.platform.stackTraces = false) {n : Nat}
    (h : ∀ a ∈ Bundle.npeArmAtoms n, a.before args s = true)
    (hlocs : ∀ x ∈ locs, ∀ cell, s.heap[x.base]? = some cell → cell.vm.isStatics = false)
    {g : JFrame} (hg : g.method = m₀) (hsize : g.locals.size = c.maxLocals)
    (hRframes : 7 < R.frames) (hRlocals : 2 * g.monitorRoom + (g.stack.map fun v => v.category).sum + 10240 ≤ R.locals)
    (hRcells : cells + 1 ≤ R.cells) (hRslots : slots + n ≤ R.slots) (hlocks : meth.locks = false) :
    ∃ (S : State) (q : Addr) (ce : Cell), (∀ target, Steps p.tables e below ((S.setTop g).pushFrame (.throwing q)) target → Steps p.tables e below ((W.setTop g).pushFrame (.throwNew "java/lang/NullPointerException" none none)) target) ∧
      Stand p l e R s m₀ args below meth c S locs (cells + 1) (slots + n) ∧ S.heap[q]? = some ce ∧ s.vm.findClass "java/lang/NullPointerException" = some ce.cls ∧ ce.vm = .none := by
  have howns : e.platform.frameOwnsMonitors = true := by rw [X.admits.platform]
  have hfin : e.platform.finalization = false := by rw [X.admits.platform]
  have hpl : e.platform.magicAccessors = ({} : Platform).magicAccessors := by rw [X.admits.platform]
  have hpl2 : e.platform.arrayCloneIsPublic = true := by rw [X.admits.platform]
  have a' : ∀ x, x ∈ Bundle.npeArmAtoms n → x.holds args s none s [] = true := fun x hx => h x hx
  obtain ⟨T, Z, L, LZ, Y⟩ := ThrowableC.of_atoms (args := args) howns hfin hpl (fun x hx => h x (by simp [Bundle.npeArmAtoms, hx]))
  obtain ⟨N, LN, hcN, hnNF, hordN, hffS⟩ := NpeC.of_atoms (args := args) hpl hpl2 L Y (fun x hx => h x (by simp [Bundle.npeArmAtoms, hx]))
  obtain ⟨P1, L1, hP1m, hP1s⟩ := PassC.of_atoms (args := args) (s := s) hpl (X := Bundle.nN) (Y := Bundle.rN) (by decide) (by decide) LibCode.NullPointerException.Init0.at_0 LibCode.NullPointerException.Init0.at_1 LibCode.NullPointerException.Init0.at_4 (fun x hx => h x (by simp [Bundle.npeArmAtoms, hx]))
  obtain ⟨PR, LR, hPRm, hPRs⟩ := PassC.of_atoms (args := args) (s := s) hpl (X := Bundle.rN) (Y := Bundle.eN) (by decide) (by decide) LibCode.RuntimeException.Init0.at_0 LibCode.RuntimeException.Init0.at_1 LibCode.RuntimeException.Init0.at_4 (fun x hx => h x (by simp [Bundle.npeArmAtoms, hx]))
  obtain ⟨PE, LEx, hPEm, hPEs⟩ := PassC.of_atoms (args := args) (s := s) hpl (X := Bundle.eN) (Y := Bundle.tN) (by decide) (by decide) LibCode.Exception.Init0.at_0 LibCode.Exception.Init0.at_1 LibCode.Exception.Init0.at_4 (fun x hx => h x (by simp [Bundle.npeArmAtoms, hx]))
  have hfound : s.vm.findClass Bundle.nN = some P1.m.cls := findClass_of_methodNamed hP1m
  have ecls : N.cN = P1.m.cls := Option.some.inj (hcN.symm.trans hfound)
  have hk : s.vm.classes[P1.m.cls]? = some N.kN := by rw [← ecls]; exact LN.cls
  have hinit := Cond.initialized_spec hfound hk (a' (.initialized Bundle.nN) (by simp [Bundle.npeArmAtoms]))
  have hctor : N.kN.findMethod "<init>" "()V" = some P1.m.idx := findMethod_of_methodNamed hP1m hk
  obtain ⟨c1, k1, hc1, hk1, -, -, -, hn⟩ := Cond.instantiable_spec (a' (.instantiable Bundle.nN n) (by simp [Bundle.npeArmAtoms]))
  cases Option.some.inj (hc1.symm.trans hfound)
  cases Option.some.inj (hk1.symm.trans hk)
  have hfsz : (freshCell P1.m.cls N.kN).slots.size = n := by simp [hn]
  have hlink1 : P1.sup = PR.m := Option.some.inj (hP1s.symm.trans hPRm)
  have hlinkR : PR.sup = PE.m := Option.some.inj (hPRs.symm.trans hPEm)
  have hlinkE : PE.sup = Z.m T.toThrowableT := Option.some.inj (hPEs.symm.trans Y.init0)
  have hLs : ∀ P, P ∈ [PR, PE] → P.Links0 e.platform s := fun P hP => by
    simp only [List.mem_cons, List.not_mem_nil, or_false] at hP
    rcases hP with rfl | rfl
    · exact LR
    · exact LEx
  have hsel0 : selectMethod e.platform s.vm P1.m.cls T.fill0 = .method T.fill0 := by
    obtain ⟨c2, r2, m2, q1, q2, q3, q4, -⟩ := Cond.selects_spec (a' (.selects Bundle.nN Bundle.tFill0 Bundle.tFill0) (by simp [Bundle.npeArmAtoms]))
    cases Option.some.inj (q1.symm.trans hfound)
    cases Option.some.inj (q2.symm.trans (State.methodFound?_of_named Y.fill0 (by decide)))
    cases Option.some.inj (q3.symm.trans Y.fill0)
    rw [Launch.admits_selectMethod X.admits]; exact q4
  have hselF : selectMethod e.platform s.vm P1.m.cls T.fill = .method N.fill := by
    obtain ⟨c2, r2, m2, q1, q2, q3, q4, -⟩ := Cond.selects_spec (a' (.selects Bundle.nN Bundle.tFill Bundle.nFill) (by simp [Bundle.npeArmAtoms]))
    cases Option.some.inj (q1.symm.trans hfound)
    cases Option.some.inj (q2.symm.trans (State.methodFound?_of_named Y.fill (by decide)))
    cases Option.some.inj (q3.symm.trans hnNF)
    rw [Launch.admits_selectMethod X.admits]; exact q4
  obtain ⟨cellS0, hcS0, hiss⟩ := Y.statics
  obtain ⟨u0, hu0⟩ := Cond.staticRefV Y.unassigned L.unassignedStatic L.statics hcS0 hiss (a' (.isRef (.static Bundle.tN "UNASSIGNED_STACK" Bundle.steD)) (by simp [Bundle.npeArmAtoms]))
  obtain ⟨sen, hsen⟩ := Cond.staticRefV Y.sentinel L.sentinelStatic L.statics hcS0 hiss (a' (.isRef (.static Bundle.tN "SUPPRESSED_SENTINEL" Bundle.listD)) (by simp [Bundle.npeArmAtoms]))
  obtain ⟨ci198, i198, fB, hk198, hg198, ha198, hsB, -, hnB, htB, hffB⟩ := Cond.ownField (t := .object "java/lang/Object") Y.found L.cls (by decide +kernel) (a' (.fieldLink Bundle.tN 198 Bundle.tN "backtrace" Bundle.objD) (by simp [Bundle.npeArmAtoms])) (a' (.lays Bundle.tN Bundle.tN "backtrace" Bundle.objD) (by simp [Bundle.npeArmAtoms])) e.platform hpl
  obtain ⟨cellS, hcS', heS, -, hkeep⟩ := X.same.2.2.2.2.2 T.aS cellS0 hcS0
  have hcellS : W.heap[T.aS]? = some cellS := hcS'
  have hout' : ∀ i, (⟨T.aS, i⟩ : Loc) ∉ locs := fun i hmem => by
    have := hlocs _ hmem cellS0 hcS0
    rw [hiss] at this; cases this
  have hknownS : cellS.vm ≠ .unknown := by
    rw [heS]; intro hu
    rw [show cellS0.vm = .unknown from hu] at hiss
    cases hiss
  have hvU : cellS.slots[T.fUnassigned.slot]? = some u0.v := by rw [hkeep _ (hout' _)]; exact hu0
  have hvSen : cellS.slots[T.fSentinel.slot]? = some sen.v := by rw [hkeep _ (hout' _)]; exact hsen
  obtain ⟨tyC, dC, hdC, hdnC⟩ := Cond.laysAt hfound hk Y.cause (a' (.lays Bundle.nN Bundle.tN "cause" "Ljava/lang/Throwable;") (by simp [Bundle.npeArmAtoms]))
  obtain ⟨tyS, dS, hdS, hdnS⟩ := Cond.laysAt hfound hk Y.stack (a' (.lays Bundle.nN Bundle.tN "stackTrace" Bundle.steD) (by simp [Bundle.npeArmAtoms]))
  obtain ⟨tyP, dP, hdP, hdnP⟩ := Cond.laysAt hfound hk Y.supp (a' (.lays Bundle.nN Bundle.tN "suppressedExceptions" Bundle.listD) (by simp [Bundle.npeArmAtoms]))
  obtain ⟨tyX, dX, hdX, hdnX⟩ := Cond.laysAt hfound hk hffS (a' (.lays Bundle.nN Bundle.nN "extendedMessageState" "I") (by simp [Bundle.npeArmAtoms, Bundle.npeAtoms]))
  obtain ⟨hnX, htX⟩ := State.fieldFound?_type hffS (t := .int) (by decide +kernel)
  have xC := Cond.laysApart hdC hdX hdnC hdnX (by rw [hnX, Y.causeName]; decide)
  have xS := Cond.laysApart hdS hdX hdnS hdnX (by rw [hnX, Y.stackName]; decide)
  have xP := Cond.laysApart hdP hdX hdnP hdnX (by rw [hnX, Y.suppName]; decide)
  have hv0 : (freshCell P1.m.cls N.kN).slots[N.fState.slot]? = some (.int 0) := by
    have := fresh_default (c := P1.m.cls) tyX
    rw [htX] at this; exact this
  obtain ⟨tyB, dB, hdB, hdnB⟩ := Cond.laysAt hfound hk hffB (a' (.lays Bundle.nN Bundle.tN "backtrace" Bundle.objD) (by simp [Bundle.npeArmAtoms]))
  have bC := Cond.laysApart hdB hdC hdnB hdnC (by rw [hnB, Y.causeName]; decide)
  have bS := Cond.laysApart hdB hdS hdnB hdnS (by rw [hnB, Y.stackName]; decide)
  have bP := Cond.laysApart hdB hdP hdnB hdnP (by rw [hnB, Y.suppName]; decide)
  have bX := Cond.laysApart hdB hdX hdnB hdnX (by rw [hnB, hnX]; decide)
  have hbk : ((npeCell N.toNpeT (preparedCellV T.toThrowableT (freshCell P1.m.cls N.kN) W.heap.size u0 sen) W.cur).withEntry W.cur).slots[fB.slot]? = some .null := by
    have := fresh_default (c := P1.m.cls) tyB
    rw [htB] at this
    simpa [npeCell, preparedCellV, Cell.setSlot, Cell.withEntry, Array.getElem?_setIfInBounds, bC, bS, bP, bX, bC.symm, bS.symm, bP.symm, bX.symm, defaultValue] using this
  have tkC := Takes.of_laid (v := .ref W.heap.size) hk hordN tyC (by rw [Y.causeType]; rfl)
  have tkS := Takes.of_laid (v := u0.v) hk hordN tyS (by rw [Y.stackType]; exact fits_refV_array _ u0)
  have tkP := Takes.of_laid (v := sen.v) hk hordN tyP (by rw [Y.suppType]; exact fits_refV_object _ sen)
  have tkX := Takes.of_laid (v := .int 1) hk hordN tyX (by rw [htX]; rfl)
  have hskip : SkipFacts T e.platform s (fun u => u) u0 ((npeCell N.toNpeT (preparedCellV T.toThrowableT (freshCell P1.m.cls N.kN) W.heap.size u0 sen) W.cur).withEntry W.cur) := ⟨{ ci198 := ci198, i198 := i198, fBack := fB }, ⟨hk198, hg198, ha198, hsB⟩, hbk, fun _ _ => rfl⟩
  obtain ⟨vm', X3, st, -⟩ := X.throwsNpeColdBareVAt hexec hg hsize T L Z LZ N LN P1 L1 [PR, PE] hLs hlink1 ⟨hlinkR, hlinkE, trivial⟩ hfound hk hinit hordN hctor hsel0 hselF hcellS hknownS hvU hvSen
    hv0 xC xS xP tkC tkS tkP tkX Y.objLocals hskip (fun _ _ hA hW _ hroom _ hrest => L.nativeOff p htr hA hW hroom hrest) (by simpa using hRframes) hRlocals (by simp) hRcells (by rw [hn]; exact hRslots)
  have hlt : W.heap.size < ((W.pushCell (freshCell P1.m.cls N.kN)).setVm vm').heap.size := by
    show W.heap.size < (W.pushCell (freshCell P1.m.cls N.kN)).heap.size
    rw [State.heap_size_pushCell]; omega
  rw [hfsz] at X3
  obtain ⟨g₁, hfrM⟩ := X3.frames_eq
  have hU : ((((W.pushCell (freshCell P1.m.cls N.kN)).setVm vm').setCell W.heap.size (npeBareV T.toThrowableT N.toNpeT (freshCell P1.m.cls N.kN) W.heap.size u0 sen)).setTop g).pushFrame (.throwing W.heap.size) = (((W.pushCell (freshCell P1.m.cls N.kN)).setVm vm').setCell W.heap.size (npeBareV T.toThrowableT N.toNpeT (freshCell P1.m.cls N.kN) W.heap.size u0 sen)).setFrames (.throwing W.heap.size :: .java g :: below) := by
    rw [State.pushFrame, State.frames_setTop _ hfrM, State.setTop_of_frames _ hfrM, State.setFrames_setFrames]
  refine ⟨_, W.heap.size, _, fun target ht => st.trans (by rw [← hU]; exact ht), X3.forget (fun y hy => ?_), heapAt_setCell_self _ hlt, hfound, rfl⟩
  simp only [List.mem_cons, List.not_mem_nil, or_false] at hy
  have hge : s.heap.size ≤ W.heap.size := X.same.2.1
  rcases hy with rfl | rfl | rfl | rfl | rfl <;> exact hge
/-- the words of a machine's NullPointerException, but the four that speak of the heap -/
def vx_atN (n : Nat) : List Cond := (Bundle.npeArmAtoms n).filter vx_no
/-- the words of a machine's throw with a message, but the four that speak of the heap -/
def vx_atM (X : String) (names : List String) : List Cond := (Bundle.messageArmAtoms X names).filter vx_no
section
variable {p : Program} {l : Launch} {e : Env} {R : Room} {s : State} {m : MethodId} {args : Array Value} {below : List Frame} {meth : Method} {c : Code} {H : Heap} {locs : List Loc} {cells slots : Nat}
/-- a frame seen from a rebased start, seen from the first start again -/
theorem vx_back9 {T S : State} {R' : Room} {k n : Nat} (X : Stand p l e R s m args below meth c T locs cells slots) (Y : Stand p l e R' ((T.setVm s.vm).setFrames (.invoking m args :: below)) m args below meth c T [] 0 0) (Z : Stand p l e R' ((T.setVm s.vm).setFrames (.invoking m args :: below)) m args below meth c S [] k n) :
    Stand p l e R s m args below meth c S locs (cells + k) (slots + n) := by
  have hW0 : s.WarmedH ((T.setVm s.vm).setFrames (.invoking m args :: below)).vm := State.WarmedH.refl s
  refine { admits := X.admits, cas := X.cas, clock := X.clock, frames := X.frames, room := X.room, hears := X.hears, method := X.method, code := X.code, here := Z.here, tail := Z.tail, warmed := State.WarmedH.trans hW0 Z.warmed, limits := Z.limits.trans (Y.limits.symm.trans X.limits), bytes := Z.bytes.trans (Y.bytes.symm.trans X.bytes), same := ?_ }
  obtain ⟨e1, e2⟩ := Z.same
  rw [State.setFrames_setFrames] at e1
  have h2 : (T.setVm s.vm).sameButNew (S.setVm s.vm) [] k n := ⟨e1, e2⟩
  have h3 := X.same.trans h2
  rw [List.append_nil] at h3
  exact h3
/-- from the machine's note that E is thrown here with this text -/
def vx_Note (p : Program) (l : Launch) (e : Env) (R : Room) (s : State) (m : MethodId) (args : Array Value) (below : List Frame) (meth : Method) (c : Code) (H : Heap) (locs : List Loc) (cells slots : Nat) (Q : State → Prop) (g : JFrame) (E text : String) : Prop :=
  ∀ T : State, T.heap = H → Stand p l e R s m args below meth c T locs cells slots → ∃ t, Steps p.tables e below ((T.setTop g).pushFrame (.throwNew E (some text) none)) t ∧ Q t
theorem vx_vm {pc : Nat} {ls : Array Slot} {rest : List Value} {Q : State → Prop} (hexec : p.tables.exec = Jvm.exec) (hl : l.stackTraces = false) {cls text : String} {names : List String} {nb : Nat} {A : Nat → Prop}
    (hcls : Bundle.fit cls = true) (hnames : ∀ n ∈ names, Bundle.fit n = true) (hsoe : (cls == "java/lang/StackOverflowError") = false) (hoom : (cls == "java/lang/OutOfMemoryError") = false)
    (hat : ∀ w ∈ vx_atM cls names, w.before args s = true) (hgood : ∀ w ∈ vx_atM cls names, vx_ot w = true)
    (hU : vx_Zq Bundle.tN "UNASSIGNED_STACK" Bundle.steD A s s.heap) (hN : vx_Zq Bundle.tN "SUPPRESSED_SENTINEL" Bundle.listD A s s.heap) (hS : va_S A s.heap H locs) (hsize : ls.size = c.maxLocals)
    (htext : (text == notModelled) = false) (hnb : (stringBytes (stringToUtf16 text)).size ≤ nb) (hnb1 : nb ≤ 1000)
    (hRframes : names.length + 4 < R.frames) (hRlocals : (rest.map fun v => v.category).sum + 10240 ≤ R.locals) (hshort : 13 * names.length + 55 ≤ 10240) (hRcells : cells + 3 ≤ R.cells) (hRslots : slots + (nb + 10) ≤ R.slots) (hlocks : meth.locks = false)
    (k : ∀ (H1 : Heap) (q9 : Addr) (ce : Cell), H.size ≤ H1.size → (∀ q : Nat, q < H.size → H1[q]? = H[q]?) → va_S A s.heap H1 locs → H1[q9]? = some ce → ce.vm = .none → s.vm.findClass cls = some ce.cls → vx_W p l e R s m args below meth c H1 locs (cells + 3) (slots + (nb + 10)) Q (F0 m pc ls rest) q9) :
    vx_Note p l e R s m args below meth c H locs cells slots Q (F0 m pc ls rest) cls text := by
  intro T hT X
  have htr : e.platform.stackTraces = false := (show e.platform.stackTraces = l.stackTraces by rw [X.admits.platform]).trans hl
  have Y := vx_rebase X (R' := { frames := R.frames, locals := R.locals, cells := 3, slots := nb + 10 }) (Nat.le_refl _) (Nat.le_refl _) hRcells hRslots
  have hhp : ((T.setVm s.vm).setFrames (.invoking m args :: below)).heap = H := hT
  have hW0 : s.WarmedH ((T.setVm s.vm).setFrames (.invoking m args :: below)).vm := State.WarmedH.refl s
  have hat' : ∀ w ∈ vx_atM cls names, w.before args ((T.setVm s.vm).setFrames (.invoking m args :: below)) = true := fun w hw => vx_ot_at hW0 rfl (hgood w hw) (hat w hw)
  have hU' : vx_Zq Bundle.tN "UNASSIGNED_STACK" Bundle.steD A ((T.setVm s.vm).setFrames (.invoking m args :: below)) ((T.setVm s.vm).setFrames (.invoking m args :: below)).heap := by rw [hhp]; exact vx_Zq.moved hW0.alike (hU.kept hS.2.1)
  have hN' : vx_Zq Bundle.tN "SUPPRESSED_SENTINEL" Bundle.listD A ((T.setVm s.vm).setFrames (.invoking m args :: below)) ((T.setVm s.vm).setFrames (.invoking m args :: below)).heap := by rw [hhp]; exact vx_Zq.moved hW0.alike (hN.kept hS.2.1)
  obtain ⟨S, q, ce, st, Z, hce, hcl', hv⟩ := vx_vmAt Y hexec htr (cls := cls) (names := names) (text := text) hcls hnames hsoe hoom (vx_own hat' (vx_isRefq hU'.1) (vx_isRefq hN'.1) hU'.2.word hN'.2.word) (fun x hx => nomatch hx) htext
    (by rw [Launch.admits_arrayLengthLimit X.admits]; omega) (by rw [Launch.admits_maxHeapBytes X.admits]; simp only [componentBytes]; omega)
    (g := F0 m pc ls rest) rfl hsize hRframes (by show 2 * 0 + (rest.map fun v => v.category).sum + 10240 ≤ R.locals; omega) hshort (by show 0 + 3 ≤ 3; omega) (by show 0 + (_ + 4 + 6) ≤ nb + 10; omega) hlocks
  obtain ⟨f1, f2⟩ := vx_frame Z.same
  have f1' : H.size ≤ S.heap.size := by rw [← hT]; exact f1
  have f2' : ∀ q : Nat, q < H.size → S.heap[q]? = H[q]? := fun q hq => by
    rw [← hT]
    exact f2 q (by rw [← hT] at hq; exact hq) (fun z hz => nomatch hz)
  have X5 := vx_back9 X Y Z
  have X6 : Stand p l e R s m args below meth c S locs (cells + 3) (slots + (nb + 10)) := { X5 with same := X5.same.mono (by omega) (by omega) }
  obtain ⟨t, a1, b1⟩ := k S.heap q ce f1' f2' ⟨Nat.le_trans hS.1 f1', fun q h1 h2 => (f2' q (Nat.lt_of_lt_of_le h1 hS.1)).trans (hS.2.1 q h1 h2), hS.2.2⟩ hce hv hcl' S rfl X6
  exact ⟨t, st t a1, b1⟩
/-- from the machine's note that NullPointerException is thrown here -/
def vx_NoteN (p : Program) (l : Launch) (e : Env) (R : Room) (s : State) (m : MethodId) (args : Array Value) (below : List Frame) (meth : Method) (c : Code) (H : Heap) (locs : List Loc) (cells slots : Nat) (Q : State → Prop) (g : JFrame) : Prop :=
  ∀ T : State, T.heap = H → Stand p l e R s m args below meth c T locs cells slots → ∃ t, Steps p.tables e below ((T.setTop g).pushFrame (.throwNew "java/lang/NullPointerException" none none)) t ∧ Q t
theorem vx_npe {pc : Nat} {ls : Array Slot} {rest : List Value} {Q : State → Prop} (hexec : p.tables.exec = Jvm.exec) (hl : l.stackTraces = false) {nb : Nat} {A : Nat → Prop}
    (hat : ∀ w ∈ vx_atN nb, w.before args s = true) (hgood : ∀ w ∈ vx_atN nb, vx_ot w = true)
    (hU : vx_Zq Bundle.tN "UNASSIGNED_STACK" Bundle.steD A s s.heap) (hN : vx_Zq Bundle.tN "SUPPRESSED_SENTINEL" Bundle.listD A s s.heap) (hS : va_S A s.heap H locs) (hsize : ls.size = c.maxLocals)
    (hRframes : 7 < R.frames) (hRlocals : (rest.map fun v => v.category).sum + 10240 ≤ R.locals) (hRcells : cells + 1 ≤ R.cells) (hRslots : slots + nb ≤ R.slots) (hlocks : meth.locks = false)
    (k : ∀ (H1 : Heap) (q9 : Addr) (ce : Cell), H.size ≤ H1.size → (∀ q : Nat, q < H.size → H1[q]? = H[q]?) → va_S A s.heap H1 locs → H1[q9]? = some ce → ce.vm = .none → s.vm.findClass "java/lang/NullPointerException" = some ce.cls → vx_W p l e R s m args below meth c H1 locs (cells + 1) (slots + nb) Q (F0 m pc ls rest) q9) :
    vx_NoteN p l e R s m args below meth c H locs cells slots Q (F0 m pc ls rest) := by
  intro T hT X
  have htr : e.platform.stackTraces = false := (show e.platform.stackTraces = l.stackTraces by rw [X.admits.platform]).trans hl
  have Y := vx_rebase X (R' := { frames := R.frames, locals := R.locals, cells := 1, slots := nb }) (Nat.le_refl _) (Nat.le_refl _) hRcells hRslots
  have hhp : ((T.setVm s.vm).setFrames (.invoking m args :: below)).heap = H := hT
  have hW0 : s.WarmedH ((T.setVm s.vm).setFrames (.invoking m args :: below)).vm := State.WarmedH.refl s
  have hat' : ∀ w ∈ vx_atN nb, w.before args ((T.setVm s.vm).setFrames (.invoking m args :: below)) = true := fun w hw => vx_ot_at hW0 rfl (hgood w hw) (hat w hw)
  have hU' : vx_Zq Bundle.tN "UNASSIGNED_STACK" Bundle.steD A ((T.setVm s.vm).setFrames (.invoking m args :: below)) ((T.setVm s.vm).setFrames (.invoking m args :: below)).heap := by rw [hhp]; exact vx_Zq.moved hW0.alike (hU.kept hS.2.1)
  have hN' : vx_Zq Bundle.tN "SUPPRESSED_SENTINEL" Bundle.listD A ((T.setVm s.vm).setFrames (.invoking m args :: below)) ((T.setVm s.vm).setFrames (.invoking m args :: below)).heap := by rw [hhp]; exact vx_Zq.moved hW0.alike (hN.kept hS.2.1)
  obtain ⟨S, q, ce, st, Z, hce, hcl', hv⟩ := vx_npeAt Y hexec htr (n := nb) (vx_own hat' (vx_isRefq hU'.1) (vx_isRefq hN'.1) hU'.2.word hN'.2.word) (fun x hx => nomatch hx)
    (g := F0 m pc ls rest) rfl hsize hRframes (by show 2 * 0 + (rest.map fun v => v.category).sum + 10240 ≤ R.locals; omega) (by show 0 + 1 ≤ 1; omega) (by show 0 + nb ≤ nb; omega) hlocks
  obtain ⟨f1, f2⟩ := vx_frame Z.same
  have f1' : H.size ≤ S.heap.size := by rw [← hT]; exact f1
  have f2' : ∀ q : Nat, q < H.size → S.heap[q]? = H[q]? := fun q hq => by
    rw [← hT]
    exact f2 q (by rw [← hT] at hq; exact hq) (fun z hz => nomatch hz)
  have X5 := vx_back9 X Y Z
  have X6 : Stand p l e R s m args below meth c S locs (cells + 1) (slots + nb) := { X5 with same := X5.same.mono (by omega) (by omega) }
  obtain ⟨t, a1, b1⟩ := k S.heap q ce f1' f2' ⟨Nat.le_trans hS.1 f1', fun q h1 h2 => (f2' q (Nat.lt_of_lt_of_le h1 hS.1)).trans (hS.2.1 q h1 h2), hS.2.2⟩ hce hv hcl' S rfl X6
  exact ⟨t, st t a1, b1⟩
variable {Q : State → Prop} {cc : ByteArray} {pc : Nat} {ls : Array Slot} {rest : List Value}
theorem vx_idivZ (hexec : p.tables.exec = Jvm.exec) (hb : c.code = cc) {a b : Int32} (h0 : b = 0) (d : decode cc pc = .ok (.idiv, 1)) (k : vx_Note p l e R s m args below meth c H locs cells slots Q (F0 m pc ls rest) "java/lang/ArithmeticException" "/ by zero") :
    W p l e R s m args below meth c H locs cells slots Q (F0 m pc ls (.int b :: .int a :: rest)) := by
  intro T hT X
  obtain ⟨t, st, q⟩ := k T hT X
  exact ⟨t, X.idivZero hexec (g := F0 m pc ls (.int b :: .int a :: rest)) rfl (a := a) (rest := rest) (by rw [h0]) (by rw [hb]; exact d) t st, q⟩
theorem vx_iremZ (hexec : p.tables.exec = Jvm.exec) (hb : c.code = cc) {a b : Int32} (h0 : b = 0) (d : decode cc pc = .ok (.irem, 1)) (k : vx_Note p l e R s m args below meth c H locs cells slots Q (F0 m pc ls rest) "java/lang/ArithmeticException" "/ by zero") :
    W p l e R s m args below meth c H locs cells slots Q (F0 m pc ls (.int b :: .int a :: rest)) := by
  intro T hT X
  obtain ⟨t, st, q⟩ := k T hT X
  exact ⟨t, X.iremZero hexec (g := F0 m pc ls (.int b :: .int a :: rest)) rfl (a := a) (rest := rest) (by rw [h0]) (by rw [hb]; exact d) t st, q⟩
theorem vx_ldivZ (hexec : p.tables.exec = Jvm.exec) (hb : c.code = cc) {a b : Int64} (h0 : b = 0) (d : decode cc pc = .ok (.ldiv, 1)) (k : vx_Note p l e R s m args below meth c H locs cells slots Q (F0 m pc ls rest) "java/lang/ArithmeticException" "/ by zero") :
    W p l e R s m args below meth c H locs cells slots Q (F0 m pc ls (.long b :: .long a :: rest)) := by
  intro T hT X
  obtain ⟨t, st, q⟩ := k T hT X
  exact ⟨t, X.ldivZero hexec (g := F0 m pc ls (.long b :: .long a :: rest)) rfl (a := a) (rest := rest) (by rw [h0]) (by rw [hb]; exact d) t st, q⟩
theorem vx_lremZ (hexec : p.tables.exec = Jvm.exec) (hb : c.code = cc) {a b : Int64} (h0 : b = 0) (d : decode cc pc = .ok (.lrem, 1)) (k : vx_Note p l e R s m args below meth c H locs cells slots Q (F0 m pc ls rest) "java/lang/ArithmeticException" "/ by zero") :
    W p l e R s m args below meth c H locs cells slots Q (F0 m pc ls (.long b :: .long a :: rest)) := by
  intro T hT X
  obtain ⟨t, st, q⟩ := k T hT X
  exact ⟨t, X.lremZero hexec (g := F0 m pc ls (.long b :: .long a :: rest)) rfl (a := a) (rest := rest) (by rw [h0]) (by rw [hb]; exact d) t st, q⟩
theorem vx_ialdZ {D : va_G} {cl : List vw_C} {ws : va_W} {tys : List (ClassId × FieldType)} {a : Nat} (hexec : p.tables.exec = Jvm.exec) (hb : c.code = cc) (hK : va_K D cl tys s) (hP : va_P D cl ws H) (q0 t0 : Nat) {cA : ClassId} {n : Nat} {f : Nat → Int32} (ha : ws[q0]? = some (a, .inl (cA, n, .inl f))) (ht : tys[t0]? = some (cA, .int)) {i : Int32} (hout : ¬ vp_in i n) (hdg : decode cc pc = .ok (.iaload, 1))
    (k : ∀ tx : String, tx = (toString "Index " ++ toString i ++ toString " out of bounds for length " ++ toString n : String) → vx_Note p l e R s m args below meth c H locs cells slots Q (F0 m pc ls rest) "java/lang/ArrayIndexOutOfBoundsException" tx) : W p l e R s m args below meth c H locs cells slots Q (F0 m pc ls (.int i :: .ref a :: rest)) := by
  intro T hT X
  obtain ⟨t, st, q⟩ := k _ rfl T hT X
  refine ⟨t, ?_, q⟩
  have h1 := X.ialoadOut hexec (by rw [hT]; exact hP q0 _ ha) ((hK.2 t0 _ ht).1 n (fun j => .int (f j))) (j := i) (by show (i < 0 ∨ (arrV _ _ _).slots.size ≤ _); rw [arrV_size]; exact Classical.byContradiction hout) (g := F0 m pc ls (.int i :: .ref a :: rest)) rfl (rest := rest) rfl (by rw [hb]; exact hdg) t
  simp only [arrV_size] at h1
  exact h1 st
theorem vx_iastZ {D : va_G} {cl : List vw_C} {ws : va_W} {tys : List (ClassId × FieldType)} {a : Nat} (hexec : p.tables.exec = Jvm.exec) (hb : c.code = cc) (hK : va_K D cl tys s) (hP : va_P D cl ws H) (q0 t0 : Nat) {cA : ClassId} {n : Nat} {f : Nat → Int32} (ha : ws[q0]? = some (a, .inl (cA, n, .inl f))) (ht : tys[t0]? = some (cA, .int)) {i : Int32} {x : Int32} (hout : ¬ vp_in i n) (hdg : decode cc pc = .ok (.iastore, 1))
    (k : ∀ tx : String, tx = (toString "Index " ++ toString i ++ toString " out of bounds for length " ++ toString n : String) → vx_Note p l e R s m args below meth c H locs cells slots Q (F0 m pc ls rest) "java/lang/ArrayIndexOutOfBoundsException" tx) : W p l e R s m args below meth c H locs cells slots Q (F0 m pc ls (.int x :: .int i :: .ref a :: rest)) := by
  intro T hT X
  obtain ⟨t, st, q⟩ := k _ rfl T hT X
  refine ⟨t, ?_, q⟩
  have h1 := X.iastoreOut hexec (by rw [hT]; exact hP q0 _ ha) ((hK.2 t0 _ ht).1 n (fun j => .int (f j))) (j := i) (by show (i < 0 ∨ (arrV _ _ _).slots.size ≤ _); rw [arrV_size]; exact Classical.byContradiction hout) (g := F0 m pc ls (.int x :: .int i :: .ref a :: rest)) rfl (rest := rest) rfl (by rw [hb]; exact hdg) t
  simp only [arrV_size] at h1
  exact h1 st
theorem vx_baldZ {D : va_G} {cl : List vw_C} {ws : va_W} {tys : List (ClassId × FieldType)} {a : Nat} (hexec : p.tables.exec = Jvm.exec) (hb : c.code = cc) (hK : va_K D cl tys s) (hP : va_P D cl ws H) (q0 t0 : Nat) {cA : ClassId} {n : Nat} {f : Nat → Int32} (ha : ws[q0]? = some (a, .inl (cA, n, .inl f))) (ht : tys[t0]? = some (cA, .byte)) {i : Int32} (hout : ¬ vp_in i n) (hdg : decode cc pc = .ok (.baload, 1))
    (k : ∀ tx : String, tx = (toString "Index " ++ toString i ++ toString " out of bounds for length " ++ toString n : String) → vx_Note p l e R s m args below meth c H locs cells slots Q (F0 m pc ls rest) "java/lang/ArrayIndexOutOfBoundsException" tx) : W p l e R s m args below meth c H locs cells slots Q (F0 m pc ls (.int i :: .ref a :: rest)) := by
  intro T hT X
  obtain ⟨t, st, q⟩ := k _ rfl T hT X
  refine ⟨t, ?_, q⟩
  have h1 := X.baloadOut hexec (by rw [hT]; exact hP q0 _ ha) ((hK.2 t0 _ ht).1 n (fun j => .int (f j))) (j := i) (by show (i < 0 ∨ (arrV _ _ _).slots.size ≤ _); rw [arrV_size]; exact Classical.byContradiction hout) (g := F0 m pc ls (.int i :: .ref a :: rest)) rfl (rest := rest) rfl (by rw [hb]; exact hdg) t
  simp only [arrV_size] at h1
  exact h1 st
theorem vx_bastZ {D : va_G} {cl : List vw_C} {ws : va_W} {tys : List (ClassId × FieldType)} {a : Nat} (hexec : p.tables.exec = Jvm.exec) (hb : c.code = cc) (hK : va_K D cl tys s) (hP : va_P D cl ws H) (q0 t0 : Nat) {cA : ClassId} {n : Nat} {f : Nat → Int32} (ha : ws[q0]? = some (a, .inl (cA, n, .inl f))) (ht : tys[t0]? = some (cA, .byte)) {i : Int32} {x : Int32} (hout : ¬ vp_in i n) (hdg : decode cc pc = .ok (.bastore, 1))
    (k : ∀ tx : String, tx = (toString "Index " ++ toString i ++ toString " out of bounds for length " ++ toString n : String) → vx_Note p l e R s m args below meth c H locs cells slots Q (F0 m pc ls rest) "java/lang/ArrayIndexOutOfBoundsException" tx) : W p l e R s m args below meth c H locs cells slots Q (F0 m pc ls (.int x :: .int i :: .ref a :: rest)) := by
  intro T hT X
  obtain ⟨t, st, q⟩ := k _ rfl T hT X
  refine ⟨t, ?_, q⟩
  have h1 := X.bastoreOut hexec (by rw [hT]; exact hP q0 _ ha) ((hK.2 t0 _ ht).1 n (fun j => .int (f j))) (j := i) (by show (i < 0 ∨ (arrV _ _ _).slots.size ≤ _); rw [arrV_size]; exact Classical.byContradiction hout) (g := F0 m pc ls (.int x :: .int i :: .ref a :: rest)) rfl (rest := rest) rfl (by rw [hb]; exact hdg) t
  simp only [arrV_size] at h1
  exact h1 st
theorem vx_zaldZ {D : va_G} {cl : List vw_C} {ws : va_W} {tys : List (ClassId × FieldType)} {a : Nat} (hexec : p.tables.exec = Jvm.exec) (hb : c.code = cc) (hK : va_K D cl tys s) (hP : va_P D cl ws H) (q0 t0 : Nat) {cA : ClassId} {n : Nat} {f : Nat → Int32} (ha : ws[q0]? = some (a, .inl (cA, n, .inl f))) (ht : tys[t0]? = some (cA, .boolean)) {i : Int32} (hout : ¬ vp_in i n) (hdg : decode cc pc = .ok (.baload, 1))
    (k : ∀ tx : String, tx = (toString "Index " ++ toString i ++ toString " out of bounds for length " ++ toString n : String) → vx_Note p l e R s m args below meth c H locs cells slots Q (F0 m pc ls rest) "java/lang/ArrayIndexOutOfBoundsException" tx) : W p l e R s m args below meth c H locs cells slots Q (F0 m pc ls (.int i :: .ref a :: rest)) := by
  intro T hT X
  obtain ⟨t, st, q⟩ := k _ rfl T hT X
  refine ⟨t, ?_, q⟩
  have h1 := X.baloadOut hexec (by rw [hT]; exact hP q0 _ ha) ((hK.2 t0 _ ht).1 n (fun j => .int (f j))) (j := i) (by show (i < 0 ∨ (arrV _ _ _).slots.size ≤ _); rw [arrV_size]; exact Classical.byContradiction hout) (g := F0 m pc ls (.int i :: .ref a :: rest)) rfl (rest := rest) rfl (by rw [hb]; exact hdg) t
  simp only [arrV_size] at h1
  exact h1 st
theorem vx_zastZ {D : va_G} {cl : List vw_C} {ws : va_W} {tys : List (ClassId × FieldType)} {a : Nat} (hexec : p.tables.exec = Jvm.exec) (hb : c.code = cc) (hK : va_K D cl tys s) (hP : va_P D cl ws H) (q0 t0 : Nat) {cA : ClassId} {n : Nat} {f : Nat → Int32} (ha : ws[q0]? = some (a, .inl (cA, n, .inl f))) (ht : tys[t0]? = some (cA, .boolean)) {i : Int32} {x : Int32} (hout : ¬ vp_in i n) (hdg : decode cc pc = .ok (.bastore, 1))
    (k : ∀ tx : String, tx = (toString "Index " ++ toString i ++ toString " out of bounds for length " ++ toString n : String) → vx_Note p l e R s m args below meth c H locs cells slots Q (F0 m pc ls rest) "java/lang/ArrayIndexOutOfBoundsException" tx) : W p l e R s m args below meth c H locs cells slots Q (F0 m pc ls (.int x :: .int i :: .ref a :: rest)) := by
  intro T hT X
  obtain ⟨t, st, q⟩ := k _ rfl T hT X
  refine ⟨t, ?_, q⟩
  have h1 := X.bastoreOut hexec (by rw [hT]; exact hP q0 _ ha) ((hK.2 t0 _ ht).1 n (fun j => .int (f j))) (j := i) (by show (i < 0 ∨ (arrV _ _ _).slots.size ≤ _); rw [arrV_size]; exact Classical.byContradiction hout) (g := F0 m pc ls (.int x :: .int i :: .ref a :: rest)) rfl (rest := rest) rfl (by rw [hb]; exact hdg) t
  simp only [arrV_size] at h1
  exact h1 st
theorem vx_caldZ {D : va_G} {cl : List vw_C} {ws : va_W} {tys : List (ClassId × FieldType)} {a : Nat} (hexec : p.tables.exec = Jvm.exec) (hb : c.code = cc) (hK : va_K D cl tys s) (hP : va_P D cl ws H) (q0 t0 : Nat) {cA : ClassId} {n : Nat} {f : Nat → Int32} (ha : ws[q0]? = some (a, .inl (cA, n, .inl f))) (ht : tys[t0]? = some (cA, .char)) {i : Int32} (hout : ¬ vp_in i n) (hdg : decode cc pc = .ok (.caload, 1))
    (k : ∀ tx : String, tx = (toString "Index " ++ toString i ++ toString " out of bounds for length " ++ toString n : String) → vx_Note p l e R s m args below meth c H locs cells slots Q (F0 m pc ls rest) "java/lang/ArrayIndexOutOfBoundsException" tx) : W p l e R s m args below meth c H locs cells slots Q (F0 m pc ls (.int i :: .ref a :: rest)) := by
  intro T hT X
  obtain ⟨t, st, q⟩ := k _ rfl T hT X
  refine ⟨t, ?_, q⟩
  have h1 := X.caloadOut hexec (by rw [hT]; exact hP q0 _ ha) ((hK.2 t0 _ ht).1 n (fun j => .int (f j))) (j := i) (by show (i < 0 ∨ (arrV _ _ _).slots.size ≤ _); rw [arrV_size]; exact Classical.byContradiction hout) (g := F0 m pc ls (.int i :: .ref a :: rest)) rfl (rest := rest) rfl (by rw [hb]; exact hdg) t
  simp only [arrV_size] at h1
  exact h1 st
theorem vx_castZ {D : va_G} {cl : List vw_C} {ws : va_W} {tys : List (ClassId × FieldType)} {a : Nat} (hexec : p.tables.exec = Jvm.exec) (hb : c.code = cc) (hK : va_K D cl tys s) (hP : va_P D cl ws H) (q0 t0 : Nat) {cA : ClassId} {n : Nat} {f : Nat → Int32} (ha : ws[q0]? = some (a, .inl (cA, n, .inl f))) (ht : tys[t0]? = some (cA, .char)) {i : Int32} {x : Int32} (hout : ¬ vp_in i n) (hdg : decode cc pc = .ok (.castore, 1))
    (k : ∀ tx : String, tx = (toString "Index " ++ toString i ++ toString " out of bounds for length " ++ toString n : String) → vx_Note p l e R s m args below meth c H locs cells slots Q (F0 m pc ls rest) "java/lang/ArrayIndexOutOfBoundsException" tx) : W p l e R s m args below meth c H locs cells slots Q (F0 m pc ls (.int x :: .int i :: .ref a :: rest)) := by
  intro T hT X
  obtain ⟨t, st, q⟩ := k _ rfl T hT X
  refine ⟨t, ?_, q⟩
  have h1 := X.castoreOut hexec (by rw [hT]; exact hP q0 _ ha) ((hK.2 t0 _ ht).1 n (fun j => .int (f j))) (j := i) (by show (i < 0 ∨ (arrV _ _ _).slots.size ≤ _); rw [arrV_size]; exact Classical.byContradiction hout) (g := F0 m pc ls (.int x :: .int i :: .ref a :: rest)) rfl (rest := rest) rfl (by rw [hb]; exact hdg) t
  simp only [arrV_size] at h1
  exact h1 st
theorem vx_saldZ {D : va_G} {cl : List vw_C} {ws : va_W} {tys : List (ClassId × FieldType)} {a : Nat} (hexec : p.tables.exec = Jvm.exec) (hb : c.code = cc) (hK : va_K D cl tys s) (hP : va_P D cl ws H) (q0 t0 : Nat) {cA : ClassId} {n : Nat} {f : Nat → Int32} (ha : ws[q0]? = some (a, .inl (cA, n, .inl f))) (ht : tys[t0]? = some (cA, .short)) {i : Int32} (hout : ¬ vp_in i n) (hdg : decode cc pc = .ok (.saload, 1))
    (k : ∀ tx : String, tx = (toString "Index " ++ toString i ++ toString " out of bounds for length " ++ toString n : String) → vx_Note p l e R s m args below meth c H locs cells slots Q (F0 m pc ls rest) "java/lang/ArrayIndexOutOfBoundsException" tx) : W p l e R s m args below meth c H locs cells slots Q (F0 m pc ls (.int i :: .ref a :: rest)) := by
  intro T hT X
  obtain ⟨t, st, q⟩ := k _ rfl T hT X
  refine ⟨t, ?_, q⟩
  have h1 := X.saloadOut hexec (by rw [hT]; exact hP q0 _ ha) ((hK.2 t0 _ ht).1 n (fun j => .int (f j))) (j := i) (by show (i < 0 ∨ (arrV _ _ _).slots.size ≤ _); rw [arrV_size]; exact Classical.byContradiction hout) (g := F0 m pc ls (.int i :: .ref a :: rest)) rfl (rest := rest) rfl (by rw [hb]; exact hdg) t
  simp only [arrV_size] at h1
  exact h1 st
theorem vx_sastZ {D : va_G} {cl : List vw_C} {ws : va_W} {tys : List (ClassId × FieldType)} {a : Nat} (hexec : p.tables.exec = Jvm.exec) (hb : c.code = cc) (hK : va_K D cl tys s) (hP : va_P D cl ws H) (q0 t0 : Nat) {cA : ClassId} {n : Nat} {f : Nat → Int32} (ha : ws[q0]? = some (a, .inl (cA, n, .inl f))) (ht : tys[t0]? = some (cA, .short)) {i : Int32} {x : Int32} (hout : ¬ vp_in i n) (hdg : decode cc pc = .ok (.sastore, 1))
    (k : ∀ tx : String, tx = (toString "Index " ++ toString i ++ toString " out of bounds for length " ++ toString n : String) → vx_Note p l e R s m args below meth c H locs cells slots Q (F0 m pc ls rest) "java/lang/ArrayIndexOutOfBoundsException" tx) : W p l e R s m args below meth c H locs cells slots Q (F0 m pc ls (.int x :: .int i :: .ref a :: rest)) := by
  intro T hT X
  obtain ⟨t, st, q⟩ := k _ rfl T hT X
  refine ⟨t, ?_, q⟩
  have h1 := X.sastoreOut hexec (by rw [hT]; exact hP q0 _ ha) ((hK.2 t0 _ ht).1 n (fun j => .int (f j))) (j := i) (by show (i < 0 ∨ (arrV _ _ _).slots.size ≤ _); rw [arrV_size]; exact Classical.byContradiction hout) (g := F0 m pc ls (.int x :: .int i :: .ref a :: rest)) rfl (rest := rest) rfl (by rw [hb]; exact hdg) t
  simp only [arrV_size] at h1
  exact h1 st
theorem vx_laldZ {D : va_G} {cl : List vw_C} {ws : va_W} {tys : List (ClassId × FieldType)} {a : Nat} (hexec : p.tables.exec = Jvm.exec) (hb : c.code = cc) (hK : va_K D cl tys s) (hP : va_P D cl ws H) (q0 t0 : Nat) {cA : ClassId} {n : Nat} {f : Nat → Int64} (ha : ws[q0]? = some (a, .inl (cA, n, .inr (.inl f)))) (ht : tys[t0]? = some (cA, .long)) {i : Int32} (hout : ¬ vp_in i n) (hdg : decode cc pc = .ok (.laload, 1))
    (k : ∀ tx : String, tx = (toString "Index " ++ toString i ++ toString " out of bounds for length " ++ toString n : String) → vx_Note p l e R s m args below meth c H locs cells slots Q (F0 m pc ls rest) "java/lang/ArrayIndexOutOfBoundsException" tx) : W p l e R s m args below meth c H locs cells slots Q (F0 m pc ls (.int i :: .ref a :: rest)) := by
  intro T hT X
  obtain ⟨t, st, q⟩ := k _ rfl T hT X
  refine ⟨t, ?_, q⟩
  have h1 := X.laloadOut hexec (by rw [hT]; exact hP q0 _ ha) ((hK.2 t0 _ ht).1 n (fun j => .long (f j))) (j := i) (by show (i < 0 ∨ (arrV _ _ _).slots.size ≤ _); rw [arrV_size]; exact Classical.byContradiction hout) (g := F0 m pc ls (.int i :: .ref a :: rest)) rfl (rest := rest) rfl (by rw [hb]; exact hdg) t
  simp only [arrV_size] at h1
  exact h1 st
theorem vx_lastZ {D : va_G} {cl : List vw_C} {ws : va_W} {tys : List (ClassId × FieldType)} {a : Nat} (hexec : p.tables.exec = Jvm.exec) (hb : c.code = cc) (hK : va_K D cl tys s) (hP : va_P D cl ws H) (q0 t0 : Nat) {cA : ClassId} {n : Nat} {f : Nat → Int64} (ha : ws[q0]? = some (a, .inl (cA, n, .inr (.inl f)))) (ht : tys[t0]? = some (cA, .long)) {i : Int32} {x : Int64} (hout : ¬ vp_in i n) (hdg : decode cc pc = .ok (.lastore, 1))
    (k : ∀ tx : String, tx = (toString "Index " ++ toString i ++ toString " out of bounds for length " ++ toString n : String) → vx_Note p l e R s m args below meth c H locs cells slots Q (F0 m pc ls rest) "java/lang/ArrayIndexOutOfBoundsException" tx) : W p l e R s m args below meth c H locs cells slots Q (F0 m pc ls (.long x :: .int i :: .ref a :: rest)) := by
  intro T hT X
  obtain ⟨t, st, q⟩ := k _ rfl T hT X
  refine ⟨t, ?_, q⟩
  have h1 := X.lastoreOut hexec (by rw [hT]; exact hP q0 _ ha) ((hK.2 t0 _ ht).1 n (fun j => .long (f j))) (j := i) (by show (i < 0 ∨ (arrV _ _ _).slots.size ≤ _); rw [arrV_size]; exact Classical.byContradiction hout) (g := F0 m pc ls (.long x :: .int i :: .ref a :: rest)) rfl (rest := rest) rfl (by rw [hb]; exact hdg) t
  simp only [arrV_size] at h1
  exact h1 st
theorem vx_faldZ {D : va_G} {cl : List vw_C} {ws : va_W} {tys : List (ClassId × FieldType)} {a : Nat} (hexec : p.tables.exec = Jvm.exec) (hb : c.code = cc) (hK : va_K D cl tys s) (hP : va_P D cl ws H) (q0 t0 : Nat) {cA : ClassId} {n : Nat} {f : Nat → UInt32} (ha : ws[q0]? = some (a, .inl (cA, n, .inr (.inr (.inl f))))) (ht : tys[t0]? = some (cA, .float)) {i : Int32} (hout : ¬ vp_in i n) (hdg : decode cc pc = .ok (.faload, 1))
    (k : ∀ tx : String, tx = (toString "Index " ++ toString i ++ toString " out of bounds for length " ++ toString n : String) → vx_Note p l e R s m args below meth c H locs cells slots Q (F0 m pc ls rest) "java/lang/ArrayIndexOutOfBoundsException" tx) : W p l e R s m args below meth c H locs cells slots Q (F0 m pc ls (.int i :: .ref a :: rest)) := by
  intro T hT X
  obtain ⟨t, st, q⟩ := k _ rfl T hT X
  refine ⟨t, ?_, q⟩
  have h1 := X.faloadOut hexec (by rw [hT]; exact hP q0 _ ha) ((hK.2 t0 _ ht).1 n (fun j => .float (f j))) (j := i) (by show (i < 0 ∨ (arrV _ _ _).slots.size ≤ _); rw [arrV_size]; exact Classical.byContradiction hout) (g := F0 m pc ls (.int i :: .ref a :: rest)) rfl (rest := rest) rfl (by rw [hb]; exact hdg) t
  simp only [arrV_size] at h1
  exact h1 st
theorem vx_fastZ {D : va_G} {cl : List vw_C} {ws : va_W} {tys : List (ClassId × FieldType)} {a : Nat} (hexec : p.tables.exec = Jvm.exec) (hb : c.code = cc) (hK : va_K D cl tys s) (hP : va_P D cl ws H) (q0 t0 : Nat) {cA : ClassId} {n : Nat} {f : Nat → UInt32} (ha : ws[q0]? = some (a, .inl (cA, n, .inr (.inr (.inl f))))) (ht : tys[t0]? = some (cA, .float)) {i : Int32} {x : UInt32} (hout : ¬ vp_in i n) (hdg : decode cc pc = .ok (.fastore, 1))
    (k : ∀ tx : String, tx = (toString "Index " ++ toString i ++ toString " out of bounds for length " ++ toString n : String) → vx_Note p l e R s m args below meth c H locs cells slots Q (F0 m pc ls rest) "java/lang/ArrayIndexOutOfBoundsException" tx) : W p l e R s m args below meth c H locs cells slots Q (F0 m pc ls (.float x :: .int i :: .ref a :: rest)) := by
  intro T hT X
  obtain ⟨t, st, q⟩ := k _ rfl T hT X
  refine ⟨t, ?_, q⟩
  have h1 := X.fastoreOut hexec (by rw [hT]; exact hP q0 _ ha) ((hK.2 t0 _ ht).1 n (fun j => .float (f j))) (j := i) (by show (i < 0 ∨ (arrV _ _ _).slots.size ≤ _); rw [arrV_size]; exact Classical.byContradiction hout) (g := F0 m pc ls (.float x :: .int i :: .ref a :: rest)) rfl (rest := rest) rfl (by rw [hb]; exact hdg) t
  simp only [arrV_size] at h1
  exact h1 st
theorem vx_daldZ {D : va_G} {cl : List vw_C} {ws : va_W} {tys : List (ClassId × FieldType)} {a : Nat} (hexec : p.tables.exec = Jvm.exec) (hb : c.code = cc) (hK : va_K D cl tys s) (hP : va_P D cl ws H) (q0 t0 : Nat) {cA : ClassId} {n : Nat} {f : Nat → UInt64} (ha : ws[q0]? = some (a, .inl (cA, n, .inr (.inr (.inr (.inl f)))))) (ht : tys[t0]? = some (cA, .double)) {i : Int32} (hout : ¬ vp_in i n) (hdg : decode cc pc = .ok (.daload, 1))
    (k : ∀ tx : String, tx = (toString "Index " ++ toString i ++ toString " out of bounds for length " ++ toString n : String) → vx_Note p l e R s m args below meth c H locs cells slots Q (F0 m pc ls rest) "java/lang/ArrayIndexOutOfBoundsException" tx) : W p l e R s m args below meth c H locs cells slots Q (F0 m pc ls (.int i :: .ref a :: rest)) := by
  intro T hT X
  obtain ⟨t, st, q⟩ := k _ rfl T hT X
  refine ⟨t, ?_, q⟩
  have h1 := X.daloadOut hexec (by rw [hT]; exact hP q0 _ ha) ((hK.2 t0 _ ht).1 n (fun j => .double (f j))) (j := i) (by show (i < 0 ∨ (arrV _ _ _).slots.size ≤ _); rw [arrV_size]; exact Classical.byContradiction hout) (g := F0 m pc ls (.int i :: .ref a :: rest)) rfl (rest := rest) rfl (by rw [hb]; exact hdg) t
  simp only [arrV_size] at h1
  exact h1 st
theorem vx_dastZ {D : va_G} {cl : List vw_C} {ws : va_W} {tys : List (ClassId × FieldType)} {a : Nat} (hexec : p.tables.exec = Jvm.exec) (hb : c.code = cc) (hK : va_K D cl tys s) (hP : va_P D cl ws H) (q0 t0 : Nat) {cA : ClassId} {n : Nat} {f : Nat → UInt64} (ha : ws[q0]? = some (a, .inl (cA, n, .inr (.inr (.inr (.inl f)))))) (ht : tys[t0]? = some (cA, .double)) {i : Int32} {x : UInt64} (hout : ¬ vp_in i n) (hdg : decode cc pc = .ok (.dastore, 1))
    (k : ∀ tx : String, tx = (toString "Index " ++ toString i ++ toString " out of bounds for length " ++ toString n : String) → vx_Note p l e R s m args below meth c H locs cells slots Q (F0 m pc ls rest) "java/lang/ArrayIndexOutOfBoundsException" tx) : W p l e R s m args below meth c H locs cells slots Q (F0 m pc ls (.double x :: .int i :: .ref a :: rest)) := by
  intro T hT X
  obtain ⟨t, st, q⟩ := k _ rfl T hT X
  refine ⟨t, ?_, q⟩
  have h1 := X.dastoreOut hexec (by rw [hT]; exact hP q0 _ ha) ((hK.2 t0 _ ht).1 n (fun j => .double (f j))) (j := i) (by show (i < 0 ∨ (arrV _ _ _).slots.size ≤ _); rw [arrV_size]; exact Classical.byContradiction hout) (g := F0 m pc ls (.double x :: .int i :: .ref a :: rest)) rfl (rest := rest) rfl (by rw [hb]; exact hdg) t
  simp only [arrV_size] at h1
  exact h1 st
theorem vx_arraylengthN (hexec : p.tables.exec = Jvm.exec) (hb : c.code = cc) (hdg : decode cc pc = .ok (.arraylength, 1)) (k : vx_NoteN p l e R s m args below meth c H locs cells slots Q (F0 m pc ls rest)) : W p l e R s m args below meth c H locs cells slots Q (F0 m pc ls (.null :: rest)) := by
  intro T hT X
  obtain ⟨t, st, q⟩ := k T hT X
  exact ⟨t, X.arraylengthNull hexec (g := F0 m pc ls (.null :: rest)) rfl (rest := rest) rfl (by rw [hb]; exact hdg) t st, q⟩
theorem vx_ialoadN (hexec : p.tables.exec = Jvm.exec) (hb : c.code = cc) {i : Int32} (hdg : decode cc pc = .ok (.iaload, 1)) (k : vx_NoteN p l e R s m args below meth c H locs cells slots Q (F0 m pc ls rest)) : W p l e R s m args below meth c H locs cells slots Q (F0 m pc ls (.int i :: .null :: rest)) := by
  intro T hT X
  obtain ⟨t, st, q⟩ := k T hT X
  exact ⟨t, X.ialoadNull hexec (g := F0 m pc ls (.int i :: .null :: rest)) rfl (rest := rest) rfl (by rw [hb]; exact hdg) t st, q⟩
theorem vx_laloadN (hexec : p.tables.exec = Jvm.exec) (hb : c.code = cc) {i : Int32} (hdg : decode cc pc = .ok (.laload, 1)) (k : vx_NoteN p l e R s m args below meth c H locs cells slots Q (F0 m pc ls rest)) : W p l e R s m args below meth c H locs cells slots Q (F0 m pc ls (.int i :: .null :: rest)) := by
  intro T hT X
  obtain ⟨t, st, q⟩ := k T hT X
  exact ⟨t, X.laloadNull hexec (g := F0 m pc ls (.int i :: .null :: rest)) rfl (rest := rest) rfl (by rw [hb]; exact hdg) t st, q⟩
theorem vx_faloadN (hexec : p.tables.exec = Jvm.exec) (hb : c.code = cc) {i : Int32} (hdg : decode cc pc = .ok (.faload, 1)) (k : vx_NoteN p l e R s m args below meth c H locs cells slots Q (F0 m pc ls rest)) : W p l e R s m args below meth c H locs cells slots Q (F0 m pc ls (.int i :: .null :: rest)) := by
  intro T hT X
  obtain ⟨t, st, q⟩ := k T hT X
  exact ⟨t, X.faloadNull hexec (g := F0 m pc ls (.int i :: .null :: rest)) rfl (rest := rest) rfl (by rw [hb]; exact hdg) t st, q⟩
theorem vx_daloadN (hexec : p.tables.exec = Jvm.exec) (hb : c.code = cc) {i : Int32} (hdg : decode cc pc = .ok (.daload, 1)) (k : vx_NoteN p l e R s m args below meth c H locs cells slots Q (F0 m pc ls rest)) : W p l e R s m args below meth c H locs cells slots Q (F0 m pc ls (.int i :: .null :: rest)) := by
  intro T hT X
  obtain ⟨t, st, q⟩ := k T hT X
  exact ⟨t, X.daloadNull hexec (g := F0 m pc ls (.int i :: .null :: rest)) rfl (rest := rest) rfl (by rw [hb]; exact hdg) t st, q⟩
theorem vx_aaloadN (hexec : p.tables.exec = Jvm.exec) (hb : c.code = cc) {i : Int32} (hdg : decode cc pc = .ok (.aaload, 1)) (k : vx_NoteN p l e R s m args below meth c H locs cells slots Q (F0 m pc ls rest)) : W p l e R s m args below meth c H locs cells slots Q (F0 m pc ls (.int i :: .null :: rest)) := by
  intro T hT X
  obtain ⟨t, st, q⟩ := k T hT X
  exact ⟨t, X.aaloadNull hexec (g := F0 m pc ls (.int i :: .null :: rest)) rfl (rest := rest) rfl (by rw [hb]; exact hdg) t st, q⟩
theorem vx_baloadN (hexec : p.tables.exec = Jvm.exec) (hb : c.code = cc) {i : Int32} (hdg : decode cc pc = .ok (.baload, 1)) (k : vx_NoteN p l e R s m args below meth c H locs cells slots Q (F0 m pc ls rest)) : W p l e R s m args below meth c H locs cells slots Q (F0 m pc ls (.int i :: .null :: rest)) := by
  intro T hT X
  obtain ⟨t, st, q⟩ := k T hT X
  exact ⟨t, X.baloadNull hexec (g := F0 m pc ls (.int i :: .null :: rest)) rfl (rest := rest) rfl (by rw [hb]; exact hdg) t st, q⟩
theorem vx_caloadN (hexec : p.tables.exec = Jvm.exec) (hb : c.code = cc) {i : Int32} (hdg : decode cc pc = .ok (.caload, 1)) (k : vx_NoteN p l e R s m args below meth c H locs cells slots Q (F0 m pc ls rest)) : W p l e R s m args below meth c H locs cells slots Q (F0 m pc ls (.int i :: .null :: rest)) := by
  intro T hT X
  obtain ⟨t, st, q⟩ := k T hT X
  exact ⟨t, X.caloadNull hexec (g := F0 m pc ls (.int i :: .null :: rest)) rfl (rest := rest) rfl (by rw [hb]; exact hdg) t st, q⟩
theorem vx_saloadN (hexec : p.tables.exec = Jvm.exec) (hb : c.code = cc) {i : Int32} (hdg : decode cc pc = .ok (.saload, 1)) (k : vx_NoteN p l e R s m args below meth c H locs cells slots Q (F0 m pc ls rest)) : W p l e R s m args below meth c H locs cells slots Q (F0 m pc ls (.int i :: .null :: rest)) := by
  intro T hT X
  obtain ⟨t, st, q⟩ := k T hT X
  exact ⟨t, X.saloadNull hexec (g := F0 m pc ls (.int i :: .null :: rest)) rfl (rest := rest) rfl (by rw [hb]; exact hdg) t st, q⟩
theorem vx_iastoreN (hexec : p.tables.exec = Jvm.exec) (hb : c.code = cc) {x : Int32} {i : Int32} (hdg : decode cc pc = .ok (.iastore, 1)) (k : vx_NoteN p l e R s m args below meth c H locs cells slots Q (F0 m pc ls rest)) : W p l e R s m args below meth c H locs cells slots Q (F0 m pc ls (.int x :: .int i :: .null :: rest)) := by
  intro T hT X
  obtain ⟨t, st, q⟩ := k T hT X
  exact ⟨t, X.iastoreNull hexec (g := F0 m pc ls (.int x :: .int i :: .null :: rest)) rfl (rest := rest) rfl (by rw [hb]; exact hdg) t st, q⟩
theorem vx_lastoreN (hexec : p.tables.exec = Jvm.exec) (hb : c.code = cc) {x : Int64} {i : Int32} (hdg : decode cc pc = .ok (.lastore, 1)) (k : vx_NoteN p l e R s m args below meth c H locs cells slots Q (F0 m pc ls rest)) : W p l e R s m args below meth c H locs cells slots Q (F0 m pc ls (.long x :: .int i :: .null :: rest)) := by
  intro T hT X
  obtain ⟨t, st, q⟩ := k T hT X
  exact ⟨t, X.lastoreNull hexec (g := F0 m pc ls (.long x :: .int i :: .null :: rest)) rfl (rest := rest) rfl (by rw [hb]; exact hdg) t st, q⟩
theorem vx_fastoreN (hexec : p.tables.exec = Jvm.exec) (hb : c.code = cc) {x : UInt32} {i : Int32} (hdg : decode cc pc = .ok (.fastore, 1)) (k : vx_NoteN p l e R s m args below meth c H locs cells slots Q (F0 m pc ls rest)) : W p l e R s m args below meth c H locs cells slots Q (F0 m pc ls (.float x :: .int i :: .null :: rest)) := by
  intro T hT X
  obtain ⟨t, st, q⟩ := k T hT X
  exact ⟨t, X.fastoreNull hexec (g := F0 m pc ls (.float x :: .int i :: .null :: rest)) rfl (rest := rest) rfl (by rw [hb]; exact hdg) t st, q⟩
theorem vx_dastoreN (hexec : p.tables.exec = Jvm.exec) (hb : c.code = cc) {x : UInt64} {i : Int32} (hdg : decode cc pc = .ok (.dastore, 1)) (k : vx_NoteN p l e R s m args below meth c H locs cells slots Q (F0 m pc ls rest)) : W p l e R s m args below meth c H locs cells slots Q (F0 m pc ls (.double x :: .int i :: .null :: rest)) := by
  intro T hT X
  obtain ⟨t, st, q⟩ := k T hT X
  exact ⟨t, X.dastoreNull hexec (g := F0 m pc ls (.double x :: .int i :: .null :: rest)) rfl (rest := rest) rfl (by rw [hb]; exact hdg) t st, q⟩
theorem vx_bastoreN (hexec : p.tables.exec = Jvm.exec) (hb : c.code = cc) {x : Int32} {i : Int32} (hdg : decode cc pc = .ok (.bastore, 1)) (k : vx_NoteN p l e R s m args below meth c H locs cells slots Q (F0 m pc ls rest)) : W p l e R s m args below meth c H locs cells slots Q (F0 m pc ls (.int x :: .int i :: .null :: rest)) := by
  intro T hT X
  obtain ⟨t, st, q⟩ := k T hT X
  exact ⟨t, X.bastoreNull hexec (g := F0 m pc ls (.int x :: .int i :: .null :: rest)) rfl (rest := rest) rfl (by rw [hb]; exact hdg) t st, q⟩
theorem vx_castoreN (hexec : p.tables.exec = Jvm.exec) (hb : c.code = cc) {x : Int32} {i : Int32} (hdg : decode cc pc = .ok (.castore, 1)) (k : vx_NoteN p l e R s m args below meth c H locs cells slots Q (F0 m pc ls rest)) : W p l e R s m args below meth c H locs cells slots Q (F0 m pc ls (.int x :: .int i :: .null :: rest)) := by
  intro T hT X
  obtain ⟨t, st, q⟩ := k T hT X
  exact ⟨t, X.castoreNull hexec (g := F0 m pc ls (.int x :: .int i :: .null :: rest)) rfl (rest := rest) rfl (by rw [hb]; exact hdg) t st, q⟩
theorem vx_sastoreN (hexec : p.tables.exec = Jvm.exec) (hb : c.code = cc) {x : Int32} {i : Int32} (hdg : decode cc pc = .ok (.sastore, 1)) (k : vx_NoteN p l e R s m args below meth c H locs cells slots Q (F0 m pc ls rest)) : W p l e R s m args below meth c H locs cells slots Q (F0 m pc ls (.int x :: .int i :: .null :: rest)) := by
  intro T hT X
  obtain ⟨t, st, q⟩ := k T hT X
  exact ⟨t, X.sastoreNull hexec (g := F0 m pc ls (.int x :: .int i :: .null :: rest)) rfl (rest := rest) rfl (by rw [hb]; exact hdg) t st, q⟩
theorem vx_invokeN {own C : String} {index maxL : Nat} {y : MethodName} {bytes : ByteArray} {ret : Option FieldType} (hexec : p.tables.exec = Jvm.exec) (hb : c.code = cc) (hown : s.vm.findClass own = some m.cls) (hlink : (Cond.methodLink own index y).before args s = true) (hinst : (Cond.instanceMethod y).before args s = true) (hcode : (Cond.code y bytes maxL ret).before args s = true) (hsel : (Cond.selects C y y).before args s = true)
    (hx : y.cls ≠ "java/lang/invoke/MethodHandle" ∧ y.cls ≠ "java/lang/invoke/VarHandle") {As : List Value} (hlen : (parseMethodDescriptor y.desc).map (fun d => d.parameters.length) = some As.length) (hdg : decode cc pc = .ok (.invokevirtual index, 3))
    (k : vx_NoteN p l e R s m args below meth c H locs cells slots Q (F0 m pc ls rest)) {st0 : List Value} (hst : st0 = As.reverse ++ .null :: rest) : W p l e R s m args below meth c H locs cells slots Q (F0 m pc ls st0) := by
  intro T hT X
  obtain ⟨r0, r, hn, hrm, hstR, hsigR⟩ := va_Decl.of hinst hcode
  obtain ⟨c2, r2, m2, q1, q2, q3, q4, kP, hkP, hkPi⟩ := Cond.selects_spec hsel
  cases hn.symm.trans q3
  have hl9 : As.length = r.sig.parameters.length := by
    rw [hsigR] at hlen
    exact (Option.some.inj hlen).symm
  obtain ⟨vm', X1, st1⟩ := X.invokevirtualNull hexec hown hlink hn hrm hstR hkP hkPi hx (g := F0 m pc ls st0) rfl (argsL := As) (rest := rest) hl9 hst (by rw [hb]; exact hdg)
  obtain ⟨t, st, q⟩ := k (T.setVm vm') hT X1
  exact ⟨t, st1 t st, q⟩
theorem vx_newarrayZ {atype : ArrayType} (hexec : p.tables.exec = Jvm.exec) (hb : c.code = cc) {n : Int32} (h0 : n < 0) (hdg : decode cc pc = .ok (.newarray atype, 2)) (k : ∀ tx : String, tx = toString n → vx_Note p l e R s m args below meth c H locs cells slots Q (F0 m pc ls rest) "java/lang/NegativeArraySizeException" tx) : W p l e R s m args below meth c H locs cells slots Q (F0 m pc ls (.int n :: rest)) := by
  intro T hT X
  obtain ⟨t, st, q⟩ := k _ rfl T hT X
  exact ⟨t, X.newarrayNegative hexec (g := F0 m pc ls (.int n :: rest)) rfl h0 (rest := rest) rfl (by rw [hb]; exact hdg) t st, q⟩
end
end VXM
/-! ===== END ===== -/
/-! ===== BEGIN an exception as an object: made, kept, thrown later (no traces kept) ===== -/
section VXK
variable {p : Program} {l : Launch} {e : Env} {R : Room} {s : State} {m₀ : MethodId} {args : Array Value} {below : List Frame} {meth : Method} {c : Code} {W : State} {locs : List Loc} {cells slots : Nat}
set_option maxHeartbeats 1000000 in
theorem vx_ctorMadeS (X : Stand p l e R s m₀ args below meth c W locs cells slots) (hexec : p.tables.exec = Jvm.exec) (htr : e.platform.stackTraces = false) {own cls : String} {names : List String} {ic : Nat}
    (hown : s.vm.findClass own = some m₀.cls) (hcls : Bundle.fit cls = true) (hnames : ∀ n ∈ names, Bundle.fit n = true)
    (h : ∀ a ∈ Bundle.ownAtoms own ic cls names, a.before args s = true)
    (hlocs : ∀ x ∈ locs, ∀ cell, s.heap[x.base]? = some cell → cell.vm.isStatics = false)
    {a : Addr} {cX : ClassId} {kX : Class} (hfoundX : s.vm.findClass cls = some cX) (hkX : s.vm.classes[cX]? = some kX) (hcell : W.heap[a]? = some (freshCell cX kX)) (hnew : s.heap.size ≤ a)
    {msg : Value} (hmsg : msg.isRef = true)
    {g : JFrame} (hg : g.method = m₀) (hsize : g.locals.size = c.maxLocals) {rest : List Value} (hstack : g.stack = msg :: .ref a :: .ref a :: rest)
    (hd6 : decode c.code g.pc = .ok (.invokespecial ic, 3))
    (hRframes : names.length + 3 < R.frames) (hRlocals : 2 * g.monitorRoom + ((Value.ref a :: rest).map fun v => v.category).sum + (13 * (names.length + 1) + 42) ≤ R.locals) :
    ∃ (V : State) (ce : Cell) (L : List Loc), Stand p l e R s m₀ args below meth c (V.setCell a ce) (locs ++ L) cells slots ∧ (∀ y ∈ L, y.base = a) ∧ a < V.heap.size ∧ ce.cls = cX ∧ ce.vm = .none ∧
      ∀ target, Steps p.tables e below ((V.setCell a ce).setTop { g with stack := .ref a :: rest, pc := g.pc + 3 }) target → Steps p.tables e below (W.setTop g) target := by
  have howns : e.platform.frameOwnsMonitors = true := by rw [X.admits.platform]
  have hfin : e.platform.finalization = false := by rw [X.admits.platform]
  have hpl : e.platform.magicAccessors = ({} : Platform).magicAccessors := by rw [X.admits.platform]
  have a' : ∀ x, x ∈ Bundle.ownAtoms own ic cls names → x.holds args s none s [] = true := fun x hx => h x hx
  obtain ⟨T, Z0, L, -, Y⟩ := ThrowableC.of_atoms (args := args) howns hfin hpl (fun x hx => h x (by simp [Bundle.ownAtoms, hx]))
  obtain ⟨Z, M, LZ, LM, hnZ⟩ := Init0T.ofS_atoms (args := args) hpl L Y (fun x hx => h x (by simp [Bundle.ownAtoms, hx]))
  obtain ⟨P1, Ps, hlen, L1, hL, hP1m, hlink1, hlink⟩ := Bundle.chainS (args := args) hpl hnZ names cls hcls hnames (fun x hx => h x (by simp [Bundle.ownAtoms, hx]))
  have hfound : s.vm.findClass cls = some P1.m.cls := findClass_of_methodNamed hP1m
  cases Option.some.inj (hfoundX.symm.trans hfound)
  obtain ⟨c1, kX', hc1, hk, hord, -, -, hn6⟩ := Cond.instantiable_spec (a' (.instantiable cls 6) (by simp [Bundle.ownAtoms]))
  cases Option.some.inj (hc1.symm.trans hfound)
  cases Option.some.inj (hkX.symm.trans hk)
  have hsel0 : selectMethod e.platform s.vm P1.m.cls T.fill0 = .method T.fill0 := by
    obtain ⟨c2, r2, m2, q1, q2, q3, q4, -⟩ := Cond.selects_spec (a' (.selects cls Bundle.tFill0 Bundle.tFill0) (by simp [Bundle.ownAtoms]))
    cases Option.some.inj (q1.symm.trans hfound)
    cases Option.some.inj (q2.symm.trans (State.methodFound?_of_named Y.fill0 (by decide)))
    cases Option.some.inj (q3.symm.trans Y.fill0)
    rw [Launch.admits_selectMethod X.admits]; exact q4
  have hselF : selectMethod e.platform s.vm P1.m.cls T.fill = .method T.fill := by
    obtain ⟨c2, r2, m2, q1, q2, q3, q4, -⟩ := Cond.selects_spec (a' (.selects cls Bundle.tFill Bundle.tFill) (by simp [Bundle.ownAtoms]))
    cases Option.some.inj (q1.symm.trans hfound)
    cases Option.some.inj (q2.symm.trans (State.methodFound?_of_named Y.fill (by decide)))
    cases Option.some.inj (q3.symm.trans Y.fill)
    rw [Launch.admits_selectMethod X.admits]; exact q4
  obtain ⟨cellS0, hcS0, hiss⟩ := Y.statics
  obtain ⟨u0, hu0⟩ := Cond.staticRefV Y.unassigned L.unassignedStatic L.statics hcS0 hiss (a' (.isRef (.static Bundle.tN "UNASSIGNED_STACK" Bundle.steD)) (by simp [Bundle.ownAtoms]))
  obtain ⟨sen, hsen⟩ := Cond.staticRefV Y.sentinel L.sentinelStatic L.statics hcS0 hiss (a' (.isRef (.static Bundle.tN "SUPPRESSED_SENTINEL" Bundle.listD)) (by simp [Bundle.ownAtoms]))
  obtain ⟨ci198, i198, fB, hk198, hg198, ha198, hsB, -, hnB, htB, hffB⟩ := Cond.ownField (t := .object "java/lang/Object") Y.found L.cls (by decide +kernel) (a' (.fieldLink Bundle.tN 198 Bundle.tN "backtrace" "Ljava/lang/Object;") (by simp [Bundle.ownAtoms])) (a' (.lays Bundle.tN Bundle.tN "backtrace" "Ljava/lang/Object;") (by simp [Bundle.ownAtoms])) e.platform hpl
  obtain ⟨cellS, hcS', heS, -, hkeep⟩ := X.same.2.2.2.2.2 T.aS cellS0 hcS0
  have hcellS : W.heap[T.aS]? = some cellS := hcS'
  have hout' : ∀ i, (⟨T.aS, i⟩ : Loc) ∉ locs := fun i hmem => by
    have := hlocs _ hmem cellS0 hcS0
    rw [hiss] at this; cases this
  have hknownS : cellS.vm ≠ .unknown := by
    rw [heS]; intro hu
    rw [show cellS0.vm = .unknown from hu] at hiss
    cases hiss
  have hneS : T.aS ≠ a := Nat.ne_of_lt (Nat.lt_of_lt_of_le (Array.getElem?_eq_some_iff.mp hcS0).1 hnew)
  obtain ⟨iM, hffM⟩ := Y.msg
  obtain ⟨tyC, dC, hdC, hdnC⟩ := Cond.laysAt hfound hk Y.cause (a' (.lays cls Bundle.tN "cause" "Ljava/lang/Throwable;") (by simp [Bundle.ownAtoms]))
  obtain ⟨tyS, dS, hdS, hdnS⟩ := Cond.laysAt hfound hk Y.stack (a' (.lays cls Bundle.tN "stackTrace" Bundle.steD) (by simp [Bundle.ownAtoms]))
  obtain ⟨tyP, dP, hdP, hdnP⟩ := Cond.laysAt hfound hk Y.supp (a' (.lays cls Bundle.tN "suppressedExceptions" Bundle.listD) (by simp [Bundle.ownAtoms]))
  obtain ⟨tyM, dM, hdM, hdnM⟩ := Cond.laysAt hfound hk hffM (a' (.lays cls Bundle.tN "detailMessage" "Ljava/lang/String;") (by simp [Bundle.ownAtoms]))
  obtain ⟨tyB, dB, hdB, hdnB⟩ := Cond.laysAt hfound hk hffB (a' (.lays cls Bundle.tN "backtrace" "Ljava/lang/Object;") (by simp [Bundle.ownAtoms]))
  have bC := Cond.laysApart hdB hdC hdnB hdnC (by rw [hnB, Y.causeName]; decide)
  have bS := Cond.laysApart hdB hdS hdnB hdnS (by rw [hnB, Y.stackName]; decide)
  have bP := Cond.laysApart hdB hdP hdnB hdnP (by rw [hnB, Y.suppName]; decide)
  have hskip : SkipFacts T e.platform s (fun u => u) u0 ((preparedCellV T.toThrowableT (freshCell P1.m.cls kX) a u0 sen).withEntry W.cur) :=
    ⟨{ ci198 := ci198, i198 := i198, fBack := fB }, ⟨hk198, hg198, ha198, hsB⟩, by
      have := fresh_default (c := P1.m.cls) tyB
      rw [htB] at this
      simpa [preparedCellV, Cell.setSlot, Cell.withEntry, Array.getElem?_setIfInBounds, bC, bS, bP, bC.symm, bS.symm, bP.symm, defaultValue] using this, fun _ _ => rfl⟩
  obtain ⟨tm, methC, cdC, kC, vm₁, hnC, -, -, -, -, -, -, -, hW₁, st1⟩ := Steps.initColdS (tb := p.tables) (e := e) (below := below) (s := s) (U := W) X.here hexec X.warmed hpl hown (t := Bundle.initS cls) rfl rfl (Bundle.fit_spec hcls).2
    (a' (.methodLink own ic (Bundle.initS cls)) (by simp [Bundle.ownAtoms])) (h (.instanceMethod (Bundle.initS cls)) (by cases names <;> simp [Bundle.ownAtoms, Bundle.chainSAtoms, Bundle.passSAtoms])) (bytes := Bundle.six) (maxL := 2) (h (.code (Bundle.initS cls) Bundle.six 2 none) (by cases names <;> simp [Bundle.ownAtoms, Bundle.chainSAtoms, Bundle.passSAtoms]))
    (f := g) hg (a := a) (msg := msg) (rest := .ref a :: rest) hstack hd6
  cases Option.some.inj (hnC.symm.trans hP1m)
  have X₁ := X.noted hW₁
  obtain ⟨vm₂, X₂, st2⟩ := X₁.ctorMessageOffV hexec (g := { g with stack := .ref a :: rest }) hg hsize T L Z LZ M LM (P1 :: Ps)
    (fun P hP => by rcases List.mem_cons.mp hP with rfl | hP; exact L1; exact hL P hP) ⟨hlink1, hlink⟩ (u0 := u0) (sen := sen) (self := a) hmsg (cell := freshCell P1.m.cls kX) (cellS := cellS)
    hcell (fun _ => by simp) (by simp) rfl rfl hsel0 hselF hcellS hneS hknownS (by rw [hkeep _ (hout' _)]; exact hu0) (by rw [hkeep _ (hout' _)]; exact hsen)
    (Takes.of_laid hk hord tyC (by rw [Y.causeType]; rfl)) (Takes.of_laid hk hord tyS (by rw [Y.stackType]; exact fits_refV_array _ u0)) (Takes.of_laid hk hord tyP (by rw [Y.suppType]; exact fits_refV_object _ sen))
    (Takes.of_laid hk hord tyM (by rw [Y.msgType]; exact fits_refV_object _ ⟨msg, hmsg⟩)) Y.objLocals hskip htr [] hd6
    (by simp only [List.length_cons, hlen]; omega) (by simp only [List.length_cons, hlen]; exact hRlocals)
  have hlt : a < ((W.setVm vm₁).setVm vm₂).heap.size := (Array.getElem?_eq_some_iff.mp hcell).1
  refine ⟨(W.setVm vm₁).setVm vm₂, _, _, X₂, fun y hy => ?_, hlt, rfl, rfl, fun target hwalk => st1 _ (fun acts => ?_)⟩
  · simp only [List.mem_cons, List.not_mem_nil, or_false] at hy
    rcases hy with rfl | rfl | rfl | rfl | rfl <;> rfl
  · rw [doInvoke_state]
    exact st2 _ hwalk
set_option maxHeartbeats 1000000 in
theorem vx_ctorMade0 (X : Stand p l e R s m₀ args below meth c W locs cells slots) (hexec : p.tables.exec = Jvm.exec) (htr : e.platform.stackTraces = false) {own cls : String} {names : List String} {ic : Nat}
    (hown : s.vm.findClass own = some m₀.cls) (hcls : Bundle.fit cls = true) (hnames : ∀ n ∈ names, Bundle.fit n = true)
    (h : ∀ a ∈ Bundle.ownAtoms0 own ic cls names, a.before args s = true)
    (hlocs : ∀ x ∈ locs, ∀ cell, s.heap[x.base]? = some cell → cell.vm.isStatics = false)
    {a : Addr} {cX : ClassId} {kX : Class} (hfoundX : s.vm.findClass cls = some cX) (hkX : s.vm.classes[cX]? = some kX) (hcell : W.heap[a]? = some (freshCell cX kX)) (hnew : s.heap.size ≤ a)
    {g : JFrame} (hg : g.method = m₀) (hsize : g.locals.size = c.maxLocals) {rest : List Value} (hstack : g.stack = .ref a :: .ref a :: rest)
    (hd6 : decode c.code g.pc = .ok (.invokespecial ic, 3))
    (hRframes : names.length + 3 < R.frames) (hRlocals : 2 * g.monitorRoom + ((Value.ref a :: rest).map fun v => v.category).sum + (13 * (names.length + 1) + 41) ≤ R.locals) :
    ∃ (V : State) (ce : Cell) (L : List Loc), Stand p l e R s m₀ args below meth c (V.setCell a ce) (locs ++ L) cells slots ∧ (∀ y ∈ L, y.base = a) ∧ a < V.heap.size ∧ ce.cls = cX ∧ ce.vm = .none ∧
      ∀ target, Steps p.tables e below ((V.setCell a ce).setTop { g with stack := .ref a :: rest, pc := g.pc + 3 }) target → Steps p.tables e below (W.setTop g) target := by
  have howns : e.platform.frameOwnsMonitors = true := by rw [X.admits.platform]
  have hfin : e.platform.finalization = false := by rw [X.admits.platform]
  have hpl : e.platform.magicAccessors = ({} : Platform).magicAccessors := by rw [X.admits.platform]
  have a' : ∀ x, x ∈ Bundle.ownAtoms0 own ic cls names → x.holds args s none s [] = true := fun x hx => h x hx
  obtain ⟨T, Z, L, LZ, Y⟩ := ThrowableC.of_atoms (args := args) howns hfin hpl (fun x hx => h x (by simp [Bundle.ownAtoms0, hx]))
  obtain ⟨P1, Ps, hlen, L1, hL, hP1m, hlink1, hlink⟩ := Bundle.chain0 (args := args) hpl Y.init0 names cls hcls hnames (fun x hx => h x (by simp [Bundle.ownAtoms0, hx]))
  have hfound : s.vm.findClass cls = some P1.m.cls := findClass_of_methodNamed hP1m
  cases Option.some.inj (hfoundX.symm.trans hfound)
  obtain ⟨c1, kX', hc1, hk, hord, -, -, hn6⟩ := Cond.instantiable_spec (a' (.instantiable cls 6) (by simp [Bundle.ownAtoms0]))
  cases Option.some.inj (hc1.symm.trans hfound)
  cases Option.some.inj (hkX.symm.trans hk)
  have hsel0 : selectMethod e.platform s.vm P1.m.cls T.fill0 = .method T.fill0 := by
    obtain ⟨c2, r2, m2, q1, q2, q3, q4, -⟩ := Cond.selects_spec (a' (.selects cls Bundle.tFill0 Bundle.tFill0) (by simp [Bundle.ownAtoms0]))
    cases Option.some.inj (q1.symm.trans hfound)
    cases Option.some.inj (q2.symm.trans (State.methodFound?_of_named Y.fill0 (by decide)))
    cases Option.some.inj (q3.symm.trans Y.fill0)
    rw [Launch.admits_selectMethod X.admits]; exact q4
  have hselF : selectMethod e.platform s.vm P1.m.cls T.fill = .method T.fill := by
    obtain ⟨c2, r2, m2, q1, q2, q3, q4, -⟩ := Cond.selects_spec (a' (.selects cls Bundle.tFill Bundle.tFill) (by simp [Bundle.ownAtoms0]))
    cases Option.some.inj (q1.symm.trans hfound)
    cases Option.some.inj (q2.symm.trans (State.methodFound?_of_named Y.fill (by decide)))
    cases Option.some.inj (q3.symm.trans Y.fill)
    rw [Launch.admits_selectMethod X.admits]; exact q4
  obtain ⟨cellS0, hcS0, hiss⟩ := Y.statics
  obtain ⟨u0, hu0⟩ := Cond.staticRefV Y.unassigned L.unassignedStatic L.statics hcS0 hiss (a' (.isRef (.static Bundle.tN "UNASSIGNED_STACK" Bundle.steD)) (by simp [Bundle.ownAtoms0]))
  obtain ⟨sen, hsen⟩ := Cond.staticRefV Y.sentinel L.sentinelStatic L.statics hcS0 hiss (a' (.isRef (.static Bundle.tN "SUPPRESSED_SENTINEL" Bundle.listD)) (by simp [Bundle.ownAtoms0]))
  obtain ⟨ci198, i198, fB, hk198, hg198, ha198, hsB, -, hnB, htB, hffB⟩ := Cond.ownField (t := .object "java/lang/Object") Y.found L.cls (by decide +kernel) (a' (.fieldLink Bundle.tN 198 Bundle.tN "backtrace" "Ljava/lang/Object;") (by simp [Bundle.ownAtoms0])) (a' (.lays Bundle.tN Bundle.tN "backtrace" "Ljava/lang/Object;") (by simp [Bundle.ownAtoms0])) e.platform hpl
  obtain ⟨cellS, hcS', heS, -, hkeep⟩ := X.same.2.2.2.2.2 T.aS cellS0 hcS0
  have hcellS : W.heap[T.aS]? = some cellS := hcS'
  have hout' : ∀ i, (⟨T.aS, i⟩ : Loc) ∉ locs := fun i hmem => by
    have := hlocs _ hmem cellS0 hcS0
    rw [hiss] at this; cases this
  have hknownS : cellS.vm ≠ .unknown := by
    rw [heS]; intro hu
    rw [show cellS0.vm = .unknown from hu] at hiss
    cases hiss
  have hneS : T.aS ≠ a := Nat.ne_of_lt (Nat.lt_of_lt_of_le (Array.getElem?_eq_some_iff.mp hcS0).1 hnew)
  obtain ⟨iM, hffM⟩ := Y.msg
  obtain ⟨tyC, dC, hdC, hdnC⟩ := Cond.laysAt hfound hk Y.cause (a' (.lays cls Bundle.tN "cause" "Ljava/lang/Throwable;") (by simp [Bundle.ownAtoms0]))
  obtain ⟨tyS, dS, hdS, hdnS⟩ := Cond.laysAt hfound hk Y.stack (a' (.lays cls Bundle.tN "stackTrace" Bundle.steD) (by simp [Bundle.ownAtoms0]))
  obtain ⟨tyP, dP, hdP, hdnP⟩ := Cond.laysAt hfound hk Y.supp (a' (.lays cls Bundle.tN "suppressedExceptions" Bundle.listD) (by simp [Bundle.ownAtoms0]))
  obtain ⟨tyM, dM, hdM, hdnM⟩ := Cond.laysAt hfound hk hffM (a' (.lays cls Bundle.tN "detailMessage" "Ljava/lang/String;") (by simp [Bundle.ownAtoms0]))
  obtain ⟨tyB, dB, hdB, hdnB⟩ := Cond.laysAt hfound hk hffB (a' (.lays cls Bundle.tN "backtrace" "Ljava/lang/Object;") (by simp [Bundle.ownAtoms0]))
  have bC := Cond.laysApart hdB hdC hdnB hdnC (by rw [hnB, Y.causeName]; decide)
  have bS := Cond.laysApart hdB hdS hdnB hdnS (by rw [hnB, Y.stackName]; decide)
  have bP := Cond.laysApart hdB hdP hdnB hdnP (by rw [hnB, Y.suppName]; decide)
  have hskip : SkipFacts T e.platform s (fun u => u) u0 ((preparedCellV T.toThrowableT (freshCell P1.m.cls kX) a u0 sen).withEntry W.cur) :=
    ⟨{ ci198 := ci198, i198 := i198, fBack := fB }, ⟨hk198, hg198, ha198, hsB⟩, by
      have := fresh_default (c := P1.m.cls) tyB
      rw [htB] at this
      simpa [preparedCellV, Cell.setSlot, Cell.withEntry, Array.getElem?_setIfInBounds, bC, bS, bP, bC.symm, bS.symm, bP.symm, defaultValue] using this, fun _ _ => rfl⟩
  obtain ⟨tm, methC, cdC, kC, vm₁, hnC, -, -, -, -, -, -, -, hW₁, st1⟩ := Steps.initCold (tb := p.tables) (e := e) (below := below) (s := s) (U := W) X.here hexec X.warmed hpl hown (t := Bundle.init0 cls) rfl rfl (Bundle.fit_spec hcls).2
    (a' (.methodLink own ic (Bundle.init0 cls)) (by simp [Bundle.ownAtoms0])) (h (.instanceMethod (Bundle.init0 cls)) (by cases names <;> simp [Bundle.ownAtoms0, Bundle.chain0Atoms, Bundle.passAtoms])) (bytes := Bundle.five) (maxL := 1) (h (.code (Bundle.init0 cls) Bundle.five 1 none) (by cases names <;> simp [Bundle.ownAtoms0, Bundle.chain0Atoms, Bundle.passAtoms]))
    (f := g) hg (a := a) (rest := .ref a :: rest) hstack hd6
  cases Option.some.inj (hnC.symm.trans hP1m)
  have X₁ := X.noted hW₁
  obtain ⟨vm₂, X₂, st2⟩ := X₁.ctorPlainOffV hexec (g := { g with stack := .ref a :: rest }) hg hsize T L Z LZ (P1 :: Ps)
    (fun P hP => by rcases List.mem_cons.mp hP with rfl | hP; exact L1; exact hL P hP) ⟨hlink1, hlink⟩ (u0 := u0) (sen := sen) (self := a) (cell := freshCell P1.m.cls kX) (cellS := cellS)
    hcell (fun _ => by simp) (by simp) rfl rfl hsel0 hselF hcellS hneS hknownS (by rw [hkeep _ (hout' _)]; exact hu0) (by rw [hkeep _ (hout' _)]; exact hsen)
    (Takes.of_laid hk hord tyC (by rw [Y.causeType]; rfl)) (Takes.of_laid hk hord tyS (by rw [Y.stackType]; exact fits_refV_array _ u0)) (Takes.of_laid hk hord tyP (by rw [Y.suppType]; exact fits_refV_object _ sen)) Y.objLocals hskip htr [] hd6
    (by simp only [List.length_cons, hlen]; omega) (by simp only [List.length_cons, hlen]; exact hRlocals)
  have hlt : a < ((W.setVm vm₁).setVm vm₂).heap.size := (Array.getElem?_eq_some_iff.mp hcell).1
  refine ⟨(W.setVm vm₁).setVm vm₂, _, _, X₂, fun y hy => ?_, hlt, rfl, rfl, fun target hwalk => st1 _ (fun acts => ?_)⟩
  · simp only [List.mem_cons, List.not_mem_nil, or_false] at hy
    rcases hy with rfl | rfl | rfl | rfl <;> rfl
  · rw [doInvoke_state]
    exact st2 _ hwalk
end VXK
section VXK2
variable {p : Program} {l : Launch} {e : Env} {R : Room} {s : State} {m : MethodId} {args : Array Value} {below : List Frame} {meth : Method} {c : Code} {H : Heap} {locs : List Loc} {cells slots : Nat} {Q : State → Prop}
variable {ls : Array Slot} {rest : List Value} {D : va_G} {cl : List vw_C} {tys : List (ClassId × FieldType)} {ws : va_W}
/-- 'new E("text")' that isn't thrown at once: the object goes on the stack -/
theorem vx_makeS {cc : ByteArray} {pc : Nat} (hexec : p.tables.exec = Jvm.exec) (hb : c.code = cc) (hl : l.stackTraces = false) {own cls text : String} {names : List String} {ik is ic sa ci : Nat} {A : Nat → Prop} {T0 : u_T}
    (hown : s.vm.findClass own = some m.cls) (hcls : Bundle.fit cls = true) (hnames : ∀ n ∈ names, Bundle.fit n = true)
    (hk : (Cond.classLink own ik cls).before args s = true) (hini : (Cond.initialized cls).before args s = true) (hstr : vk_R own is text sa s) (hat : ∀ w ∈ vx_atS own ic cls names, w.before args s = true)
    (hgood : ∀ w ∈ Cond.classLink own ik cls :: Cond.initialized cls :: vx_atS own ic cls names, vx_ot w = true)
    (hU : vx_Zq Bundle.tN "UNASSIGNED_STACK" Bundle.steD A s s.heap) (hN : vx_Zq Bundle.tN "SUPPRESSED_SENTINEL" Bundle.listD A s s.heap) (hS : va_S A s.heap H locs) (hsize : ls.size = c.maxLocals)
    (d0 : decode cc pc = .ok (.new ik, 3)) (d3 : decode cc (pc + 3) = .ok (.dup, 1)) (d4 : decode cc (pc + 4) = .ok (.ldc is, 2)) (d6 : decode cc (pc + 6) = .ok (.invokespecial ic, 3))
    (hK : va_K D cl tys s) (hP : va_P D cl ws H) (hD : va_D A ws) (hA : ∀ q, s.heap.size ≤ q → A q) (hc : cl[ci]? = some (cls, T0, 0))
    (hRframes : names.length + 3 < R.frames) (hRlocals : (rest.map fun v => v.category).sum + (13 * (names.length + 1) + 43) ≤ R.locals) (hRcells : cells + 1 ≤ R.cells) (hRslots : slots + 6 ≤ R.slots)
    (kk : ∀ (q : Nat) (H1 : Heap), va_P D cl (ws ++ [(q, .inr (ci, []))]) H1 → va_D A (ws ++ [(q, .inr (ci, []))]) → va_S A s.heap H1 locs → W p l e R s m args below meth c H1 locs (cells + 1) (slots + 6) Q (F0 m (pc + 9) ls (.ref q :: rest))) :
    W p l e R s m args below meth c H locs cells slots Q (F0 m pc ls rest) := by
  intro T hT X
  subst hT
  have htr : e.platform.stackTraces = false := (show e.platform.stackTraces = l.stackTraces by rw [X.admits.platform]).trans hl
  have Y := vx_rebase X (R' := { frames := R.frames, locals := R.locals, cells := 1, slots := 6 }) (Nat.le_refl _) (Nat.le_refl _) hRcells hRslots
  obtain ⟨s', hA'⟩ : ∃ z, z = (T.setVm s.vm).setFrames (.invoking m args :: below) := ⟨_, rfl⟩
  rw [← hA'] at Y
  have hvm : s'.vm = s.vm := by rw [hA']; rfl
  have hhp : s'.heap = T.heap := by rw [hA']; rfl
  have hW0 : s.WarmedH s'.vm := by rw [hvm]; exact State.WarmedH.refl s
  have hat' : ∀ w ∈ vx_atS own ic cls names, w.before args s' = true := fun w hw => vx_ot_at hW0 hvm.symm (hgood w (List.mem_cons_of_mem _ (List.mem_cons_of_mem _ hw))) (hat w hw)
  have hk' : (Cond.classLink own ik cls).before args s' = true := vx_ot_at hW0 hvm.symm (hgood _ List.mem_cons_self) hk
  have hini' : (Cond.initialized cls).before args s' = true := vx_ot_at hW0 hvm.symm (hgood _ (List.mem_cons_of_mem _ List.mem_cons_self)) hini
  have hU' : vx_Zq Bundle.tN "UNASSIGNED_STACK" Bundle.steD A s' s'.heap := by rw [hhp]; exact vx_Zq.moved hW0.alike (hU.kept hS.2.1)
  have hN' : vx_Zq Bundle.tN "SUPPRESSED_SENTINEL" Bundle.listD A s' s'.heap := by rw [hhp]; exact vx_Zq.moved hW0.alike (hN.kept hS.2.1)
  have h : ∀ w ∈ Bundle.ownAtoms own ic cls names, w.before args s' = true := vx_own hat' (vx_isRefq hU'.1) (vx_isRefq hN'.1) hU'.2.word hN'.2.word
  have hown' : s'.vm.findClass own = some m.cls := by rw [hvm]; exact hown
  have hins : (Cond.instantiable cls 6).before args s' = true := h _ (by simp [Bundle.ownAtoms])
  obtain ⟨vm₁, cX, kX, hfX, hkX, -, -, X₁, st1⟩ := Y.newCold hexec (own := own) (C := cls) (index := ik) (n := 6) hown' hk' hins hini'
    (g := F0 m pc ls rest) rfl (by rw [hb]; exact d0) (Nat.le_refl _) (Nat.le_refl _)
  generalize hT1 : (T.setVm vm₁).pushCell { cls := cX, slots := kX.instanceTypes.map defaultValue, vm := .none } = T1 at X₁ st1
  have hcat : (Value.ref T.heap.size).category = 1 := rfl
  have hcellA : T1.heap[T.heap.size]? = some (freshCell cX kX) := by rw [← hT1]; exact State.heap_pushCell_size _ _
  have d3' : decode c.code (pc + 3) = .ok (.dup, 1) := by rw [hb]; exact d3
  have d4' : decode c.code (pc + 4) = .ok (.ldc is, 2) := by rw [hb]; exact d4
  have hstr' : vk_R own is text sa s' := vk_R.warm hW0 hstr
  obtain ⟨V, ce, L, Z, hL, hlt, hcl9, hvm9, st⟩ := vx_ctorMadeS X₁ hexec htr (own := own) (cls := cls) (names := names) (ic := ic) hown' hcls hnames h (fun x hx => nomatch hx) hfX hkX hcellA (by rw [hhp]; exact Nat.le_refl _) (msg := .ref sa) rfl
    (g := { method := m, pc := pc + 6, locals := ls, stack := .ref sa :: .ref T.heap.size :: .ref T.heap.size :: rest, locked := none }) rfl hsize (rest := rest) rfl
    (by rw [hb]; exact d6) hRframes (by simp only [List.map_cons, List.sum_cons, hcat]; omega)
  have Z0 := Stand.forget (locs := []) Z (fun y hy => by rw [hL y hy, hhp]; exact Nat.le_refl _)
  obtain ⟨f1, f2⟩ := vx_frame Z0.same
  rw [hhp] at f1 f2
  have hcid : ce.cls = D.1 ci := by
    rw [hcl9]
    have h1 := (hK.1 ci _ hc).2.1
    rw [hvm] at hfX
    exact Option.some.inj (hfX.symm.trans h1)
  have hh : (V.setCell T.heap.size ce).heap[T.heap.size]? = some ce := heapAt_setCell_self (s := V) ce hlt
  subst hA'
  have X5 := vx_back9 X Y Z0
  have X6 : Stand p l e R s m args below meth c (V.setCell T.heap.size ce) locs (cells + 1) (slots + 6) := { X5 with same := X5.same.mono (by omega) (by omega) }
  have hk9 : ∀ (k : Nat) (x : Nat × va_E), ws[k]? = some x → (V.setCell T.heap.size ce).heap[x.1]? = T.heap[x.1]? := fun k x hx => f2 x.1 ((hP k x hx).lt) (fun z hz => nomatch hz)
  obtain ⟨t, a1, b1⟩ := kk T.heap.size (V.setCell T.heap.size ce).heap ((hP.kept hk9).app (fun k x hx => by
      have hz : k < 1 := (List.getElem?_eq_some_iff.mp hx).1
      rw [show k = 0 by omega] at hx
      cases hx
      exact ⟨_, hc, ce, hh, hcid, hvm9, fun k hk => absurd hk (Nat.not_lt_zero k)⟩)) (hD.push hP rfl (hA _ hS.1)) ⟨Nat.le_trans hS.1 f1, fun q h1 h2 => (f2 q (Nat.lt_of_lt_of_le h1 hS.1) (fun z hz => nomatch hz)).trans (hS.2.1 q h1 h2), hS.2.2⟩ _ rfl X6
  refine ⟨t, st1 _ ?_, b1⟩
  show Steps p.tables e below (T1.setTop { method := m, pc := pc + 3, locals := ls, stack := .ref T.heap.size :: rest, locked := none }) _
  jvm_step X₁.here [X₁.here.top, hexec, d3', Value.category]
  exact X₁.ldcString hexec (own := own) (text := text) (index := is) (a := sa) hown' hstr'.1 hstr'.2
    (g := { method := m, pc := pc + 4, locals := ls, stack := .ref T.heap.size :: .ref T.heap.size :: rest, locked := none }) rfl d4' _ (st _ a1)
/-- 'new E()' that isn't thrown at once: the object goes on the stack -/
theorem vx_make0 {cc : ByteArray} {pc : Nat} (hexec : p.tables.exec = Jvm.exec) (hb : c.code = cc) (hl : l.stackTraces = false) {own cls : String} {names : List String} {ik ic ci : Nat} {A : Nat → Prop} {T0 : u_T}
    (hown : s.vm.findClass own = some m.cls) (hcls : Bundle.fit cls = true) (hnames : ∀ n ∈ names, Bundle.fit n = true)
    (hk : (Cond.classLink own ik cls).before args s = true) (hini : (Cond.initialized cls).before args s = true) (hat : ∀ w ∈ vx_at0 own ic cls names, w.before args s = true)
    (hgood : ∀ w ∈ Cond.classLink own ik cls :: Cond.initialized cls :: vx_at0 own ic cls names, vx_ot w = true)
    (hU : vx_Zq Bundle.tN "UNASSIGNED_STACK" Bundle.steD A s s.heap) (hN : vx_Zq Bundle.tN "SUPPRESSED_SENTINEL" Bundle.listD A s s.heap) (hS : va_S A s.heap H locs) (hsize : ls.size = c.maxLocals)
    (d0 : decode cc pc = .ok (.new ik, 3)) (d3 : decode cc (pc + 3) = .ok (.dup, 1)) (d4 : decode cc (pc + 4) = .ok (.invokespecial ic, 3))
    (hK : va_K D cl tys s) (hP : va_P D cl ws H) (hD : va_D A ws) (hA : ∀ q, s.heap.size ≤ q → A q) (hc : cl[ci]? = some (cls, T0, 0))
    (hRframes : names.length + 3 < R.frames) (hRlocals : (rest.map fun v => v.category).sum + (13 * (names.length + 1) + 42) ≤ R.locals) (hRcells : cells + 1 ≤ R.cells) (hRslots : slots + 6 ≤ R.slots)
    (kk : ∀ (q : Nat) (H1 : Heap), va_P D cl (ws ++ [(q, .inr (ci, []))]) H1 → va_D A (ws ++ [(q, .inr (ci, []))]) → va_S A s.heap H1 locs → W p l e R s m args below meth c H1 locs (cells + 1) (slots + 6) Q (F0 m (pc + 7) ls (.ref q :: rest))) :
    W p l e R s m args below meth c H locs cells slots Q (F0 m pc ls rest) := by
  intro T hT X
  subst hT
  have htr : e.platform.stackTraces = false := (show e.platform.stackTraces = l.stackTraces by rw [X.admits.platform]).trans hl
  have Y := vx_rebase X (R' := { frames := R.frames, locals := R.locals, cells := 1, slots := 6 }) (Nat.le_refl _) (Nat.le_refl _) hRcells hRslots
  obtain ⟨s', hA'⟩ : ∃ z, z = (T.setVm s.vm).setFrames (.invoking m args :: below) := ⟨_, rfl⟩
  rw [← hA'] at Y
  have hvm : s'.vm = s.vm := by rw [hA']; rfl
  have hhp : s'.heap = T.heap := by rw [hA']; rfl
  have hW0 : s.WarmedH s'.vm := by rw [hvm]; exact State.WarmedH.refl s
  have hat' : ∀ w ∈ vx_at0 own ic cls names, w.before args s' = true := fun w hw => vx_ot_at hW0 hvm.symm (hgood w (List.mem_cons_of_mem _ (List.mem_cons_of_mem _ hw))) (hat w hw)
  have hk' : (Cond.classLink own ik cls).before args s' = true := vx_ot_at hW0 hvm.symm (hgood _ List.mem_cons_self) hk
  have hini' : (Cond.initialized cls).before args s' = true := vx_ot_at hW0 hvm.symm (hgood _ (List.mem_cons_of_mem _ List.mem_cons_self)) hini
  have hU' : vx_Zq Bundle.tN "UNASSIGNED_STACK" Bundle.steD A s' s'.heap := by rw [hhp]; exact vx_Zq.moved hW0.alike (hU.kept hS.2.1)
  have hN' : vx_Zq Bundle.tN "SUPPRESSED_SENTINEL" Bundle.listD A s' s'.heap := by rw [hhp]; exact vx_Zq.moved hW0.alike (hN.kept hS.2.1)
  have h : ∀ w ∈ Bundle.ownAtoms0 own ic cls names, w.before args s' = true := vx_own hat' (vx_isRefq hU'.1) (vx_isRefq hN'.1) hU'.2.word hN'.2.word
  have hown' : s'.vm.findClass own = some m.cls := by rw [hvm]; exact hown
  have hins : (Cond.instantiable cls 6).before args s' = true := h _ (by simp [Bundle.ownAtoms0])
  obtain ⟨vm₁, cX, kX, hfX, hkX, -, -, X₁, st1⟩ := Y.newCold hexec (own := own) (C := cls) (index := ik) (n := 6) hown' hk' hins hini'
    (g := F0 m pc ls rest) rfl (by rw [hb]; exact d0) (Nat.le_refl _) (Nat.le_refl _)
  generalize hT1 : (T.setVm vm₁).pushCell { cls := cX, slots := kX.instanceTypes.map defaultValue, vm := .none } = T1 at X₁ st1
  have hcat : (Value.ref T.heap.size).category = 1 := rfl
  have hcellA : T1.heap[T.heap.size]? = some (freshCell cX kX) := by rw [← hT1]; exact State.heap_pushCell_size _ _
  have d3' : decode c.code (pc + 3) = .ok (.dup, 1) := by rw [hb]; exact d3
  obtain ⟨V, ce, L, Z, hL, hlt, hcl9, hvm9, st⟩ := vx_ctorMade0 X₁ hexec htr (own := own) (cls := cls) (names := names) (ic := ic) hown' hcls hnames h (fun x hx => nomatch hx) hfX hkX hcellA (by rw [hhp]; exact Nat.le_refl _)
    (g := { method := m, pc := pc + 4, locals := ls, stack := .ref T.heap.size :: .ref T.heap.size :: rest, locked := none }) rfl hsize (rest := rest) rfl
    (by rw [hb]; exact d4) hRframes (by simp only [List.map_cons, List.sum_cons, hcat]; omega)
  have Z0 := Stand.forget (locs := []) Z (fun y hy => by rw [hL y hy, hhp]; exact Nat.le_refl _)
  obtain ⟨f1, f2⟩ := vx_frame Z0.same
  rw [hhp] at f1 f2
  have hcid : ce.cls = D.1 ci := by
    rw [hcl9]
    have h1 := (hK.1 ci _ hc).2.1
    rw [hvm] at hfX
    exact Option.some.inj (hfX.symm.trans h1)
  have hh : (V.setCell T.heap.size ce).heap[T.heap.size]? = some ce := heapAt_setCell_self (s := V) ce hlt
  subst hA'
  have X5 := vx_back9 X Y Z0
  have X6 : Stand p l e R s m args below meth c (V.setCell T.heap.size ce) locs (cells + 1) (slots + 6) := { X5 with same := X5.same.mono (by omega) (by omega) }
  have hk9 : ∀ (k : Nat) (x : Nat × va_E), ws[k]? = some x → (V.setCell T.heap.size ce).heap[x.1]? = T.heap[x.1]? := fun k x hx => f2 x.1 ((hP k x hx).lt) (fun z hz => nomatch hz)
  obtain ⟨t, a1, b1⟩ := kk T.heap.size (V.setCell T.heap.size ce).heap ((hP.kept hk9).app (fun k x hx => by
      have hz : k < 1 := (List.getElem?_eq_some_iff.mp hx).1
      rw [show k = 0 by omega] at hx
      cases hx
      exact ⟨_, hc, ce, hh, hcid, hvm9, fun k hk => absurd hk (Nat.not_lt_zero k)⟩)) (hD.push hP rfl (hA _ hS.1)) ⟨Nat.le_trans hS.1 f1, fun q h1 h2 => (f2 q (Nat.lt_of_lt_of_le h1 hS.1) (fun z hz => nomatch hz)).trans (hS.2.1 q h1 h2), hS.2.2⟩ _ rfl X6
  refine ⟨t, st1 _ ?_, b1⟩
  show Steps p.tables e below (T1.setTop { method := m, pc := pc + 3, locals := ls, stack := .ref T.heap.size :: rest, locked := none }) _
  jvm_step X₁.here [X₁.here.top, hexec, d3', Value.category]
  exact st _ a1
/-- 'throw x' of an object that was made before -/
theorem vx_athrow {cc : ByteArray} {pc : Nat} (hexec : p.tables.exec = Jvm.exec) (hb : c.code = cc) {q : Addr} (hdg : decode cc pc = .ok (.athrow, 1)) (k : vx_W p l e R s m args below meth c H locs cells slots Q (F0 m pc ls rest) q) : W p l e R s m args below meth c H locs cells slots Q (F0 m pc ls (.ref q :: rest)) := by
  intro T hT X
  obtain ⟨t, st, hq⟩ := k T hT X
  refine ⟨t, ?_, hq⟩
  have hdg' : decode c.code pc = .ok (.athrow, 1) := by rw [hb]; exact hdg
  jvm_step X.here [X.here.top, hexec, hdg', athrow.wp_sem]
  exact st
end VXK2
/-! ===== END ===== -/
/-! ===== BEGIN a constructor that throws (launches without stack traces) ===== -/
section VXIA
variable {p : Program} {l : Launch} {e : Env} {R : Room} {s : State} {m : MethodId} {args : Array Value} {below : List Frame} {meth : Method} {c : Code} {T : State} {locs : List Loc} {cells slots : Nat}
theorem vx_callI (X : Stand p l e R s m args below meth c T locs cells slots) (hexec : p.tables.exec = Jvm.exec) {own : String} {index : Nat} {y : MethodName} {bytes : ByteArray} {maxL : Nat}
    (hown : s.vm.findClass own = some m.cls) (hy1 : y.name = "<init>") (hlink : (Cond.methodLink own index y).before args s = true) (hinst : (Cond.instanceMethod y).before args s = true)
    (hcode : (Cond.code y bytes maxL none).before args s = true) (hy : y.cls ≠ "java/lang/invoke/MethodHandle" ∧ y.cls ≠ "java/lang/invoke/VarHandle")
    {W9 : Nat} {Pre : Pt → Array Value → Prop} {Post : Pt → Array Value → Option Value → Pt → Prop} {PostX : Pt → Array Value → Addr → Pt → Prop} (hK : vx_Back l R p e below s args y 3 W9 Pre Post PostX)
    {g : JFrame} (hg : g.method = m) (hsize : g.locals.size = c.maxLocals) {a : Addr} {argsL rest : List Value} (hlen : ∀ sig, parseMethodDescriptor y.desc = some sig → argsL.length = sig.parameters.length)
    (hstack : g.stack = argsL.reverse ++ .ref a :: rest) (hW : 2 * g.monitorRoom + (rest.map fun v => v.category).sum ≤ W9) (hdg : decode c.code g.pc = .ok (.invokespecial index, 3))
    (hpre : ∀ vm₁, s.WarmedH vm₁ → Pre ⟨T.setVm vm₁, locs, cells, slots⟩ (Value.ref a :: argsL).toArray) :
    (∃ (v : Option Value) (vm₁ : Vm) (B : Pt), s.WarmedH vm₁ ∧ Stand p l e R s m args below meth c B.U B.locs B.cells B.slots ∧ Post ⟨T.setVm vm₁, locs, cells, slots⟩ (Value.ref a :: argsL).toArray v B ∧
      ∀ target, Steps p.tables e below (B.U.setTop { g with pc := g.pc + 3, stack := v.toList ++ rest }) target → Steps p.tables e below (T.setTop g) target) ∨
    (∃ (q : Addr) (vm₁ : Vm) (B : Pt), s.WarmedH vm₁ ∧ Stand p l e R s m args below meth c B.U B.locs B.cells B.slots ∧ PostX ⟨T.setVm vm₁, locs, cells, slots⟩ (Value.ref a :: argsL).toArray q B ∧
      Steps p.tables e below (T.setTop g) ((B.U.setTop { g with stack := rest }).pushFrame (.throwing q))) := by
  subst hg
  have hpl : e.platform.magicAccessors = ({} : Platform).magicAccessors := by rw [X.admits.platform]
  obtain ⟨mk, methM, cM, kP, vm₁, hnamed, hmethM, hcodeM, -, hlocalsM, -, hkP, -, hW₁, hstep₁⟩ := Steps.initColdArgs (e := e) X.here hexec X.warmed hpl hown hy1 hy hlink hinst hcode (f := g) rfl hlen hstack hdg
  have X₁ := X.noted hW₁
  rcases hK g.method meth c ⟨T.setVm vm₁, locs, cells, slots⟩ { g with stack := rest } (.invokespecial index) mk (Value.ref a :: argsL).toArray X₁ rfl hsize hdg hW (X₁.named hnamed) (hpre vm₁ X₁.warmed) with ⟨v, B, X', hpost, hsteps⟩ | ⟨q, B, X', hpost, hsteps⟩
  · exact Or.inl ⟨v, vm₁, B, X₁.warmed, X', hpost, fun target h => hstep₁ _ fun acts => by rw [doInvoke_state]; exact hsteps.trans h⟩
  · exact Or.inr ⟨q, vm₁, B, X₁.warmed, X', hpost, hstep₁ _ fun acts => by rw [doInvoke_state]; exact hsteps⟩
end VXIA
section VXIB
variable {p : Program} {l : Launch} {e : Env} {R : Room} {s : State} {m : MethodId} {args : Array Value} {below : List Frame} {meth : Method} {c : Code} {H : Heap} {locs : List Loc} {cells slots : Nat}
variable {y : MethodName} {bytes cc : ByteArray} {maxL nL mc ms n index : Nat} {ret : Option FieldType} {ws : List Cond} {rm : Room} {Pc : Array Value → State → Prop} {Qc : Array Value → State → Outcome → State → Prop} {XC : String → State → State → Prop} {free : Addr → Prop} {Ts : List Cond} {own C : String} {b : Addr} {As rest : List Value} {g : JFrame}
theorem vx_runI (S : CallFix p m c cc nL s args Ts own) (hM : vx_Met l y ws rm Pc Qc XC mc ms free) (cw : CallB R s args own index y bytes maxL none ws rm mc ms n ∧ y.name = "<init>" ∧ (Cond.instanceMethod y).before args s = true) (hp : PreS s H Pc (.ref b :: As))
    (hg : g.method = m) (hn : As.length = n) (hsize : g.locals.size = nL) (hstack : g.stack = As.reverse ++ .ref b :: rest) (hW : 2 * g.monitorRoom + (rest.map fun v => v.category).sum ≤ 8) (hdg : decode cc g.pc = .ok (.invokespecial index, 3)) (hf : cells + mc ≤ R.cells ∧ slots + ms ≤ R.slots) :
    vx_Run p l e R s m args below meth c H locs cells slots mc ms g rest (Qc (Value.ref b :: As).toArray) XC free := by
  have hK : vx_Back l R p e below s args y 3 8 (PreOf R mc ms Pc) (PostOf Qc mc ms free) (vx_Post XC mc ms free) := vx_callBack cw.1 hM hp.1
  obtain ⟨⟨-, -, -, -, -, -, hcode, -, hy, hlen, hl⟩, hy1, hin⟩ := cw
  obtain ⟨hx, hb, hml, ho, -⟩ := S
  have hPc := hp.2
  intro T hT X
  rcases vx_callI X hx (bytes := bytes) (maxL := maxL) ho hy1 hl hin hcode hy hK hg (hsize.trans hml.symm) (a := b) (argsL := As) (rest := rest) (fun sig h => hn.trans (hlen sig h)) hstack hW (by rw [hb]; exact hdg)
    (fun vm₁ hW₁ => ⟨hf.1, hf.2, hPc (T.setVm vm₁) hT hW₁⟩) with ⟨v, vm₁, ⟨U', l2, c2, s2⟩, hW₁, X', ⟨g', mk, t, L, e1, e2, hq, h1, hL, h2, h3⟩, st⟩ | ⟨q, vm₁, ⟨U', l2, c2, s2⟩, hW₁, X', ⟨g', mk, t, L, E, ce, e1, e2, hq, hce, hcv, hcl, h1, hL, h2, h3⟩, st⟩
  · dsimp only [Pt.U, Pt.locs, Pt.cells, Pt.slots] at X' e1 e2 h1 h2 h3 st
    subst h1; subst h2; subst h3
    exact Or.inl ⟨v, (T.setVm vm₁).calling g' mk (Value.ref b :: As).toArray, t, U', L, hT, X', hL, e1, e2, hq, st⟩
  · dsimp only [Pt.U, Pt.locs, Pt.cells, Pt.slots] at X' e1 e2 h1 h2 h3 st hcl
    subst h1; subst h2; subst h3
    exact Or.inr ⟨q, (T.setVm vm₁).calling g' mk (Value.ref b :: As).toArray, t, U', L, E, ce, hT, X', hL, e1, e2, hq, hce, hcv, vx_cls hW₁ hcl, st⟩
end VXIB
/-! ===== END ===== -/
/-! ===== BEGIN a private constructor of a nest mate that throws ===== -/
section VXIC
variable {p : Program} {l : Launch} {e : Env} {R : Room} {s : State} {m : MethodId} {args : Array Value} {below : List Frame} {meth : Method} {c : Code} {T : State} {locs : List Loc} {cells slots : Nat}
theorem vx_callIN (X : Stand p l e R s m args below meth c T locs cells slots) (hexec : p.tables.exec = Jvm.exec) {own : String} {index : Nat} {host : String} {y : MethodName} {bytes : ByteArray} {maxL : Nat}
    (hown : s.vm.findClass own = some m.cls) (hy1 : y.name = "<init>") (hlink : (Cond.methodLinkNest own index y host).before args s = true) (hinst : (Cond.instanceMethod y).before args s = true)
    (hcode : (Cond.code y bytes maxL none).before args s = true) (hy : y.cls ≠ "java/lang/invoke/MethodHandle" ∧ y.cls ≠ "java/lang/invoke/VarHandle")
    {W9 : Nat} {Pre : Pt → Array Value → Prop} {Post : Pt → Array Value → Option Value → Pt → Prop} {PostX : Pt → Array Value → Addr → Pt → Prop} (hK : vx_Back l R p e below s args y 3 W9 Pre Post PostX)
    {g : JFrame} (hg : g.method = m) (hsize : g.locals.size = c.maxLocals) {a : Addr} {argsL rest : List Value} (hlen : ∀ sig, parseMethodDescriptor y.desc = some sig → argsL.length = sig.parameters.length)
    (hstack : g.stack = argsL.reverse ++ .ref a :: rest) (hW : 2 * g.monitorRoom + (rest.map fun v => v.category).sum ≤ W9) (hdg : decode c.code g.pc = .ok (.invokespecial index, 3))
    (hpre : ∀ vm₁, s.WarmedH vm₁ → Pre ⟨T.setVm vm₁, locs, cells, slots⟩ (Value.ref a :: argsL).toArray) :
    (∃ (v : Option Value) (vm₁ : Vm) (B : Pt), s.WarmedH vm₁ ∧ Stand p l e R s m args below meth c B.U B.locs B.cells B.slots ∧ Post ⟨T.setVm vm₁, locs, cells, slots⟩ (Value.ref a :: argsL).toArray v B ∧
      ∀ target, Steps p.tables e below (B.U.setTop { g with pc := g.pc + 3, stack := v.toList ++ rest }) target → Steps p.tables e below (T.setTop g) target) ∨
    (∃ (q : Addr) (vm₁ : Vm) (B : Pt), s.WarmedH vm₁ ∧ Stand p l e R s m args below meth c B.U B.locs B.cells B.slots ∧ PostX ⟨T.setVm vm₁, locs, cells, slots⟩ (Value.ref a :: argsL).toArray q B ∧
      Steps p.tables e below (T.setTop g) ((B.U.setTop { g with stack := rest }).pushFrame (.throwing q))) := by
  subst hg
  have hpl : e.platform.magicAccessors = ({} : Platform).magicAccessors := by rw [X.admits.platform]
  obtain ⟨mk, methM, cM, kP, vm₁, hnamed, hmethM, hcodeM, -, hlocalsM, -, hkP, -, hW₁, hstep₁⟩ := Steps.initColdArgsNest (e := e) X.here hexec X.warmed hpl hown hy1 hy hlink hinst hcode (f := g) rfl hlen hstack hdg
  have X₁ := X.noted hW₁
  rcases hK g.method meth c ⟨T.setVm vm₁, locs, cells, slots⟩ { g with stack := rest } (.invokespecial index) mk (Value.ref a :: argsL).toArray X₁ rfl hsize hdg hW (X₁.named hnamed) (hpre vm₁ X₁.warmed) with ⟨v, B, X', hpost, hsteps⟩ | ⟨q, B, X', hpost, hsteps⟩
  · exact Or.inl ⟨v, vm₁, B, X₁.warmed, X', hpost, fun target h => hstep₁ _ fun acts => by rw [doInvoke_state]; exact hsteps.trans h⟩
  · exact Or.inr ⟨q, vm₁, B, X₁.warmed, X', hpost, hstep₁ _ fun acts => by rw [doInvoke_state]; exact hsteps⟩
end VXIC
section VXID
variable {p : Program} {l : Launch} {e : Env} {R : Room} {s : State} {m : MethodId} {args : Array Value} {below : List Frame} {meth : Method} {c : Code} {H : Heap} {locs : List Loc} {cells slots : Nat}
theorem vx_runIN {y : MethodName} {bytes cc : ByteArray} {maxL nL mc ms n index : Nat} {ws : List Cond} {rm : Room} {Pc : Array Value → State → Prop} {Qc : Array Value → State → Outcome → State → Prop} {XC : String → State → State → Prop} {free : Addr → Prop} {Ts : List Cond} {own host : String} {b : Addr} {As rest : List Value} {g : JFrame}
    (S : CallFix p m c cc nL s args Ts own) (hM : vx_Met l y ws rm Pc Qc XC mc ms free) (cw : va_CN R s args own index y host bytes maxL none ws rm mc ms n ∧ y.name = "<init>" ∧ (Cond.instanceMethod y).before args s = true) (hp : PreS s H Pc (.ref b :: As))
    (hg : g.method = m) (hn : As.length = n) (hsize : g.locals.size = nL) (hstack : g.stack = As.reverse ++ .ref b :: rest) (hW : 2 * g.monitorRoom + (rest.map fun v => v.category).sum ≤ 8) (hdg : decode cc g.pc = .ok (.invokespecial index, 3)) (hf : cells + mc ≤ R.cells ∧ slots + ms ≤ R.slots) :
    vx_Run p l e R s m args below meth c H locs cells slots mc ms g rest (Qc (Value.ref b :: As).toArray) XC free := by
  obtain ⟨⟨⟨hrc, hrs, hfr, hlo, hws, hcw⟩, hcode, hini, hy, hlen, hl⟩, hx1, hx2⟩ := cw
  have hK : vx_Back l R p e below s args y 3 8 (PreOf R mc ms Pc) (PostOf Qc mc ms free) (vx_Post XC mc ms free) := vx_back (bytes := bytes) (maxL := maxL) (ret := none) hM hp.1 hrc hrs hfr hlo hws hcw (fun a' U hW => word_at hW (Or.inl (by first | rfl | simp [Cond.onTables, Cond.keeps, Cond.steady])) hini)
  obtain ⟨hx, hb, hml, ho, -⟩ := S
  have hPc := hp.2
  intro T hT X
  rcases vx_callIN X hx (bytes := bytes) (maxL := maxL) ho hx1 hl hx2 hcode hy hK hg (hsize.trans hml.symm) (a := b) (argsL := As) (rest := rest) (fun sig h => hn.trans (hlen sig h)) hstack hW (by rw [hb]; exact hdg)
    (fun vm₁ hW₁ => ⟨hf.1, hf.2, hPc (T.setVm vm₁) hT hW₁⟩) with ⟨v, vm₁, ⟨U', l2, c2, s2⟩, hW₁, X', ⟨g', mk, t, L, e1, e2, hq, h1, hL, h2, h3⟩, st⟩ | ⟨q, vm₁, ⟨U', l2, c2, s2⟩, hW₁, X', ⟨g', mk, t, L, E, ce, e1, e2, hq, hce, hcv, hcl, h1, hL, h2, h3⟩, st⟩
  · dsimp only [Pt.U, Pt.locs, Pt.cells, Pt.slots] at X' e1 e2 h1 h2 h3 st
    subst h1; subst h2; subst h3
    exact Or.inl ⟨v, (T.setVm vm₁).calling g' mk (Value.ref b :: As).toArray, t, U', L, hT, X', hL, e1, e2, hq, st⟩
  · dsimp only [Pt.U, Pt.locs, Pt.cells, Pt.slots] at X' e1 e2 h1 h2 h3 st hcl
    subst h1; subst h2; subst h3
    exact Or.inr ⟨q, (T.setVm vm₁).calling g' mk (Value.ref b :: As).toArray, t, U', L, E, ce, hT, X', hL, e1, e2, hq, hce, hcv, vx_cls hW₁ hcl, st⟩
end VXID
/-! ===== END ===== -/
/-! ===== BEGIN a method of a class above, found by the receiver, that may throw (follows va_callVU, va_runU of this kit) ===== -/
section
variable {p : Program} {l : Launch} {e : Env} {R : Room} {s : State} {m : MethodId} {args : Array Value} {below : List Frame} {meth : Method} {c : Code} {H : Heap} {locs : List Loc} {cells slots : Nat}
theorem vx_callVU {T : State} {locs : List Loc} {cells slots : Nat} (X : Stand p l e R s m args below meth c T locs cells slots) (hexec : p.tables.exec = Jvm.exec) {own C owner : String} {index : Nat} {x y : MethodName} {bytes : ByteArray} {maxL : Nat} {ret : Option FieldType}
    (hown : s.vm.findClass own = some m.cls) (hlink : (Cond.methodLink own index x).before args s = true) (hsame : (Cond.sameMethod x.cls owner x.name x.desc).before args s = true)
    (hd0 : va_Decl s ⟨owner, x.name, x.desc⟩) (howner : owner ≠ "java/lang/invoke/MethodHandle" ∧ owner ≠ "java/lang/invoke/VarHandle")
    (hsel : (Cond.selects C x y).before args s = true) (hinst : (Cond.instanceMethod y).before args s = true) (hcode : (Cond.code y bytes maxL ret).before args s = true)
    {W : Nat} {Pre : Pt → Array Value → Prop} {Post : Pt → Array Value → Option Value → Pt → Prop} {PostX : Pt → Array Value → Addr → Pt → Prop} (hK : vx_Back l R p e below s args y 3 W Pre Post PostX)
    {b : Addr} {cellB : Cell} (hcell : T.heap[b]? = some cellB) (hobj : cellB.vm.isStatics = false) (hcls : s.vm.findClass C = some cellB.cls)
    {g : JFrame} (hg : g.method = m) (hsize : g.locals.size = c.maxLocals) {argsL rest : List Value} (hlen : ∀ sig, parseMethodDescriptor x.desc = some sig → argsL.length = sig.parameters.length)
    (hstack : g.stack = argsL.reverse ++ .ref b :: rest) (hW : 2 * g.monitorRoom + (rest.map fun v => v.category).sum ≤ W) (hdg : decode c.code g.pc = .ok (.invokevirtual index, 3))
    (hpre : ∀ vm₁, s.WarmedH vm₁ → Pre ⟨T.setVm vm₁, locs, cells, slots⟩ (Value.ref b :: argsL).toArray) :
    (∃ (v : Option Value) (vm₁ : Vm) (B : Pt), s.WarmedH vm₁ ∧ Stand p l e R s m args below meth c B.U B.locs B.cells B.slots ∧ Post ⟨T.setVm vm₁, locs, cells, slots⟩ (Value.ref b :: argsL).toArray v B ∧
      ∀ target, Steps p.tables e below (B.U.setTop { g with pc := g.pc + 3, stack := v.toList ++ rest }) target → Steps p.tables e below (T.setTop g) target) ∨
    (∃ (q : Addr) (vm₁ : Vm) (B : Pt), s.WarmedH vm₁ ∧ Stand p l e R s m args below meth c B.U B.locs B.cells B.slots ∧ PostX ⟨T.setVm vm₁, locs, cells, slots⟩ (Value.ref b :: argsL).toArray q B ∧
      Steps p.tables e below (T.setTop g) ((B.U.setTop { g with stack := rest }).pushFrame (.throwing q))) := by
  obtain ⟨r0, r, hn, hrm, hstR, hsigR⟩ := hd0
  obtain ⟨cn, ck, r1, hcn, hck, hni, hf, hn1⟩ := Cond.sameMethod_found hsame
  cases hn.symm.trans hn1
  obtain ⟨mk, methM, hnamed, hmethM, -, habM⟩ := Cond.instanceMethod_spec hinst
  obtain ⟨c2, r2, m2, q1, q2, q3, q4, kP, hkP, hkPi⟩ := Cond.selects_spec hsel
  cases hcls.symm.trans q1
  cases hf.symm.trans q2
  cases hnamed.symm.trans q3
  have hselP : selectMethod e.platform s.vm cellB.cls r0 = .method mk := by rw [Launch.admits_selectMethod X.admits]; exact q4
  obtain ⟨vm₁, X₁, hstep₁⟩ := X.invokevirtualUp hexec hown hlink hsame howner hn hrm hstR (a := b) (cell := cellB) hcell
    (fun z h => by rw [h] at hobj; cases hobj) hselP hmethM habM hkP hkPi (g := g) hg (argsL := argsL) (rest := rest) (hlen _ hsigR) hstack hdg
  rcases hK m meth c ⟨T.setVm vm₁, locs, cells, slots⟩ { g with stack := rest } (.invokevirtual index) mk (Value.ref b :: argsL).toArray X₁ hg hsize hdg hW (X₁.named hnamed) (hpre vm₁ X₁.warmed) with ⟨v, B, X', hpost, hsteps⟩ | ⟨q, B, X', hpost, hsteps⟩
  · exact Or.inl ⟨v, vm₁, B, X₁.warmed, X', hpost, fun target h => hstep₁ _ fun acts => by rw [doInvoke_state]; exact hsteps.trans h⟩
  · exact Or.inr ⟨q, vm₁, B, X₁.warmed, X', hpost, hstep₁ _ fun acts => by rw [doInvoke_state]; exact hsteps⟩
theorem vx_runU {x y : MethodName} {bytes cc : ByteArray} {maxL nL mc ms n index : Nat} {ret : Option FieldType} {ws : List Cond} {rm : Room} {Pc : Array Value → State → Prop} {Qc : Array Value → State → Outcome → State → Prop} {XC : String → State → State → Prop} {free : Addr → Prop} {Ts : List Cond} {own C owner : String} {b : Addr} {As rest : List Value} {g : JFrame}
    (S : CallFix p m c cc nL s args Ts own) (hM : vx_Met l y ws rm Pc Qc XC mc ms free) (cw : va_CU R s args own C owner index x y bytes maxL ret ws rm mc ms n) (hp : PreV s H C b Pc As)
    (hg : g.method = m) (hn : As.length = n) (hsize : g.locals.size = nL) (hstack : g.stack = As.reverse ++ .ref b :: rest) (hW : 2 * g.monitorRoom + (rest.map fun v => v.category).sum ≤ 8) (hdg : decode cc g.pc = .ok (.invokevirtual index, 3)) (hf : cells + mc ≤ R.cells ∧ slots + ms ≤ R.slots) :
    vx_Run p l e R s m args below meth c H locs cells slots mc ms g rest (Qc (Value.ref b :: As).toArray) XC free := by
  obtain ⟨hrc, hrs, hfr, hlo, hws, hcw⟩ := cw.back
  have hini := cw.init
  have hK : vx_Back l R p e below s args y 3 8 (PreOf R mc ms Pc) (PostOf Qc mc ms free) (vx_Post XC mc ms free) := vx_back (bytes := bytes) (maxL := maxL) (ret := ret) hM hp.1 hrc hrs hfr hlo hws hcw (fun a' U hW => word_at hW (Or.inl (by first | rfl | simp [Cond.onTables, Cond.keeps, Cond.steady])) hini)
  obtain ⟨hx, hb, hml, ho, -⟩ := S
  obtain ⟨-, ⟨cellB, hcB, hoB, hclB⟩, hPc⟩ := hp
  intro T hT X
  rcases vx_callVU X hx (C := C) (owner := owner) (bytes := bytes) (maxL := maxL) (ret := ret) ho cw.link cw.same cw.decl cw.notMH cw.sel cw.inst cw.code hK (by rw [hT]; exact hcB) hoB hclB hg (hsize.trans hml.symm) (argsL := As) (rest := rest) (fun sig h => hn.trans (cw.len sig h)) hstack hW (by rw [hb]; exact hdg)
    (fun vm₁ hW₁ => ⟨hf.1, hf.2, hPc (T.setVm vm₁) hT hW₁⟩) with ⟨v, vm₁, ⟨U', l2, c2, s2⟩, hW₁, X', ⟨g', mk, t, L, e1, e2, hq, h1, hL, h2, h3⟩, st⟩ | ⟨q, vm₁, ⟨U', l2, c2, s2⟩, hW₁, X', ⟨g', mk, t, L, E, ce, e1, e2, hq, hce, hcv, hcl, h1, hL, h2, h3⟩, st⟩
  · dsimp only [Pt.U, Pt.locs, Pt.cells, Pt.slots] at X' e1 e2 h1 h2 h3 st
    subst h1; subst h2; subst h3
    exact Or.inl ⟨v, (T.setVm vm₁).calling g' mk (Value.ref b :: As).toArray, t, U', L, hT, X', hL, e1, e2, hq, st⟩
  · dsimp only [Pt.U, Pt.locs, Pt.cells, Pt.slots] at X' e1 e2 h1 h2 h3 st hcl
    subst h1; subst h2; subst h3
    exact Or.inr ⟨q, (T.setVm vm₁).calling g' mk (Value.ref b :: As).toArray, t, U', L, E, ce, hT, X', hL, e1, e2, hq, hce, hcv, vx_cls hW₁ hcl, st⟩
end
/-! ===== END ===== -/
/-! ===== BEGIN super.m(..) that may throw (follows va_callSU, va_runSU) ===== -/
section
variable {p : Program} {l : Launch} {e : Env} {R : Room} {s : State} {m : MethodId} {args : Array Value} {below : List Frame} {meth : Method} {c : Code} {H : Heap} {locs : List Loc} {cells slots : Nat}
theorem vx_callSU {T : State} {locs : List Loc} {cells slots : Nat} (X : Stand p l e R s m args below meth c T locs cells slots) (hexec : p.tables.exec = Jvm.exec) {own : String} {index : Nat} {y : MethodName} {bytes : ByteArray} {maxL : Nat} {ret : Option FieldType}
    (hown : s.vm.findClass own = some m.cls) (hlink : (Cond.methodLink own index y).before args s = true) (hsame : (Cond.sameMethod y.cls y.cls y.name y.desc).before args s = true) (hsup : (Cond.superclass own y.cls).before args s = true)
    (hinst : (Cond.instanceMethod y).before args s = true) (hcode : (Cond.code y bytes maxL ret).before args s = true) (hno : y.name ≠ "<init>")
    {W : Nat} {Pre : Pt → Array Value → Prop} {Post : Pt → Array Value → Option Value → Pt → Prop} {PostX : Pt → Array Value → Addr → Pt → Prop} (hK : vx_Back l R p e below s args y 3 W Pre Post PostX)
    {b : Addr} {cellB : Cell} {kB : Class} (hcell : T.heap[b]? = some cellB) (hobj : cellB.vm.isStatics = false) (hkB : s.vm.classes[cellB.cls]? = some kB)
    {g : JFrame} (hg : g.method = m) (hsize : g.locals.size = c.maxLocals) {argsL rest : List Value} (hlen : ∀ sig, parseMethodDescriptor y.desc = some sig → argsL.length = sig.parameters.length)
    (hstack : g.stack = argsL.reverse ++ .ref b :: rest) (hW : 2 * g.monitorRoom + (rest.map fun v => v.category).sum ≤ W) (hdg : decode c.code g.pc = .ok (.invokespecial index, 3))
    (hpre : ∀ vm₁, s.WarmedH vm₁ → Pre ⟨T.setVm vm₁, locs, cells, slots⟩ (Value.ref b :: argsL).toArray) :
    (∃ (v : Option Value) (vm₁ : Vm) (B : Pt), s.WarmedH vm₁ ∧ Stand p l e R s m args below meth c B.U B.locs B.cells B.slots ∧ Post ⟨T.setVm vm₁, locs, cells, slots⟩ (Value.ref b :: argsL).toArray v B ∧
      ∀ target, Steps p.tables e below (B.U.setTop { g with pc := g.pc + 3, stack := v.toList ++ rest }) target → Steps p.tables e below (T.setTop g) target) ∨
    (∃ (q : Addr) (vm₁ : Vm) (B : Pt), s.WarmedH vm₁ ∧ Stand p l e R s m args below meth c B.U B.locs B.cells B.slots ∧ PostX ⟨T.setVm vm₁, locs, cells, slots⟩ (Value.ref b :: argsL).toArray q B ∧
      Steps p.tables e below (T.setTop g) ((B.U.setTop { g with stack := rest }).pushFrame (.throwing q))) := by
  obtain ⟨mk, methM, hnamed, hmethM, hstM, habM⟩ := Cond.instanceMethod_spec hinst
  obtain ⟨methM', cM, hmethM', -, -, -, -, -, -, hsigM⟩ := Cond.code_spec hnamed hcode
  cases hmethM.symm.trans hmethM'
  obtain ⟨ps, dk, kp, hps, hdk, hkp, hsuper, -, -, hnid⟩ := Cond.superclass_spec hown hsup
  have hn : s.methodNamed? ⟨y.cls, y.name, y.desc⟩ = some mk := hnamed
  have hpm : ps = mk.cls := Option.some.inj (hps.symm.trans (findClass_of_methodNamed hnamed))
  have hsub : s.vm.isSubclass ps mk.cls = true := by rw [hpm]; simp [Vm.isSubclass, Vm.isSubclassAux]
  obtain ⟨vm₁, X₁, hstep₁⟩ := X.invokespecialUp hexec hown hlink hsame hn hmethM hstM habM hno hdk hnid hps hsuper hsub (a := b) (cell := cellB) hcell
    (fun z h => by rw [h] at hobj; cases hobj) hkB (g := g) hg (argsL := argsL) (rest := rest) (hlen _ hsigM) hstack hdg
  rcases hK m meth c ⟨T.setVm vm₁, locs, cells, slots⟩ { g with stack := rest } (.invokespecial index) mk (Value.ref b :: argsL).toArray X₁ hg hsize hdg hW (X₁.named hnamed) (hpre vm₁ X₁.warmed) with ⟨v, B, X', hpost, hsteps⟩ | ⟨q, B, X', hpost, hsteps⟩
  · exact Or.inl ⟨v, vm₁, B, X₁.warmed, X', hpost, fun target h => hstep₁ _ (by rw [doInvoke_state]; exact hsteps.trans h)⟩
  · exact Or.inr ⟨q, vm₁, B, X₁.warmed, X', hpost, hstep₁ _ (by rw [doInvoke_state]; exact hsteps)⟩
theorem vx_runSU {y : MethodName} {bytes cc : ByteArray} {maxL nL mc ms n index : Nat} {ret : Option FieldType} {ws : List Cond} {rm : Room} {Pc : Array Value → State → Prop} {Qc : Array Value → State → Outcome → State → Prop} {XC : String → State → State → Prop} {free : Addr → Prop} {Ts : List Cond} {own C : String} {cC : ClassId} {b : Addr} {As rest : List Value} {g : JFrame}
    (hat : ClassAt s C cC) (S : CallFix p m c cc nL s args Ts own) (hM : vx_Met l y ws rm Pc Qc XC mc ms free) (cw : va_CS R s args own index y bytes maxL ret ws rm mc ms n) (hp : PreV s H C b Pc As)
    (hg : g.method = m) (hn : As.length = n) (hsize : g.locals.size = nL) (hstack : g.stack = As.reverse ++ .ref b :: rest) (hW : 2 * g.monitorRoom + (rest.map fun v => v.category).sum ≤ 8) (hdg : decode cc g.pc = .ok (.invokespecial index, 3)) (hf : cells + mc ≤ R.cells ∧ slots + ms ≤ R.slots) :
    vx_Run p l e R s m args below meth c H locs cells slots mc ms g rest (Qc (Value.ref b :: As).toArray) XC free := by
  obtain ⟨⟨hrc, hrs, hfr, hlo, hws, hcw⟩, hl1, hl2, hl3, hl4, hini, hcode, hno, hlen⟩ := cw
  have hK : vx_Back l R p e below s args y 3 8 (PreOf R mc ms Pc) (PostOf Qc mc ms free) (vx_Post XC mc ms free) := vx_back (bytes := bytes) (maxL := maxL) (ret := ret) hM hp.1 hrc hrs hfr hlo hws hcw (fun a' U hW => word_at hW (Or.inl (by first | rfl | simp [Cond.onTables, Cond.keeps, Cond.steady])) hini)
  obtain ⟨hx, hb, hml, ho, -⟩ := S
  obtain ⟨-, ⟨cellB, hcB, hoB, hclB⟩, hPc⟩ := hp
  obtain ⟨hfc, kB, hkB, -⟩ := hat
  cases hfc.symm.trans hclB
  intro T hT X
  rcases vx_callSU X hx (bytes := bytes) (maxL := maxL) (ret := ret) ho hl1 hl2 hl3 hl4 hcode hno hK (by rw [hT]; exact hcB) hoB hkB hg (hsize.trans hml.symm) (argsL := As) (rest := rest) (fun sig h => hn.trans (hlen sig h)) hstack hW (by rw [hb]; exact hdg)
    (fun vm₁ hW₁ => ⟨hf.1, hf.2, hPc (T.setVm vm₁) hT hW₁⟩) with ⟨v, vm₁, ⟨U', l2, c2, s2⟩, hW₁, X', ⟨g', mk, t, L, e1, e2, hq, h1, hL, h2, h3⟩, st⟩ | ⟨q, vm₁, ⟨U', l2, c2, s2⟩, hW₁, X', ⟨g', mk, t, L, E, ce, e1, e2, hq, hce, hcv, hcl, h1, hL, h2, h3⟩, st⟩
  · dsimp only [Pt.U, Pt.locs, Pt.cells, Pt.slots] at X' e1 e2 h1 h2 h3 st
    subst h1; subst h2; subst h3
    exact Or.inl ⟨v, (T.setVm vm₁).calling g' mk (Value.ref b :: As).toArray, t, U', L, hT, X', hL, e1, e2, hq, st⟩
  · dsimp only [Pt.U, Pt.locs, Pt.cells, Pt.slots] at X' e1 e2 h1 h2 h3 st hcl
    subst h1; subst h2; subst h3
    exact Or.inr ⟨q, (T.setVm vm₁).calling g' mk (Value.ref b :: As).toArray, t, U', L, E, ce, hT, X', hL, e1, e2, hq, hce, hcv, vx_cls hW₁ hcl, st⟩
end
/-! ===== END ===== -/
/-! ===== BEGIN a private method of a nest mate that may throw (follows va_callVN, va_callSN, va_runVN, va_runSN) ===== -/
section
variable {p : Program} {l : Launch} {e : Env} {R : Room} {s : State} {m : MethodId} {args : Array Value} {below : List Frame} {meth : Method} {c : Code} {H : Heap} {locs : List Loc} {cells slots : Nat}
variable {T : State}
theorem vx_callVN (X : Stand p l e R s m args below meth c T locs cells slots) (hexec : p.tables.exec = Jvm.exec) {own C : String} {index : Nat} {host : String} {y : MethodName} {bytes : ByteArray} {maxL : Nat} {ret : Option FieldType}
    (hown : s.vm.findClass own = some m.cls) (hlink : (Cond.methodLinkNest own index y host).before args s = true) (hinst : (Cond.instanceMethod y).before args s = true) (hsel : (Cond.selects C y y).before args s = true)
    (hcode : (Cond.code y bytes maxL ret).before args s = true) (hy : y.cls ≠ "java/lang/invoke/MethodHandle" ∧ y.cls ≠ "java/lang/invoke/VarHandle")
    {W : Nat} {Pre : Pt → Array Value → Prop} {Post : Pt → Array Value → Option Value → Pt → Prop} {PostX : Pt → Array Value → Addr → Pt → Prop} (hK : vx_Back l R p e below s args y 3 W Pre Post PostX)
    {b : Addr} {cellB : Cell} (hcell : T.heap[b]? = some cellB) (hobj : cellB.vm.isStatics = false) (hcls : s.vm.findClass C = some cellB.cls)
    {g : JFrame} (hg : g.method = m) (hsize : g.locals.size = c.maxLocals) {argsL rest : List Value} (hlen : ∀ sig, parseMethodDescriptor y.desc = some sig → argsL.length = sig.parameters.length)
    (hstack : g.stack = argsL.reverse ++ .ref b :: rest) (hW : 2 * g.monitorRoom + (rest.map fun v => v.category).sum ≤ W) (hdg : decode c.code g.pc = .ok (.invokevirtual index, 3))
    (hpre : ∀ vm₁, s.WarmedH vm₁ → Pre ⟨T.setVm vm₁, locs, cells, slots⟩ (Value.ref b :: argsL).toArray) :
    (∃ (v : Option Value) (vm₁ : Vm) (B : Pt), s.WarmedH vm₁ ∧ Stand p l e R s m args below meth c B.U B.locs B.cells B.slots ∧ Post ⟨T.setVm vm₁, locs, cells, slots⟩ (Value.ref b :: argsL).toArray v B ∧
      ∀ target, Steps p.tables e below (B.U.setTop { g with pc := g.pc + 3, stack := v.toList ++ rest }) target → Steps p.tables e below (T.setTop g) target) ∨
    (∃ (q : Addr) (vm₁ : Vm) (B : Pt), s.WarmedH vm₁ ∧ Stand p l e R s m args below meth c B.U B.locs B.cells B.slots ∧ PostX ⟨T.setVm vm₁, locs, cells, slots⟩ (Value.ref b :: argsL).toArray q B ∧
      Steps p.tables e below (T.setTop g) ((B.U.setTop { g with stack := rest }).pushFrame (.throwing q))) := by
  obtain ⟨mk, methM, hnamed, hmethM, hstM, habM⟩ := Cond.instanceMethod_spec hinst
  obtain ⟨methM', cM, hmethM', -, -, -, -, -, -, hsigM⟩ := Cond.code_spec hnamed hcode
  cases hmethM.symm.trans hmethM'
  obtain ⟨c2, r2, m2, q1, q2, q3, q4, kP, hkP, hkPi⟩ := Cond.selects_spec hsel
  cases hcls.symm.trans q1
  cases (State.methodFound?_of_named hnamed hy).symm.trans q2
  cases hnamed.symm.trans q3
  have hselP : selectMethod e.platform s.vm cellB.cls mk = .method mk := by rw [Launch.admits_selectMethod X.admits]; exact q4
  obtain ⟨vm₁, X₁, hstep₁⟩ := X.invokevirtualNest hexec hown hlink hnamed hmethM hstM hkP hkPi hy (a := b) (cell := cellB) hcell
    (fun z h => by rw [h] at hobj; cases hobj) hselP hmethM habM hkP hkPi (g := g) hg (argsL := argsL) (rest := rest) (hlen _ hsigM) hstack hdg
  rcases hK m meth c ⟨T.setVm vm₁, locs, cells, slots⟩ { g with stack := rest } (.invokevirtual index) mk (Value.ref b :: argsL).toArray X₁ hg hsize hdg hW (X₁.named hnamed) (hpre vm₁ X₁.warmed) with ⟨v, B, X', hpost, hsteps⟩ | ⟨q, B, X', hpost, hsteps⟩
  · exact Or.inl ⟨v, vm₁, B, X₁.warmed, X', hpost, fun target h => hstep₁ _ fun acts => by rw [doInvoke_state]; exact hsteps.trans h⟩
  · exact Or.inr ⟨q, vm₁, B, X₁.warmed, X', hpost, hstep₁ _ fun acts => by rw [doInvoke_state]; exact hsteps⟩
theorem vx_callSN (X : Stand p l e R s m args below meth c T locs cells slots) (hexec : p.tables.exec = Jvm.exec) {own : String} {index : Nat} {host : String} {y : MethodName} {bytes : ByteArray} {maxL : Nat} {ret : Option FieldType}
    (hown : s.vm.findClass own = some m.cls) (hlink : (Cond.methodLinkNest own index y host).before args s = true) (hstat : (Cond.static y).before args s = true) (hinit : (Cond.initialized y.cls).before args s = true)
    (hcode : (Cond.code y bytes maxL ret).before args s = true) (hy : y.cls ≠ "java/lang/invoke/MethodHandle" ∧ y.cls ≠ "java/lang/invoke/VarHandle")
    {W : Nat} {Pre : Pt → Array Value → Prop} {Post : Pt → Array Value → Option Value → Pt → Prop} {PostX : Pt → Array Value → Addr → Pt → Prop} (hK : vx_Back l R p e below s args y 3 W Pre Post PostX)
    {g : JFrame} (hg : g.method = m) (hsize : g.locals.size = c.maxLocals) {argsL rest : List Value} (hlen : ∀ sig, parseMethodDescriptor y.desc = some sig → argsL.length = sig.parameters.length)
    (hstack : g.stack = argsL.reverse ++ rest) (hW : 2 * g.monitorRoom + (rest.map fun v => v.category).sum ≤ W) (hdg : decode c.code g.pc = .ok (.invokestatic index, 3))
    (hpre : ∀ vm₁, s.WarmedH vm₁ → Pre ⟨T.setVm vm₁, locs, cells, slots⟩ argsL.toArray) :
    (∃ (v : Option Value) (vm₁ : Vm) (B : Pt), s.WarmedH vm₁ ∧ Stand p l e R s m args below meth c B.U B.locs B.cells B.slots ∧ Post ⟨T.setVm vm₁, locs, cells, slots⟩ argsL.toArray v B ∧
      ∀ target, Steps p.tables e below (B.U.setTop { g with pc := g.pc + 3, stack := v.toList ++ rest }) target → Steps p.tables e below (T.setTop g) target) ∨
    (∃ (q : Addr) (vm₁ : Vm) (B : Pt), s.WarmedH vm₁ ∧ Stand p l e R s m args below meth c B.U B.locs B.cells B.slots ∧ PostX ⟨T.setVm vm₁, locs, cells, slots⟩ argsL.toArray q B ∧
      Steps p.tables e below (T.setTop g) ((B.U.setTop { g with stack := rest }).pushFrame (.throwing q))) := by
  obtain ⟨mk, hnamed⟩ := Cond.code_named hcode
  obtain ⟨methM, cM, hmethM, -, -, -, -, -, -, hsigM⟩ := Cond.code_spec hnamed hcode
  have hstatic : methM.isStatic = true := Cond.static_spec hnamed hmethM hstat
  obtain ⟨kP, hkP, -⟩ := className_of_methodNamed hnamed
  have hinitP : kP.init = .initialized := Cond.initialized_spec (findClass_of_methodNamed hnamed) hkP hinit
  obtain ⟨vm₁, X₁, hstep₁⟩ := X.invokestaticNest hexec hown hlink hnamed hmethM hstatic hkP hinitP hy (g := g) hg (argsL := argsL) (rest := rest) (hlen _ hsigM) hstack hdg
  rcases hK m meth c ⟨T.setVm vm₁, locs, cells, slots⟩ { g with stack := rest } (.invokestatic index) mk argsL.toArray X₁ hg hsize hdg hW (X₁.named hnamed) (hpre vm₁ X₁.warmed) with ⟨v, B, X', hpost, hsteps⟩ | ⟨q, B, X', hpost, hsteps⟩
  · exact Or.inl ⟨v, vm₁, B, X₁.warmed, X', hpost, fun target h => hstep₁ _ fun acts => by rw [doInvoke_state]; exact hsteps.trans h⟩
  · exact Or.inr ⟨q, vm₁, B, X₁.warmed, X', hpost, hstep₁ _ fun acts => by rw [doInvoke_state]; exact hsteps⟩
theorem vx_runVN {y : MethodName} {bytes cc : ByteArray} {maxL nL mc ms n index : Nat} {ret : Option FieldType} {ws : List Cond} {rm : Room} {Pc : Array Value → State → Prop} {Qc : Array Value → State → Outcome → State → Prop} {XC : String → State → State → Prop} {free : Addr → Prop} {Ts : List Cond} {own C host : String} {b : Addr} {As rest : List Value} {g : JFrame}
    (S : CallFix p m c cc nL s args Ts own) (hM : vx_Met l y ws rm Pc Qc XC mc ms free) (cw : va_CN R s args own index y host bytes maxL ret ws rm mc ms n ∧ (Cond.instanceMethod y).before args s = true ∧ (Cond.selects C y y).before args s = true) (hp : PreV s H C b Pc As)
    (hg : g.method = m) (hn : As.length = n) (hsize : g.locals.size = nL) (hstack : g.stack = As.reverse ++ .ref b :: rest) (hW : 2 * g.monitorRoom + (rest.map fun v => v.category).sum ≤ 8) (hdg : decode cc g.pc = .ok (.invokevirtual index, 3)) (hf : cells + mc ≤ R.cells ∧ slots + ms ≤ R.slots) :
    vx_Run p l e R s m args below meth c H locs cells slots mc ms g rest (Qc (Value.ref b :: As).toArray) XC free := by
  obtain ⟨⟨⟨hrc, hrs, hfr, hlo, hws, hcw⟩, hcode, hini, hy, hlen, hl⟩, hx1, hx2⟩ := cw
  have hK : vx_Back l R p e below s args y 3 8 (PreOf R mc ms Pc) (PostOf Qc mc ms free) (vx_Post XC mc ms free) := vx_back (bytes := bytes) (maxL := maxL) (ret := ret) hM hp.1 hrc hrs hfr hlo hws hcw (fun a' U hW => word_at hW (Or.inl (by first | rfl | simp [Cond.onTables, Cond.keeps, Cond.steady])) hini)
  obtain ⟨hx, hb, hml, ho, -⟩ := S
  obtain ⟨-, ⟨cellB, hcB, hoB, hclB⟩, hPc⟩ := hp
  intro T hT X
  rcases vx_callVN X hx (C := C) (bytes := bytes) (maxL := maxL) (ret := ret) ho hl hx1 hx2 hcode hy hK (by rw [hT]; exact hcB) hoB hclB hg (hsize.trans hml.symm) (argsL := As) (rest := rest) (fun sig h => hn.trans (hlen sig h)) hstack hW (by rw [hb]; exact hdg)
    (fun vm₁ hW₁ => ⟨hf.1, hf.2, hPc (T.setVm vm₁) hT hW₁⟩) with ⟨v, vm₁, ⟨U', l2, c2, s2⟩, hW₁, X', ⟨g', mk, t, L, e1, e2, hq, h1, hL, h2, h3⟩, st⟩ | ⟨q, vm₁, ⟨U', l2, c2, s2⟩, hW₁, X', ⟨g', mk, t, L, E, ce, e1, e2, hq, hce, hcv, hcl, h1, hL, h2, h3⟩, st⟩
  · dsimp only [Pt.U, Pt.locs, Pt.cells, Pt.slots] at X' e1 e2 h1 h2 h3 st
    subst h1; subst h2; subst h3
    exact Or.inl ⟨v, (T.setVm vm₁).calling g' mk (Value.ref b :: As).toArray, t, U', L, hT, X', hL, e1, e2, hq, st⟩
  · dsimp only [Pt.U, Pt.locs, Pt.cells, Pt.slots] at X' e1 e2 h1 h2 h3 st hcl
    subst h1; subst h2; subst h3
    exact Or.inr ⟨q, (T.setVm vm₁).calling g' mk (Value.ref b :: As).toArray, t, U', L, E, ce, hT, X', hL, e1, e2, hq, hce, hcv, vx_cls hW₁ hcl, st⟩
theorem vx_runSN {y : MethodName} {bytes cc : ByteArray} {maxL nL mc ms n index : Nat} {ret : Option FieldType} {ws : List Cond} {rm : Room} {Pc : Array Value → State → Prop} {Qc : Array Value → State → Outcome → State → Prop} {XC : String → State → State → Prop} {free : Addr → Prop} {Ts : List Cond} {own host : String} {As rest : List Value} {g : JFrame}
    (S : CallFix p m c cc nL s args Ts own) (hM : vx_Met l y ws rm Pc Qc XC mc ms free) (cw : va_CN R s args own index y host bytes maxL ret ws rm mc ms n ∧ (Cond.static y).before args s = true ∧ True) (hp : PreS s H Pc As)
    (hg : g.method = m) (hn : As.length = n) (hsize : g.locals.size = nL) (hstack : g.stack = As.reverse ++ rest) (hW : 2 * g.monitorRoom + (rest.map fun v => v.category).sum ≤ 8) (hdg : decode cc g.pc = .ok (.invokestatic index, 3)) (hf : cells + mc ≤ R.cells ∧ slots + ms ≤ R.slots) :
    vx_Run p l e R s m args below meth c H locs cells slots mc ms g rest (Qc As.toArray) XC free := by
  obtain ⟨⟨⟨hrc, hrs, hfr, hlo, hws, hcw⟩, hcode, hini, hy, hlen, hl⟩, hx1, hx2⟩ := cw
  have hK : vx_Back l R p e below s args y 3 8 (PreOf R mc ms Pc) (PostOf Qc mc ms free) (vx_Post XC mc ms free) := vx_back (bytes := bytes) (maxL := maxL) (ret := ret) hM hp.1 hrc hrs hfr hlo hws hcw (fun a' U hW => word_at hW (Or.inl (by first | rfl | simp [Cond.onTables, Cond.keeps, Cond.steady])) hini)
  obtain ⟨hx, hb, hml, ho, -⟩ := S
  have hPc := hp.2
  intro T hT X
  rcases vx_callSN X hx (bytes := bytes) (maxL := maxL) (ret := ret) ho hl hx1 hini hcode hy hK hg (hsize.trans hml.symm) (argsL := As) (rest := rest) (fun sig h => hn.trans (hlen sig h)) hstack hW (by rw [hb]; exact hdg)
    (fun vm₁ hW₁ => ⟨hf.1, hf.2, hPc (T.setVm vm₁) hT hW₁⟩) with ⟨v, vm₁, ⟨U', l2, c2, s2⟩, hW₁, X', ⟨g', mk, t, L, e1, e2, hq, h1, hL, h2, h3⟩, st⟩ | ⟨q, vm₁, ⟨U', l2, c2, s2⟩, hW₁, X', ⟨g', mk, t, L, E, ce, e1, e2, hq, hce, hcv, hcl, h1, hL, h2, h3⟩, st⟩
  · dsimp only [Pt.U, Pt.locs, Pt.cells, Pt.slots] at X' e1 e2 h1 h2 h3 st
    subst h1; subst h2; subst h3
    exact Or.inl ⟨v, (T.setVm vm₁).calling g' mk As.toArray, t, U', L, hT, X', hL, e1, e2, hq, st⟩
  · dsimp only [Pt.U, Pt.locs, Pt.cells, Pt.slots] at X' e1 e2 h1 h2 h3 st hcl
    subst h1; subst h2; subst h3
    exact Or.inr ⟨q, (T.setVm vm₁).calling g' mk As.toArray, t, U', L, E, ce, hT, X', hL, e1, e2, hq, hce, hcv, vx_cls hW₁ hcl, st⟩
end
/-! ===== END ===== -/
/-! ===== BEGIN calls by an interface of methods that may throw (vx_callIF, vx_runF follow va_callIF, va_runF of this kit) ===== -/
section
variable {p : Program} {l : Launch} {e : Env} {R : Room} {s : State} {m : MethodId} {args : Array Value} {below : List Frame} {meth : Method} {c : Code} {H : Heap} {locs : List Loc} {cells slots : Nat} {Q : State → Prop}
variable {mc ms : Nat} {free : Addr → Prop} {A0 A1 : Nat → Prop} {H0 : Heap} {a : Array Value} {pc : Nat} {ls : Array Slot} {st0 rest : List Value}
def vx_Run5 (p : Program) (l : Launch) (e : Env) (R : Room) (s : State) (m : MethodId) (args : Array Value) (below : List Frame) (meth : Method) (c : Code) (H : Heap) (locs : List Loc) (cells slots mc ms : Nat) (g : JFrame) (rest : List Value) (Qa : State → Outcome → State → Prop) (XC : String → State → State → Prop) (free : Addr → Prop) : Prop :=
  ∀ T : State, T.heap = H → Stand p l e R s m args below meth c T locs cells slots →
    (∃ (v : Option Value) (st₀ t T' : State) (L : List Loc), st₀.heap = H ∧ Stand p l e R s m args below meth c T' (locs ++ L) (cells + mc) (slots + ms) ∧ (∀ q ∈ L, free q.base) ∧ T'.heap = t.heap ∧ T'.vm = t.vm ∧ Qa st₀ (.returned v) t ∧
      Goes p e below T g T' { g with pc := g.pc + 5, stack := v.toList ++ rest }) ∨
    (∃ (q : Addr) (st₀ t T' : State) (L : List Loc) (E : String) (ce : Cell), st₀.heap = H ∧ Stand p l e R s m args below meth c T' (locs ++ L) (cells + mc) (slots + ms) ∧ (∀ z ∈ L, free z.base) ∧ T'.heap = t.heap ∧ T'.vm = t.vm ∧ XC E st₀ t ∧ t.heap[q]? = some ce ∧ ce.vm = .none ∧ s.vm.findClass E = some ce.cls ∧
      Steps p.tables e below (T.setTop g) ((T'.setTop { g with stack := rest }).pushFrame (.throwing q)))
theorem vx_callIF {T : State} (X : Stand p l e R s m args below meth c T locs cells slots) (hexec : p.tables.exec = Jvm.exec) {own C : String} {index count : Nat} {x y : MethodName} {bytes : ByteArray} {maxL : Nat} {ret : Option FieldType}
    (hown : s.vm.findClass own = some m.cls) (hlink : (Cond.methodLink own index x).before args s = true) (hdecl : (Cond.declares x).before args s = true) (hface : (Cond.interfaceMethod x.cls x.cls x.name x.desc).before args s = true)
    (hsel : (Cond.selects C x y).before args s = true) (hinst : (Cond.instanceMethod y).before args s = true) (hpub : (Cond.publicMethod y).before args s = true) (hunh : (Cond.unhidden C x.name x.desc).before args s = true)
    (hcast : (Cond.castable C x.cls).before args s = true) (hcode : (Cond.code y bytes maxL ret).before args s = true) (hx : x.cls ≠ "java/lang/invoke/MethodHandle" ∧ x.cls ≠ "java/lang/invoke/VarHandle")
    {W9 : Nat} {Pre : Pt → Array Value → Prop} {Post : Pt → Array Value → Option Value → Pt → Prop} {PostX : Pt → Array Value → Addr → Pt → Prop} (hK : vx_Back l R p e below s args y 5 W9 Pre Post PostX)
    {b : Addr} {cellB : Cell} {kB : Class} (hcell : T.heap[b]? = some cellB) (hobj : cellB.vm.isStatics = false) (hcls : s.vm.findClass C = some cellB.cls) (hkB : s.vm.classes[cellB.cls]? = some kB)
    {g : JFrame} (hg : g.method = m) (hsize : g.locals.size = c.maxLocals) {argsL rest : List Value} (hlen : ∀ sig, parseMethodDescriptor x.desc = some sig → argsL.length = sig.parameters.length)
    (hstack : g.stack = argsL.reverse ++ .ref b :: rest) (hW : 2 * g.monitorRoom + (rest.map fun v => v.category).sum ≤ W9) (hdg : decode c.code g.pc = .ok (.invokeinterface index count, 5))
    (hpre : ∀ vm₁, s.WarmedH vm₁ → Pre ⟨T.setVm vm₁, locs, cells, slots⟩ (Value.ref b :: argsL).toArray) :
    (∃ (v : Option Value) (vm₁ : Vm) (B : Pt), s.WarmedH vm₁ ∧ Stand p l e R s m args below meth c B.U B.locs B.cells B.slots ∧ Post ⟨T.setVm vm₁, locs, cells, slots⟩ (Value.ref b :: argsL).toArray v B ∧
      ∀ target, Steps p.tables e below (B.U.setTop { g with pc := g.pc + 5, stack := v.toList ++ rest }) target → Steps p.tables e below (T.setTop g) target) ∨
    (∃ (q : Addr) (vm₁ : Vm) (B : Pt), s.WarmedH vm₁ ∧ Stand p l e R s m args below meth c B.U B.locs B.cells B.slots ∧ PostX ⟨T.setVm vm₁, locs, cells, slots⟩ (Value.ref b :: argsL).toArray q B ∧
      Steps p.tables e below (T.setTop g) ((B.U.setTop { g with stack := rest }).pushFrame (.throwing q))) := by
  obtain ⟨r0, r, hn, hrm, hstR, hsigR⟩ := Cond.declares_spec hdecl
  obtain ⟨cL, kL, r1, hcL, hkL, hiL, hfoundL, hn1⟩ := Cond.interfaceMethod_spec hface
  cases hn.symm.trans hn1
  have hr0cls : r0.cls = cL := Option.some.inj ((findClass_of_methodNamed hn).symm.trans hcL)
  obtain ⟨hnameR, hdescR⟩ := name_of_methodNamed hn hrm
  obtain ⟨mk, methM, hnamed, hmethM, -, habM⟩ := Cond.instanceMethod_spec hinst
  obtain ⟨c2, r2, m2, q1, q2, q3, q4, -⟩ := Cond.selects_spec hsel
  cases hcls.symm.trans q1
  cases hfoundL.symm.trans q2
  cases hnamed.symm.trans q3
  have hselP : selectMethod e.platform s.vm cellB.cls r0 = .method mk := by rw [Launch.admits_selectMethod X.admits]; exact q4
  have hpubM : hasFlag methM.accessFlags Acc.public_ = true := Cond.publicMethod_spec hnamed hmethM hpub
  have hway : ((cellB.cls :: s.vm.superclasses cellB.cls).any fun k => (declaredIn s.vm r.name r.desc k).any fun (_, z) => z.isPrivate || z.isStatic) = false := by
    rw [hnameR, hdescR]; exact Cond.unhidden_spec hcls hunh
  obtain ⟨c3, t3, w1, w2, w3⟩ := Cond.castable_spec hcast
  cases hcls.symm.trans w1
  cases hcL.symm.trans w2
  obtain ⟨vm₁, X₁, hstep₁⟩ := X.invokeinterface hexec hown hlink hn hrm hstR (by rw [hr0cls]; exact hkL) hiL hx (a := b) (cell := cellB) (kcell := kB) hcell
    (fun z h => by rw [h] at hobj; cases hobj) hkB (by rw [hr0cls]; exact w3) hselP hmethM hway hpubM habM (g := g) hg (argsL := argsL) (rest := rest) (hlen _ hsigR) hstack hdg
  rcases hK m meth c ⟨T.setVm vm₁, locs, cells, slots⟩ { g with stack := rest } (.invokeinterface index count) mk (Value.ref b :: argsL).toArray X₁ hg hsize hdg hW (X₁.named hnamed) (hpre vm₁ X₁.warmed) with ⟨v, B, X', hpost, hsteps⟩ | ⟨q, B, X', hpost, hsteps⟩
  · exact Or.inl ⟨v, vm₁, B, X₁.warmed, X', hpost, fun target h => hstep₁ _ fun acts => by rw [doInvoke_state]; exact hsteps.trans h⟩
  · exact Or.inr ⟨q, vm₁, B, X₁.warmed, X', hpost, hstep₁ _ fun acts => by rw [doInvoke_state]; exact hsteps⟩
theorem vx_runF {x y : MethodName} {bytes cc : ByteArray} {maxL nL mc ms n index count : Nat} {ret : Option FieldType} {ws : List Cond} {rm : Room} {Pc : Array Value → State → Prop} {Qc : Array Value → State → Outcome → State → Prop} {XC : String → State → State → Prop} {free : Addr → Prop} {Ts : List Cond} {own C : String} {cC : ClassId} {b : Addr} {As rest : List Value} {g : JFrame}
    (hat : ClassAt s C cC) (S : CallFix p m c cc nL s args Ts own) (hM : vx_Met l y ws rm Pc Qc XC mc ms free) (cw : va_CI R s args own C index x y bytes maxL ret ws rm mc ms n) (hp : PreV s H C b Pc As)
    (hg : g.method = m) (hn : As.length = n) (hsize : g.locals.size = nL) (hstack : g.stack = As.reverse ++ .ref b :: rest) (hW : 2 * g.monitorRoom + (rest.map fun v => v.category).sum ≤ 8) (hdg : decode cc g.pc = .ok (.invokeinterface index count, 5)) (hf : cells + mc ≤ R.cells ∧ slots + ms ≤ R.slots) :
    vx_Run5 p l e R s m args below meth c H locs cells slots mc ms g rest (Qc (Value.ref b :: As).toArray) XC free := by
  obtain ⟨hrc, hrs, hfr, hlo, hws, hcw⟩ := cw.back
  have hini := cw.init
  have hK : vx_Back l R p e below s args y 5 8 (PreOf R mc ms Pc) (PostOf Qc mc ms free) (vx_Post XC mc ms free) := vx_back (bytes := bytes) (maxL := maxL) (ret := ret) hM hp.1 hrc hrs hfr hlo hws hcw (fun a' U hW => word_at hW (Or.inl (by first | rfl | simp [Cond.onTables, Cond.keeps, Cond.steady])) hini)
  obtain ⟨hx, hb, hml, ho, -⟩ := S
  obtain ⟨-, ⟨cellB, hcB, hoB, hclB⟩, hPc⟩ := hp
  obtain ⟨hfc, kB, hkB, -⟩ := hat
  cases hfc.symm.trans hclB
  intro T hT X
  rcases vx_callIF X hx (C := C) (bytes := bytes) (maxL := maxL) (ret := ret) ho cw.link cw.decl cw.face cw.sel cw.inst cw.pub cw.unh cw.cast cw.code cw.notMH hK (by rw [hT]; exact hcB) hoB hclB hkB hg (hsize.trans hml.symm) (argsL := As) (rest := rest) (fun sig h => hn.trans (cw.len sig h)) hstack hW (by rw [hb]; exact hdg)
    (fun vm₁ hW₁ => ⟨hf.1, hf.2, hPc (T.setVm vm₁) hT hW₁⟩) with ⟨v, vm₁, ⟨U', l2, c2, s2⟩, hW₁, X', ⟨g', mk, t, L, e1, e2, hq, h1, hL, h2, h3⟩, st⟩ | ⟨q, vm₁, ⟨U', l2, c2, s2⟩, hW₁, X', ⟨g', mk, t, L, E, ce, e1, e2, hq, hce, hcv, hcl, h1, hL, h2, h3⟩, st⟩
  · dsimp only [Pt.U, Pt.locs, Pt.cells, Pt.slots] at X' e1 e2 h1 h2 h3 st
    subst h1; subst h2; subst h3
    exact Or.inl ⟨v, (T.setVm vm₁).calling g' mk (Value.ref b :: As).toArray, t, U', L, hT, X', hL, e1, e2, hq, st⟩
  · dsimp only [Pt.U, Pt.locs, Pt.cells, Pt.slots] at X' e1 e2 h1 h2 h3 st hcl
    subst h1; subst h2; subst h3
    exact Or.inr ⟨q, (T.setVm vm₁).calling g' mk (Value.ref b :: As).toArray, t, U', L, E, ce, hT, X', hL, e1, e2, hq, hce, hcv, vx_cls hW₁ hcl, st⟩
theorem vx_callFv {S SX : Type} {post : S → Prop} {px : SX → Prop} {B : S → State → Prop} {BX : String → SX → State → Prop} {AX : Nat → Prop} (hr : vx_Run5 p l e R s m args below meth c H locs cells slots mc ms (F0 m pc ls st0) rest (va_Qv post B A1 a) (vx_X px BX AX) free) (hS : va_S A0 H0 H locs) (hA : ∀ q, q < H.size → A1 q → A0 q) (hf : ∀ q, free q → A0 q) (hAX : ∀ q, q < H.size → AX q → A0 q)
    (kx : ∀ (E : String) (ce : Cell) (q9 : Addr) (u : SX) (t : State) (H1 : Heap) (locs1 : List Loc), t.heap = H1 → s.vm.Alike t.vm → px u → BX E u t → H.size ≤ H1.size → (∀ q : Nat, q < H.size → ¬ AX q → H1[q]? = H[q]?) → va_S A0 H0 H1 locs1 → H1[q9]? = some ce → ce.vm = .none → s.vm.findClass E = some ce.cls → vx_W p l e R s m args below meth c H1 locs1 (cells + mc) (slots + ms) Q (F0 m pc ls rest) q9)
    (kk : ∀ (u : S) (t : State) (H1 : Heap) (locs1 : List Loc), t.heap = H1 → s.vm.Alike t.vm → post u → B u t → H.size ≤ H1.size → (∀ q : Nat, q < H.size → ¬ A1 q → H1[q]? = H[q]?) → va_S A0 H0 H1 locs1 → W p l e R s m args below meth c H1 locs1 (cells + mc) (slots + ms) Q (F0 m (pc + 5) ls (rest))) : W p l e R s m args below meth c H locs cells slots Q (F0 m pc ls st0) := by
  intro T hT X
  rcases hr T hT X with ⟨v, st₀, t, T', L, h0, X', hL, e1, e2, ⟨⟨u, hv, hp, hb⟩, hF⟩, st⟩ | ⟨q, st₀, t, T', L, E, ce, h0, X', hL, e1, e2, ⟨u, hp, hb, hF⟩, hce, hcv, hcl, st⟩
  · cases hv
    obtain ⟨k1, k2, k3⟩ := vx_keep h0 e1 hS hA hf hL hF
    obtain ⟨t2, a1, b1⟩ := kk u t T'.heap (locs ++ L) e1.symm (by rw [← e2]; exact X'.warmed.alike) hp hb k1 k2 k3 T' rfl X'
    exact ⟨t2, st t2 a1, b1⟩
  · obtain ⟨k1, k2, k3⟩ := vx_keep h0 e1 hS hAX hf hL hF
    obtain ⟨t2, a1, b1⟩ := kx E ce q u t T'.heap (locs ++ L) e1.symm (by rw [← e2]; exact X'.warmed.alike) hp hb k1 k2 k3 (by rw [e1]; exact hce) hcv hcl T' rfl X'
    exact ⟨t2, st.trans a1, b1⟩
theorem vx_callFi {S SX : Type} {post : Int32 → S → Prop} {px : SX → Prop} {B : S → State → Prop} {BX : String → SX → State → Prop} {AX : Nat → Prop} (hr : vx_Run5 p l e R s m args below meth c H locs cells slots mc ms (F0 m pc ls st0) rest (va_Qi post B A1 a) (vx_X px BX AX) free) (hS : va_S A0 H0 H locs) (hA : ∀ q, q < H.size → A1 q → A0 q) (hf : ∀ q, free q → A0 q) (hAX : ∀ q, q < H.size → AX q → A0 q)
    (kx : ∀ (E : String) (ce : Cell) (q9 : Addr) (u : SX) (t : State) (H1 : Heap) (locs1 : List Loc), t.heap = H1 → s.vm.Alike t.vm → px u → BX E u t → H.size ≤ H1.size → (∀ q : Nat, q < H.size → ¬ AX q → H1[q]? = H[q]?) → va_S A0 H0 H1 locs1 → H1[q9]? = some ce → ce.vm = .none → s.vm.findClass E = some ce.cls → vx_W p l e R s m args below meth c H1 locs1 (cells + mc) (slots + ms) Q (F0 m pc ls rest) q9)
    (kk : ∀ (r : Int32) (u : S) (t : State) (H1 : Heap) (locs1 : List Loc), t.heap = H1 → s.vm.Alike t.vm → post r u → B u t → H.size ≤ H1.size → (∀ q : Nat, q < H.size → ¬ A1 q → H1[q]? = H[q]?) → va_S A0 H0 H1 locs1 → W p l e R s m args below meth c H1 locs1 (cells + mc) (slots + ms) Q (F0 m (pc + 5) ls (.int r :: rest))) : W p l e R s m args below meth c H locs cells slots Q (F0 m pc ls st0) := by
  intro T hT X
  rcases hr T hT X with ⟨v, st₀, t, T', L, h0, X', hL, e1, e2, ⟨⟨r, u, hv, hp, hb⟩, hF⟩, st⟩ | ⟨q, st₀, t, T', L, E, ce, h0, X', hL, e1, e2, ⟨u, hp, hb, hF⟩, hce, hcv, hcl, st⟩
  · cases hv
    obtain ⟨k1, k2, k3⟩ := vx_keep h0 e1 hS hA hf hL hF
    obtain ⟨t2, a1, b1⟩ := kk r u t T'.heap (locs ++ L) e1.symm (by rw [← e2]; exact X'.warmed.alike) hp hb k1 k2 k3 T' rfl X'
    exact ⟨t2, st t2 a1, b1⟩
  · obtain ⟨k1, k2, k3⟩ := vx_keep h0 e1 hS hAX hf hL hF
    obtain ⟨t2, a1, b1⟩ := kx E ce q u t T'.heap (locs ++ L) e1.symm (by rw [← e2]; exact X'.warmed.alike) hp hb k1 k2 k3 (by rw [e1]; exact hce) hcv hcl T' rfl X'
    exact ⟨t2, st.trans a1, b1⟩
theorem vx_callFl {S SX : Type} {post : Int64 → S → Prop} {px : SX → Prop} {B : S → State → Prop} {BX : String → SX → State → Prop} {AX : Nat → Prop} (hr : vx_Run5 p l e R s m args below meth c H locs cells slots mc ms (F0 m pc ls st0) rest (va_Ql post B A1 a) (vx_X px BX AX) free) (hS : va_S A0 H0 H locs) (hA : ∀ q, q < H.size → A1 q → A0 q) (hf : ∀ q, free q → A0 q) (hAX : ∀ q, q < H.size → AX q → A0 q)
    (kx : ∀ (E : String) (ce : Cell) (q9 : Addr) (u : SX) (t : State) (H1 : Heap) (locs1 : List Loc), t.heap = H1 → s.vm.Alike t.vm → px u → BX E u t → H.size ≤ H1.size → (∀ q : Nat, q < H.size → ¬ AX q → H1[q]? = H[q]?) → va_S A0 H0 H1 locs1 → H1[q9]? = some ce → ce.vm = .none → s.vm.findClass E = some ce.cls → vx_W p l e R s m args below meth c H1 locs1 (cells + mc) (slots + ms) Q (F0 m pc ls rest) q9)
    (kk : ∀ (r : Int64) (u : S) (t : State) (H1 : Heap) (locs1 : List Loc), t.heap = H1 → s.vm.Alike t.vm → post r u → B u t → H.size ≤ H1.size → (∀ q : Nat, q < H.size → ¬ A1 q → H1[q]? = H[q]?) → va_S A0 H0 H1 locs1 → W p l e R s m args below meth c H1 locs1 (cells + mc) (slots + ms) Q (F0 m (pc + 5) ls (.long r :: rest))) : W p l e R s m args below meth c H locs cells slots Q (F0 m pc ls st0) := by
  intro T hT X
  rcases hr T hT X with ⟨v, st₀, t, T', L, h0, X', hL, e1, e2, ⟨⟨r, u, hv, hp, hb⟩, hF⟩, st⟩ | ⟨q, st₀, t, T', L, E, ce, h0, X', hL, e1, e2, ⟨u, hp, hb, hF⟩, hce, hcv, hcl, st⟩
  · cases hv
    obtain ⟨k1, k2, k3⟩ := vx_keep h0 e1 hS hA hf hL hF
    obtain ⟨t2, a1, b1⟩ := kk r u t T'.heap (locs ++ L) e1.symm (by rw [← e2]; exact X'.warmed.alike) hp hb k1 k2 k3 T' rfl X'
    exact ⟨t2, st t2 a1, b1⟩
  · obtain ⟨k1, k2, k3⟩ := vx_keep h0 e1 hS hAX hf hL hF
    obtain ⟨t2, a1, b1⟩ := kx E ce q u t T'.heap (locs ++ L) e1.symm (by rw [← e2]; exact X'.warmed.alike) hp hb k1 k2 k3 (by rw [e1]; exact hce) hcv hcl T' rfl X'
    exact ⟨t2, st.trans a1, b1⟩
theorem vx_callFf {S SX : Type} {post : UInt32 → S → Prop} {px : SX → Prop} {B : S → State → Prop} {BX : String → SX → State → Prop} {AX : Nat → Prop} (hr : vx_Run5 p l e R s m args below meth c H locs cells slots mc ms (F0 m pc ls st0) rest (va_Qf post B A1 a) (vx_X px BX AX) free) (hS : va_S A0 H0 H locs) (hA : ∀ q, q < H.size → A1 q → A0 q) (hf : ∀ q, free q → A0 q) (hAX : ∀ q, q < H.size → AX q → A0 q)
    (kx : ∀ (E : String) (ce : Cell) (q9 : Addr) (u : SX) (t : State) (H1 : Heap) (locs1 : List Loc), t.heap = H1 → s.vm.Alike t.vm → px u → BX E u t → H.size ≤ H1.size → (∀ q : Nat, q < H.size → ¬ AX q → H1[q]? = H[q]?) → va_S A0 H0 H1 locs1 → H1[q9]? = some ce → ce.vm = .none → s.vm.findClass E = some ce.cls → vx_W p l e R s m args below meth c H1 locs1 (cells + mc) (slots + ms) Q (F0 m pc ls rest) q9)
    (kk : ∀ (r : UInt32) (u : S) (t : State) (H1 : Heap) (locs1 : List Loc), t.heap = H1 → s.vm.Alike t.vm → post r u → B u t → H.size ≤ H1.size → (∀ q : Nat, q < H.size → ¬ A1 q → H1[q]? = H[q]?) → va_S A0 H0 H1 locs1 → W p l e R s m args below meth c H1 locs1 (cells + mc) (slots + ms) Q (F0 m (pc + 5) ls (.float r :: rest))) : W p l e R s m args below meth c H locs cells slots Q (F0 m pc ls st0) := by
  intro T hT X
  rcases hr T hT X with ⟨v, st₀, t, T', L, h0, X', hL, e1, e2, ⟨⟨r, u, hv, hp, hb⟩, hF⟩, st⟩ | ⟨q, st₀, t, T', L, E, ce, h0, X', hL, e1, e2, ⟨u, hp, hb, hF⟩, hce, hcv, hcl, st⟩
  · cases hv
    obtain ⟨k1, k2, k3⟩ := vx_keep h0 e1 hS hA hf hL hF
    obtain ⟨t2, a1, b1⟩ := kk r u t T'.heap (locs ++ L) e1.symm (by rw [← e2]; exact X'.warmed.alike) hp hb k1 k2 k3 T' rfl X'
    exact ⟨t2, st t2 a1, b1⟩
  · obtain ⟨k1, k2, k3⟩ := vx_keep h0 e1 hS hAX hf hL hF
    obtain ⟨t2, a1, b1⟩ := kx E ce q u t T'.heap (locs ++ L) e1.symm (by rw [← e2]; exact X'.warmed.alike) hp hb k1 k2 k3 (by rw [e1]; exact hce) hcv hcl T' rfl X'
    exact ⟨t2, st.trans a1, b1⟩
theorem vx_callFd {S SX : Type} {post : UInt64 → S → Prop} {px : SX → Prop} {B : S → State → Prop} {BX : String → SX → State → Prop} {AX : Nat → Prop} (hr : vx_Run5 p l e R s m args below meth c H locs cells slots mc ms (F0 m pc ls st0) rest (va_Qd post B A1 a) (vx_X px BX AX) free) (hS : va_S A0 H0 H locs) (hA : ∀ q, q < H.size → A1 q → A0 q) (hf : ∀ q, free q → A0 q) (hAX : ∀ q, q < H.size → AX q → A0 q)
    (kx : ∀ (E : String) (ce : Cell) (q9 : Addr) (u : SX) (t : State) (H1 : Heap) (locs1 : List Loc), t.heap = H1 → s.vm.Alike t.vm → px u → BX E u t → H.size ≤ H1.size → (∀ q : Nat, q < H.size → ¬ AX q → H1[q]? = H[q]?) → va_S A0 H0 H1 locs1 → H1[q9]? = some ce → ce.vm = .none → s.vm.findClass E = some ce.cls → vx_W p l e R s m args below meth c H1 locs1 (cells + mc) (slots + ms) Q (F0 m pc ls rest) q9)
    (kk : ∀ (r : UInt64) (u : S) (t : State) (H1 : Heap) (locs1 : List Loc), t.heap = H1 → s.vm.Alike t.vm → post r u → B u t → H.size ≤ H1.size → (∀ q : Nat, q < H.size → ¬ A1 q → H1[q]? = H[q]?) → va_S A0 H0 H1 locs1 → W p l e R s m args below meth c H1 locs1 (cells + mc) (slots + ms) Q (F0 m (pc + 5) ls (.double r :: rest))) : W p l e R s m args below meth c H locs cells slots Q (F0 m pc ls st0) := by
  intro T hT X
  rcases hr T hT X with ⟨v, st₀, t, T', L, h0, X', hL, e1, e2, ⟨⟨r, u, hv, hp, hb⟩, hF⟩, st⟩ | ⟨q, st₀, t, T', L, E, ce, h0, X', hL, e1, e2, ⟨u, hp, hb, hF⟩, hce, hcv, hcl, st⟩
  · cases hv
    obtain ⟨k1, k2, k3⟩ := vx_keep h0 e1 hS hA hf hL hF
    obtain ⟨t2, a1, b1⟩ := kk r u t T'.heap (locs ++ L) e1.symm (by rw [← e2]; exact X'.warmed.alike) hp hb k1 k2 k3 T' rfl X'
    exact ⟨t2, st t2 a1, b1⟩
  · obtain ⟨k1, k2, k3⟩ := vx_keep h0 e1 hS hAX hf hL hF
    obtain ⟨t2, a1, b1⟩ := kx E ce q u t T'.heap (locs ++ L) e1.symm (by rw [← e2]; exact X'.warmed.alike) hp hb k1 k2 k3 (by rw [e1]; exact hce) hcv hcl T' rfl X'
    exact ⟨t2, st.trans a1, b1⟩
end
/-! ===== END ===== -/
/-! ===== BEGIN by an interface, a method with a table of its own that may throw (follows va_callIFW, va_runFW) ===== -/
section
variable {p : Program} {l : Launch} {e : Env} {R : Room} {s : State} {m : MethodId} {args : Array Value} {below : List Frame} {meth : Method} {c : Code} {H : Heap} {locs : List Loc} {cells slots : Nat}
theorem vx_callIFW {T : State} (X : Stand p l e R s m args below meth c T locs cells slots) (hexec : p.tables.exec = Jvm.exec) {own C : String} {index count : Nat} {x y : MethodName} {bytes : ByteArray} {maxL : Nat} {ret : Option FieldType} {hh : List (Nat × Nat × Nat × Nat)}
    (hown : s.vm.findClass own = some m.cls) (hlink : (Cond.methodLink own index x).before args s = true) (hdecl : (Cond.declares x).before args s = true) (hface : (Cond.interfaceMethod x.cls x.cls x.name x.desc).before args s = true)
    (hsel : (Cond.selects C x y).before args s = true) (hinst : (Cond.instanceMethod y).before args s = true) (hpub : (Cond.publicMethod y).before args s = true) (hunh : (Cond.unhidden C x.name x.desc).before args s = true)
    (hcast : (Cond.castable C x.cls).before args s = true) (hcode : (Cond.codeWith y bytes maxL ret hh).before args s = true) (hx : x.cls ≠ "java/lang/invoke/MethodHandle" ∧ x.cls ≠ "java/lang/invoke/VarHandle")
    {W : Nat} {Pre : Pt → Array Value → Prop} {Post : Pt → Array Value → Option Value → Pt → Prop} {PostX : Pt → Array Value → Addr → Pt → Prop} (hK : vx_Back l R p e below s args y 5 W Pre Post PostX)
    {b : Addr} {cellB : Cell} {kB : Class} (hcell : T.heap[b]? = some cellB) (hobj : cellB.vm.isStatics = false) (hcls : s.vm.findClass C = some cellB.cls) (hkB : s.vm.classes[cellB.cls]? = some kB)
    {g : JFrame} (hg : g.method = m) (hsize : g.locals.size = c.maxLocals) {argsL rest : List Value} (hlen : ∀ sig, parseMethodDescriptor x.desc = some sig → argsL.length = sig.parameters.length)
    (hstack : g.stack = argsL.reverse ++ .ref b :: rest) (hW : 2 * g.monitorRoom + (rest.map fun v => v.category).sum ≤ W) (hdg : decode c.code g.pc = .ok (.invokeinterface index count, 5))
    (hpre : ∀ vm₁, s.WarmedH vm₁ → Pre ⟨T.setVm vm₁, locs, cells, slots⟩ (Value.ref b :: argsL).toArray) :
    (∃ (v : Option Value) (vm₁ : Vm) (B : Pt), s.WarmedH vm₁ ∧ Stand p l e R s m args below meth c B.U B.locs B.cells B.slots ∧ Post ⟨T.setVm vm₁, locs, cells, slots⟩ (Value.ref b :: argsL).toArray v B ∧
      ∀ target, Steps p.tables e below (B.U.setTop { g with pc := g.pc + 5, stack := v.toList ++ rest }) target → Steps p.tables e below (T.setTop g) target) ∨
    (∃ (q : Addr) (vm₁ : Vm) (B : Pt), s.WarmedH vm₁ ∧ Stand p l e R s m args below meth c B.U B.locs B.cells B.slots ∧ PostX ⟨T.setVm vm₁, locs, cells, slots⟩ (Value.ref b :: argsL).toArray q B ∧
      Steps p.tables e below (T.setTop g) ((B.U.setTop { g with stack := rest }).pushFrame (.throwing q))) := by
  obtain ⟨r0, r, hn, hrm, hstR, hsigR⟩ := Cond.declares_spec hdecl
  obtain ⟨cL, kL, r1, hcL, hkL, hiL, hfoundL, hn1⟩ := Cond.interfaceMethod_spec hface
  cases hn.symm.trans hn1
  have hr0cls : r0.cls = cL := Option.some.inj ((findClass_of_methodNamed hn).symm.trans hcL)
  obtain ⟨hnameR, hdescR⟩ := name_of_methodNamed hn hrm
  obtain ⟨mk, methM, hnamed, hmethM, -, habM⟩ := Cond.instanceMethod_spec hinst
  obtain ⟨c2, r2, m2, q1, q2, q3, q4, -⟩ := Cond.selects_spec hsel
  cases hcls.symm.trans q1
  cases hfoundL.symm.trans q2
  cases hnamed.symm.trans q3
  have hselP : selectMethod e.platform s.vm cellB.cls r0 = .method mk := by rw [Launch.admits_selectMethod X.admits]; exact q4
  have hpubM : hasFlag methM.accessFlags Acc.public_ = true := Cond.publicMethod_spec hnamed hmethM hpub
  have hway : ((cellB.cls :: s.vm.superclasses cellB.cls).any fun k => (declaredIn s.vm r.name r.desc k).any fun (_, z) => z.isPrivate || z.isStatic) = false := by
    rw [hnameR, hdescR]; exact Cond.unhidden_spec hcls hunh
  obtain ⟨c3, t3, w1, w2, w3⟩ := Cond.castable_spec hcast
  cases hcls.symm.trans w1
  cases hcL.symm.trans w2
  obtain ⟨vm₁, X₁, hstep₁⟩ := X.invokeinterface hexec hown hlink hn hrm hstR (by rw [hr0cls]; exact hkL) hiL hx (a := b) (cell := cellB) (kcell := kB) hcell
    (fun z h => by rw [h] at hobj; cases hobj) hkB (by rw [hr0cls]; exact w3) hselP hmethM hway hpubM habM (g := g) hg (argsL := argsL) (rest := rest) (hlen _ hsigR) hstack hdg
  rcases hK m meth c ⟨T.setVm vm₁, locs, cells, slots⟩ { g with stack := rest } (.invokeinterface index count) mk (Value.ref b :: argsL).toArray X₁ hg hsize hdg hW (X₁.named hnamed) (hpre vm₁ X₁.warmed) with ⟨v, B, X', hpost, hsteps⟩ | ⟨q, B, X', hpost, hsteps⟩
  · exact Or.inl ⟨v, vm₁, B, X₁.warmed, X', hpost, fun target h => hstep₁ _ fun acts => by rw [doInvoke_state]; exact hsteps.trans h⟩
  · exact Or.inr ⟨q, vm₁, B, X₁.warmed, X', hpost, hstep₁ _ fun acts => by rw [doInvoke_state]; exact hsteps⟩
theorem vx_runFW {x y : MethodName} {bytes cc : ByteArray} {maxL nL mc ms n index count : Nat} {ret : Option FieldType} {hh : List (Nat × Nat × Nat × Nat)} {ws : List Cond} {rm : Room} {Pc : Array Value → State → Prop} {Qc : Array Value → State → Outcome → State → Prop} {XC : String → State → State → Prop} {free : Addr → Prop} {Ts : List Cond} {own C : String} {cC : ClassId} {b : Addr} {As rest : List Value} {g : JFrame}
    (hat : ClassAt s C cC) (S : CallFix p m c cc nL s args Ts own) (hM : vx_Met l y ws rm Pc Qc XC mc ms free) (cw : va_CIW R s args own C index x y bytes maxL ret hh ws rm mc ms n) (hp : PreV s H C b Pc As)
    (hg : g.method = m) (hn : As.length = n) (hsize : g.locals.size = nL) (hstack : g.stack = As.reverse ++ .ref b :: rest) (hW : 2 * g.monitorRoom + (rest.map fun v => v.category).sum ≤ 8) (hdg : decode cc g.pc = .ok (.invokeinterface index count, 5)) (hf : cells + mc ≤ R.cells ∧ slots + ms ≤ R.slots) :
    vx_Run5 p l e R s m args below meth c H locs cells slots mc ms g rest (Qc (Value.ref b :: As).toArray) XC free := by
  obtain ⟨hrc, hrs, hfr, hlo, hws, hcw⟩ := cw.back
  have hini := cw.init
  have hK : vx_Back l R p e below s args y 5 8 (PreOf R mc ms Pc) (PostOf Qc mc ms free) (vx_Post XC mc ms free) := vx_backW (hh := hh) (bytes := bytes) (maxL := maxL) (ret := ret) hM hp.1 hrc hrs hfr hlo hws hcw (fun a' U hW => word_at hW (Or.inl (by first | rfl | simp [Cond.onTables, Cond.keeps, Cond.steady])) hini)
  obtain ⟨hx, hb, hml, ho, -⟩ := S
  obtain ⟨-, ⟨cellB, hcB, hoB, hclB⟩, hPc⟩ := hp
  obtain ⟨hfc, kB, hkB, -⟩ := hat
  cases hfc.symm.trans hclB
  intro T hT X
  rcases vx_callIFW X hx (C := C) (hh := hh) (bytes := bytes) (maxL := maxL) (ret := ret) ho cw.link cw.decl cw.face cw.sel cw.inst cw.pub cw.unh cw.cast cw.code cw.notMH hK (by rw [hT]; exact hcB) hoB hclB hkB hg (hsize.trans hml.symm) (argsL := As) (rest := rest) (fun sig h => hn.trans (cw.len sig h)) hstack hW (by rw [hb]; exact hdg)
    (fun vm₁ hW₁ => ⟨hf.1, hf.2, hPc (T.setVm vm₁) hT hW₁⟩) with ⟨v, vm₁, ⟨U', l2, c2, s2⟩, hW₁, X', ⟨g', mk, t, L, e1, e2, hq, h1, hL, h2, h3⟩, st⟩ | ⟨q, vm₁, ⟨U', l2, c2, s2⟩, hW₁, X', ⟨g', mk, t, L, E, ce, e1, e2, hq, hce, hcv, hcl, h1, hL, h2, h3⟩, st⟩
  · dsimp only [Pt.U, Pt.locs, Pt.cells, Pt.slots] at X' e1 e2 h1 h2 h3 st
    subst h1; subst h2; subst h3
    exact Or.inl ⟨v, (T.setVm vm₁).calling g' mk (Value.ref b :: As).toArray, t, U', L, hT, X', hL, e1, e2, hq, st⟩
  · dsimp only [Pt.U, Pt.locs, Pt.cells, Pt.slots] at X' e1 e2 h1 h2 h3 st hcl
    subst h1; subst h2; subst h3
    exact Or.inr ⟨q, (T.setVm vm₁).calling g' mk (Value.ref b :: As).toArray, t, U', L, E, ce, hT, X', hL, e1, e2, hq, hce, hcv, vx_cls hW₁ hcl, st⟩
end
/-! ===== END ===== -/
/-! ===== BEGIN .. of methods that hand back an object of the pool ===== -/
section
variable {p : Program} {l : Launch} {e : Env} {R : Room} {s : State} {m : MethodId} {args : Array Value} {below : List Frame} {meth : Method} {c : Code} {H : Heap} {locs : List Loc} {cells slots : Nat} {Q : State → Prop}
variable {mc ms : Nat} {free : Addr → Prop} {A0 A1 : Nat → Prop} {H0 : Heap} {a : Array Value} {pc : Nat} {ls : Array Slot} {st0 rest : List Value}
theorem vx_callq {S SX : Type} {post : Option Nat → S → Prop} {px : SX → Prop} {B : S → State → Prop} {BX : String → SX → State → Prop} {AX : Nat → Prop} (hr : vx_Run p l e R s m args below meth c H locs cells slots mc ms (F0 m pc ls st0) rest (va_Qq post B A1 a) (vx_X px BX AX) free) (hS : va_S A0 H0 H locs) (hA : ∀ q, q < H.size → A1 q → A0 q) (hf : ∀ q, free q → A0 q) (hAX : ∀ q, q < H.size → AX q → A0 q)
    (kx : ∀ (E : String) (ce : Cell) (q9 : Addr) (u : SX) (t : State) (H1 : Heap) (locs1 : List Loc), t.heap = H1 → s.vm.Alike t.vm → px u → BX E u t → H.size ≤ H1.size → (∀ q : Nat, q < H.size → ¬ AX q → H1[q]? = H[q]?) → va_S A0 H0 H1 locs1 → H1[q9]? = some ce → ce.vm = .none → s.vm.findClass E = some ce.cls → vx_W p l e R s m args below meth c H1 locs1 (cells + mc) (slots + ms) Q (F0 m pc ls rest) q9)
    (kk : ∀ (r : Option Nat) (u : S) (t : State) (H1 : Heap) (locs1 : List Loc), t.heap = H1 → s.vm.Alike t.vm → post r u → B u t → H.size ≤ H1.size → (∀ q : Nat, q < H.size → ¬ A1 q → H1[q]? = H[q]?) → va_S A0 H0 H1 locs1 → W p l e R s m args below meth c H1 locs1 (cells + mc) (slots + ms) Q (F0 m (pc + 3) ls (va_rf r :: rest))) : W p l e R s m args below meth c H locs cells slots Q (F0 m pc ls st0) := by
  intro T hT X
  rcases hr T hT X with ⟨v, st₀, t, T', L, h0, X', hL, e1, e2, ⟨⟨r, u, hv, hp, hb⟩, hF⟩, st⟩ | ⟨q, st₀, t, T', L, E, ce, h0, X', hL, e1, e2, ⟨u, hp, hb, hF⟩, hce, hcv, hcl, st⟩
  · cases hv
    obtain ⟨k1, k2, k3⟩ := vx_keep h0 e1 hS hA hf hL hF
    obtain ⟨t2, a1, b1⟩ := kk r u t T'.heap (locs ++ L) e1.symm (by rw [← e2]; exact X'.warmed.alike) hp hb k1 k2 k3 T' rfl X'
    exact ⟨t2, st t2 a1, b1⟩
  · obtain ⟨k1, k2, k3⟩ := vx_keep h0 e1 hS hAX hf hL hF
    obtain ⟨t2, a1, b1⟩ := kx E ce q u t T'.heap (locs ++ L) e1.symm (by rw [← e2]; exact X'.warmed.alike) hp hb k1 k2 k3 (by rw [e1]; exact hce) hcv hcl T' rfl X'
    exact ⟨t2, st.trans a1, b1⟩
end
/-! ===== END ===== -/
/-! ===== BEGIN .. a constant ===== -/
section
variable {p : Program} {l : Launch} {e : Env} {R : Room} {s : State} {m : MethodId} {args : Array Value} {below : List Frame} {meth : Method} {c : Code} {H : Heap} {locs : List Loc} {cells slots : Nat} {Q : State → Prop}
variable {mc ms : Nat} {free : Addr → Prop} {A0 A1 : Nat → Prop} {H0 : Heap} {a : Array Value} {pc : Nat} {ls : Array Slot} {st0 rest : List Value}
theorem vx_calle {ad : Nat → Nat} {S SX : Type} {post : Option Nat → S → Prop} {px : SX → Prop} {B : S → State → Prop} {BX : String → SX → State → Prop} {AX : Nat → Prop} (hr : vx_Run p l e R s m args below meth c H locs cells slots mc ms (F0 m pc ls st0) rest (va_Qe ad post B A1 a) (vx_X px BX AX) free) (hS : va_S A0 H0 H locs) (hA : ∀ q, q < H.size → A1 q → A0 q) (hf : ∀ q, free q → A0 q) (hAX : ∀ q, q < H.size → AX q → A0 q)
    (kx : ∀ (E : String) (ce : Cell) (q9 : Addr) (u : SX) (t : State) (H1 : Heap) (locs1 : List Loc), t.heap = H1 → s.vm.Alike t.vm → px u → BX E u t → H.size ≤ H1.size → (∀ q : Nat, q < H.size → ¬ AX q → H1[q]? = H[q]?) → va_S A0 H0 H1 locs1 → H1[q9]? = some ce → ce.vm = .none → s.vm.findClass E = some ce.cls → vx_W p l e R s m args below meth c H1 locs1 (cells + mc) (slots + ms) Q (F0 m pc ls rest) q9)
    (kk : ∀ (r : Option Nat) (u : S) (t : State) (H1 : Heap) (locs1 : List Loc), t.heap = H1 → s.vm.Alike t.vm → post r u → B u t → H.size ≤ H1.size → (∀ q : Nat, q < H.size → ¬ A1 q → H1[q]? = H[q]?) → va_S A0 H0 H1 locs1 → W p l e R s m args below meth c H1 locs1 (cells + mc) (slots + ms) Q (F0 m (pc + 3) ls (va_re ad r :: rest))) : W p l e R s m args below meth c H locs cells slots Q (F0 m pc ls st0) := by
  intro T hT X
  rcases hr T hT X with ⟨v, st₀, t, T', L, h0, X', hL, e1, e2, ⟨⟨r, u, hv, hp, hb⟩, hF⟩, st⟩ | ⟨q, st₀, t, T', L, E, ce, h0, X', hL, e1, e2, ⟨u, hp, hb, hF⟩, hce, hcv, hcl, st⟩
  · cases hv
    obtain ⟨k1, k2, k3⟩ := vx_keep h0 e1 hS hA hf hL hF
    obtain ⟨t2, a1, b1⟩ := kk r u t T'.heap (locs ++ L) e1.symm (by rw [← e2]; exact X'.warmed.alike) hp hb k1 k2 k3 T' rfl X'
    exact ⟨t2, st t2 a1, b1⟩
  · obtain ⟨k1, k2, k3⟩ := vx_keep h0 e1 hS hAX hf hL hF
    obtain ⟨t2, a1, b1⟩ := kx E ce q u t T'.heap (locs ++ L) e1.symm (by rw [← e2]; exact X'.warmed.alike) hp hb k1 k2 k3 (by rw [e1]; exact hce) hcv hcl T' rfl X'
    exact ⟨t2, st.trans a1, b1⟩
end
/-! ===== END ===== -/
/-! ===== BEGIN .. by an interface, an object ===== -/
section
variable {p : Program} {l : Launch} {e : Env} {R : Room} {s : State} {m : MethodId} {args : Array Value} {below : List Frame} {meth : Method} {c : Code} {H : Heap} {locs : List Loc} {cells slots : Nat} {Q : State → Prop}
variable {mc ms : Nat} {free : Addr → Prop} {A0 A1 : Nat → Prop} {H0 : Heap} {a : Array Value} {pc : Nat} {ls : Array Slot} {st0 rest : List Value}
theorem vx_callFq {S SX : Type} {post : Option Nat → S → Prop} {px : SX → Prop} {B : S → State → Prop} {BX : String → SX → State → Prop} {AX : Nat → Prop} (hr : vx_Run5 p l e R s m args below meth c H locs cells slots mc ms (F0 m pc ls st0) rest (va_Qq post B A1 a) (vx_X px BX AX) free) (hS : va_S A0 H0 H locs) (hA : ∀ q, q < H.size → A1 q → A0 q) (hf : ∀ q, free q → A0 q) (hAX : ∀ q, q < H.size → AX q → A0 q)
    (kx : ∀ (E : String) (ce : Cell) (q9 : Addr) (u : SX) (t : State) (H1 : Heap) (locs1 : List Loc), t.heap = H1 → s.vm.Alike t.vm → px u → BX E u t → H.size ≤ H1.size → (∀ q : Nat, q < H.size → ¬ AX q → H1[q]? = H[q]?) → va_S A0 H0 H1 locs1 → H1[q9]? = some ce → ce.vm = .none → s.vm.findClass E = some ce.cls → vx_W p l e R s m args below meth c H1 locs1 (cells + mc) (slots + ms) Q (F0 m pc ls rest) q9)
    (kk : ∀ (r : Option Nat) (u : S) (t : State) (H1 : Heap) (locs1 : List Loc), t.heap = H1 → s.vm.Alike t.vm → post r u → B u t → H.size ≤ H1.size → (∀ q : Nat, q < H.size → ¬ A1 q → H1[q]? = H[q]?) → va_S A0 H0 H1 locs1 → W p l e R s m args below meth c H1 locs1 (cells + mc) (slots + ms) Q (F0 m (pc + 5) ls (va_rf r :: rest))) : W p l e R s m args below meth c H locs cells slots Q (F0 m pc ls st0) := by
  intro T hT X
  rcases hr T hT X with ⟨v, st₀, t, T', L, h0, X', hL, e1, e2, ⟨⟨r, u, hv, hp, hb⟩, hF⟩, st⟩ | ⟨q, st₀, t, T', L, E, ce, h0, X', hL, e1, e2, ⟨u, hp, hb, hF⟩, hce, hcv, hcl, st⟩
  · cases hv
    obtain ⟨k1, k2, k3⟩ := vx_keep h0 e1 hS hA hf hL hF
    obtain ⟨t2, a1, b1⟩ := kk r u t T'.heap (locs ++ L) e1.symm (by rw [← e2]; exact X'.warmed.alike) hp hb k1 k2 k3 T' rfl X'
    exact ⟨t2, st t2 a1, b1⟩
  · obtain ⟨k1, k2, k3⟩ := vx_keep h0 e1 hS hAX hf hL hF
    obtain ⟨t2, a1, b1⟩ := kx E ce q u t T'.heap (locs ++ L) e1.symm (by rw [← e2]; exact X'.warmed.alike) hp hb k1 k2 k3 (by rw [e1]; exact hce) hcv hcl T' rfl X'
    exact ⟨t2, st.trans a1, b1⟩
end
/-! ===== END ===== -/
/-! ===== BEGIN .. by an interface, a constant ===== -/
section
variable {p : Program} {l : Launch} {e : Env} {R : Room} {s : State} {m : MethodId} {args : Array Value} {below : List Frame} {meth : Method} {c : Code} {H : Heap} {locs : List Loc} {cells slots : Nat} {Q : State → Prop}
variable {mc ms : Nat} {free : Addr → Prop} {A0 A1 : Nat → Prop} {H0 : Heap} {a : Array Value} {pc : Nat} {ls : Array Slot} {st0 rest : List Value}
theorem vx_callFe {ad : Nat → Nat} {S SX : Type} {post : Option Nat → S → Prop} {px : SX → Prop} {B : S → State → Prop} {BX : String → SX → State → Prop} {AX : Nat → Prop} (hr : vx_Run5 p l e R s m args below meth c H locs cells slots mc ms (F0 m pc ls st0) rest (va_Qe ad post B A1 a) (vx_X px BX AX) free) (hS : va_S A0 H0 H locs) (hA : ∀ q, q < H.size → A1 q → A0 q) (hf : ∀ q, free q → A0 q) (hAX : ∀ q, q < H.size → AX q → A0 q)
    (kx : ∀ (E : String) (ce : Cell) (q9 : Addr) (u : SX) (t : State) (H1 : Heap) (locs1 : List Loc), t.heap = H1 → s.vm.Alike t.vm → px u → BX E u t → H.size ≤ H1.size → (∀ q : Nat, q < H.size → ¬ AX q → H1[q]? = H[q]?) → va_S A0 H0 H1 locs1 → H1[q9]? = some ce → ce.vm = .none → s.vm.findClass E = some ce.cls → vx_W p l e R s m args below meth c H1 locs1 (cells + mc) (slots + ms) Q (F0 m pc ls rest) q9)
    (kk : ∀ (r : Option Nat) (u : S) (t : State) (H1 : Heap) (locs1 : List Loc), t.heap = H1 → s.vm.Alike t.vm → post r u → B u t → H.size ≤ H1.size → (∀ q : Nat, q < H.size → ¬ A1 q → H1[q]? = H[q]?) → va_S A0 H0 H1 locs1 → W p l e R s m args below meth c H1 locs1 (cells + mc) (slots + ms) Q (F0 m (pc + 5) ls (va_re ad r :: rest))) : W p l e R s m args below meth c H locs cells slots Q (F0 m pc ls st0) := by
  intro T hT X
  rcases hr T hT X with ⟨v, st₀, t, T', L, h0, X', hL, e1, e2, ⟨⟨r, u, hv, hp, hb⟩, hF⟩, st⟩ | ⟨q, st₀, t, T', L, E, ce, h0, X', hL, e1, e2, ⟨u, hp, hb, hF⟩, hce, hcv, hcl, st⟩
  · cases hv
    obtain ⟨k1, k2, k3⟩ := vx_keep h0 e1 hS hA hf hL hF
    obtain ⟨t2, a1, b1⟩ := kk r u t T'.heap (locs ++ L) e1.symm (by rw [← e2]; exact X'.warmed.alike) hp hb k1 k2 k3 T' rfl X'
    exact ⟨t2, st t2 a1, b1⟩
  · obtain ⟨k1, k2, k3⟩ := vx_keep h0 e1 hS hAX hf hL hF
    obtain ⟨t2, a1, b1⟩ := kx E ce q u t T'.heap (locs ++ L) e1.symm (by rw [← e2]; exact X'.warmed.alike) hp hb k1 k2 k3 (by rw [e1]; exact hce) hcv hcl T' rfl X'
    exact ⟨t2, st.trans a1, b1⟩
end
/-! ===== END ===== -/
/-! ===== BEGIN what the machine throws by itself: null at a field, at athrow ===== -/
section VXM2
variable {p : Program} {l : Launch} {e : Env} {R : Room} {s : State} {m : MethodId} {args : Array Value} {below : List Frame} {meth : Method} {c : Code} {H : Heap} {locs : List Loc} {cells slots : Nat}
variable {Q : State → Prop} {cc : ByteArray} {pc : Nat} {ls : Array Slot} {rest : List Value}
theorem vx_getfN {D cl tys} {own ref C : String} {T : u_T} {N ci index : Nat} {Ts : List Cond} (hexec : p.tables.exec = Jvm.exec) (hb : c.code = cc) (hts : ∀ w ∈ Ts, w.before args s = true) (hin : ∀ w ∈ u_ws C T N, w ∈ Ts) (hown : s.vm.findClass own = some m.cls) (hK : va_K D cl tys s) (hc : cl[ci]? = some (C, T, N)) (k : Nat) (hk : k < N) (hlink : (Cond.fieldLink own index ref (T k).2.1 (T k).2.2.1).before args s = true) (hsame : ∀ x, s.fieldFound? (T k).1 (T k).2.1 (T k).2.2.1 = some x → s.fieldFound? ref (T k).2.1 (T k).2.2.1 = some x) (hdg : decode cc pc = .ok (.getfield index, 3)) (kk : vx_NoteN p l e R s m args below meth c H locs cells slots Q (F0 m pc ls rest)) : W p l e R s m args below meth c H locs cells slots Q (F0 m pc ls (.null :: rest)) := by
  obtain ⟨hS, hfc, kC, hkC, -⟩ := hK.1 ci _ hc
  obtain ⟨cf, kf, fi, f, hi, -⟩ := hS k hk
  intro U hU X
  obtain ⟨vm', X1, st1⟩ := X.getfieldNull hexec hown hlink (hsame _ hi) (u_facts hfc hkC (u_lays hts hin hk) hi).1 (g := F0 m pc ls (.null :: rest)) rfl (rest := rest) rfl (by rw [hb]; exact hdg)
  obtain ⟨t, st, q⟩ := kk (U.setVm vm') hU X1
  exact ⟨t, st1 t st, q⟩
theorem vx_getfNN {D cl tys} {own ref C host : String} {T : u_T} {N ci index : Nat} {Ts : List Cond} (hexec : p.tables.exec = Jvm.exec) (hb : c.code = cc) (hts : ∀ w ∈ Ts, w.before args s = true) (hin : ∀ w ∈ u_ws C T N, w ∈ Ts) (hown : s.vm.findClass own = some m.cls) (hK : va_K D cl tys s) (hc : cl[ci]? = some (C, T, N)) (k : Nat) (hk : k < N) (hlink : (Cond.fieldLinkNest own index ref (T k).2.1 (T k).2.2.1 host).before args s = true) (hsame : ∀ x, s.fieldFound? (T k).1 (T k).2.1 (T k).2.2.1 = some x → s.fieldFound? ref (T k).2.1 (T k).2.2.1 = some x) (hdg : decode cc pc = .ok (.getfield index, 3)) (kk : vx_NoteN p l e R s m args below meth c H locs cells slots Q (F0 m pc ls rest)) : W p l e R s m args below meth c H locs cells slots Q (F0 m pc ls (.null :: rest)) := by
  obtain ⟨hS, hfc, kC, hkC, -⟩ := hK.1 ci _ hc
  obtain ⟨cf, kf, fi, f, hi, -⟩ := hS k hk
  intro U hU X
  obtain ⟨vm', X1, st1⟩ := X.getfieldNullNest hexec hown hlink (hsame _ hi) (u_facts hfc hkC (u_lays hts hin hk) hi).1 (g := F0 m pc ls (.null :: rest)) rfl (rest := rest) rfl (by rw [hb]; exact hdg)
  obtain ⟨t, st, q⟩ := kk (U.setVm vm') hU X1
  exact ⟨t, st1 t st, q⟩
theorem vx_putfN {D cl tys} {own ref C : String} {T : u_T} {N ci index : Nat} {Ts : List Cond} (hexec : p.tables.exec = Jvm.exec) (hb : c.code = cc) (hts : ∀ w ∈ Ts, w.before args s = true) (hin : ∀ w ∈ u_ws C T N, w ∈ Ts) (hown : s.vm.findClass own = some m.cls) (hK : va_K D cl tys s) (hc : cl[ci]? = some (C, T, N)) (k : Nat) (hk : k < N) (hlink : (Cond.fieldLink own index ref (T k).2.1 (T k).2.2.1).before args s = true) (hsame : ∀ x, s.fieldFound? (T k).1 (T k).2.1 (T k).2.2.1 = some x → s.fieldFound? ref (T k).2.1 (T k).2.2.1 = some x) (hfin : (T k).2.2.2 = false) {v : Value} (hdg : decode cc pc = .ok (.putfield index, 3)) (kk : vx_NoteN p l e R s m args below meth c H locs cells slots Q (F0 m pc ls rest)) : W p l e R s m args below meth c H locs cells slots Q (F0 m pc ls (v :: .null :: rest)) := by
  obtain ⟨hS, hfc, kC, hkC, -⟩ := hK.1 ci _ hc
  obtain ⟨cf, kf, fi, f, hi, -⟩ := hS k hk
  have hlay := hts _ (hin _ (u_in_lay hk))
  unfold u_lay at hlay
  rw [if_neg (by rw [hfin]; decide)] at hlay
  obtain ⟨c9, k9, cf9, kf9, fi9, f9, -, -, hi9, hst9, hnf9, -⟩ := Cond.lays_spec hlay
  cases hi.symm.trans hi9
  intro U hU X
  obtain ⟨vm', X1, st1⟩ := X.putfieldNull hexec hown hlink (hsame _ hi) hst9 hnf9 (g := F0 m pc ls (v :: .null :: rest)) rfl (v := v) (rest := rest) rfl (by rw [hb]; exact hdg)
  obtain ⟨t, st, q⟩ := kk (U.setVm vm') hU X1
  exact ⟨t, st1 t st, q⟩
theorem vx_putfNN {D cl tys} {own ref C host : String} {T : u_T} {N ci index : Nat} {Ts : List Cond} (hexec : p.tables.exec = Jvm.exec) (hb : c.code = cc) (hts : ∀ w ∈ Ts, w.before args s = true) (hin : ∀ w ∈ u_ws C T N, w ∈ Ts) (hown : s.vm.findClass own = some m.cls) (hK : va_K D cl tys s) (hc : cl[ci]? = some (C, T, N)) (k : Nat) (hk : k < N) (hlink : (Cond.fieldLinkNest own index ref (T k).2.1 (T k).2.2.1 host).before args s = true) (hsame : ∀ x, s.fieldFound? (T k).1 (T k).2.1 (T k).2.2.1 = some x → s.fieldFound? ref (T k).2.1 (T k).2.2.1 = some x) (hfin : (T k).2.2.2 = false) {v : Value} (hdg : decode cc pc = .ok (.putfield index, 3)) (kk : vx_NoteN p l e R s m args below meth c H locs cells slots Q (F0 m pc ls rest)) : W p l e R s m args below meth c H locs cells slots Q (F0 m pc ls (v :: .null :: rest)) := by
  obtain ⟨hS, hfc, kC, hkC, -⟩ := hK.1 ci _ hc
  obtain ⟨cf, kf, fi, f, hi, -⟩ := hS k hk
  have hlay := hts _ (hin _ (u_in_lay hk))
  unfold u_lay at hlay
  rw [if_neg (by rw [hfin]; decide)] at hlay
  obtain ⟨c9, k9, cf9, kf9, fi9, f9, -, -, hi9, hst9, hnf9, -⟩ := Cond.lays_spec hlay
  cases hi.symm.trans hi9
  intro U hU X
  obtain ⟨vm', X1, st1⟩ := X.putfieldNullNest hexec hown hlink (hsame _ hi) hst9 hnf9 (g := F0 m pc ls (v :: .null :: rest)) rfl (v := v) (rest := rest) rfl (by rw [hb]; exact hdg)
  obtain ⟨t, st, q⟩ := kk (U.setVm vm') hU X1
  exact ⟨t, st1 t st, q⟩
theorem vx_athrowN (hexec : p.tables.exec = Jvm.exec) (hb : c.code = cc) (hdg : decode cc pc = .ok (.athrow, 1)) (k : vx_NoteN p l e R s m args below meth c H locs cells slots Q (F0 m pc ls rest)) : W p l e R s m args below meth c H locs cells slots Q (F0 m pc ls (.null :: rest)) := by
  intro T hT X
  obtain ⟨t, st, q⟩ := k T hT X
  exact ⟨t, X.athrowNull hexec (g := F0 m pc ls (.null :: rest)) rfl (rest := rest) rfl (by rw [hb]; exact hdg) t st, q⟩
end VXM2
/-! ===== END ===== -/
end
section
/-! classes, methods and links, printed by wip/whole/gen_names.py -/
def RX0 : String := "DedupVault$Chunk"
def TX0 : u_T := fun k => match k with
  | 0 => ("DedupVault$Chunk", "number", "I", true)
  | 1 => ("DedupVault$Chunk", "bytes", "LDedupVault$Piece;", true)
  | 2 => ("DedupVault$Chunk", "home", "LDedupVault$Container;", false)
  | _ => ("DedupVault$Chunk", "uses", "I", false)
def tyX0 : Nat → FieldType := fun k => match k with
  | 0 => .int
  | 1 => .object "DedupVault$Piece"
  | 2 => .object "DedupVault$Container"
  | _ => .int
abbrev wsX00 : List Cond := u_ws RX0 TX0 4
theorem nmX0 : ∀ a, a < 4 → ∀ b, b < 4 → a ≠ b → (TX0 a).2.1 ≠ (TX0 b).2.1 := by decide +kernel
theorem tyX0_ok : ∀ k, k < 4 → parseFieldDescriptor (TX0 k).2.2.1 = some (tyX0 k) := by decide +kernel
def RX1 : String := "DedupVault$Container"
def TX1 : u_T := fun k => match k with
  | 0 => ("DedupVault$Container", "number", "I", true)
  | 1 => ("DedupVault$Container", "content", "Ljava/util/ArrayList;", true)
  | _ => ("DedupVault$Container", "filled", "I", false)
def tyX1 : Nat → FieldType := fun k => match k with
  | 0 => .int
  | 1 => .object "java/util/ArrayList"
  | _ => .int
abbrev wsX10 : List Cond := u_ws RX1 TX1 3
theorem nmX1 : ∀ a, a < 3 → ∀ b, b < 3 → a ≠ b → (TX1 a).2.1 ≠ (TX1 b).2.1 := by decide +kernel
theorem tyX1_ok : ∀ k, k < 3 → parseFieldDescriptor (TX1 k).2.2.1 = some (tyX1 k) := by decide +kernel
def RX2 : String := "DedupVault$Piece"
def TX2 : u_T := fun k => match k with
  | 0 => ("DedupVault$Piece", "source", "LDedupVault$Row;", true)
  | 1 => ("DedupVault$Piece", "from", "I", true)
  | 2 => ("DedupVault$Piece", "size", "I", true)
  | _ => ("DedupVault$Piece", "mark", "I", true)
def tyX2 : Nat → FieldType := fun k => match k with
  | 0 => .object "DedupVault$Row"
  | 1 => .int
  | 2 => .int
  | _ => .int
abbrev wsX20 : List Cond := u_ws RX2 TX2 4
theorem nmX2 : ∀ a, a < 4 → ∀ b, b < 4 → a ≠ b → (TX2 a).2.1 ≠ (TX2 b).2.1 := by decide +kernel
theorem tyX2_ok : ∀ k, k < 4 → parseFieldDescriptor (TX2 k).2.2.1 = some (tyX2 k) := by decide +kernel
def RX3 : String := "DedupVault$Row"
def TX3 : u_T := fun k => match k with
  | 0 => ("DedupVault$Row", "cells", "[I", true)
  | _ => ("DedupVault$Row", "size", "I", false)
def tyX3 : Nat → FieldType := fun k => match k with
  | 0 => .array .int
  | _ => .int
abbrev wsX30 : List Cond := u_ws RX3 TX3 2
theorem nmX3 : ∀ a, a < 2 → ∀ b, b < 2 → a ≠ b → (TX3 a).2.1 ≠ (TX3 b).2.1 := by decide +kernel
theorem tyX3_ok : ∀ k, k < 2 → parseFieldDescriptor (TX3 k).2.2.1 = some (tyX3 k) := by decide +kernel
def RX4 : String := "DedupVault$Shelf"
def TX4 : u_T := fun k => match k with
  | 0 => ("DedupVault$Shelf", "boxes", "Ljava/util/ArrayList;", true)
  | 1 => ("DedupVault$Shelf", "recent", "Ljava/util/ArrayList;", true)
  | 2 => ("DedupVault$Shelf", "open", "LDedupVault$Container;", false)
  | 3 => ("DedupVault$Shelf", "nextChunk", "I", false)
  | 4 => ("DedupVault$Shelf", "hits", "I", false)
  | _ => ("DedupVault$Shelf", "reads", "I", false)
def tyX4 : Nat → FieldType := fun k => match k with
  | 0 => .object "java/util/ArrayList"
  | 1 => .object "java/util/ArrayList"
  | 2 => .object "DedupVault$Container"
  | 3 => .int
  | 4 => .int
  | _ => .int
abbrev wsX40 : List Cond := u_ws RX4 TX4 6
theorem nmX4 : ∀ a, a < 6 → ∀ b, b < 6 → a ≠ b → (TX4 a).2.1 ≠ (TX4 b).2.1 := by decide +kernel
theorem tyX4_ok : ∀ k, k < 6 → parseFieldDescriptor (TX4 k).2.2.1 = some (tyX4 k) := by decide +kernel
def RX5 : String := "DedupVault$Version"
def TX5 : u_T := fun k => match k with
  | 0 => ("DedupVault$Version", "file", "I", true)
  | 1 => ("DedupVault$Version", "number", "I", true)
  | 2 => ("DedupVault$Version", "copy", "LDedupVault$Row;", true)
  | 3 => ("DedupVault$Version", "entries", "Ljava/util/ArrayList;", true)
  | _ => ("DedupVault$Version", "base", "LDedupVault$Version;", false)
def tyX5 : Nat → FieldType := fun k => match k with
  | 0 => .int
  | 1 => .int
  | 2 => .object "DedupVault$Row"
  | 3 => .object "java/util/ArrayList"
  | _ => .object "DedupVault$Version"
abbrev wsX50 : List Cond := u_ws RX5 TX5 5
theorem nmX5 : ∀ a, a < 5 → ∀ b, b < 5 → a ≠ b → (TX5 a).2.1 ≠ (TX5 b).2.1 := by decide +kernel
theorem tyX5_ok : ∀ k, k < 5 → parseFieldDescriptor (TX5 k).2.2.1 = some (tyX5 k) := by decide +kernel
def RX6 : String := "DedupVault"
def TX6 : u_T := fun k => match k with
  | 0 => ("DedupVault", "draft", "LDedupVault$Row;", true)
  | 1 => ("DedupVault", "kept", "Ljava/util/ArrayList;", true)
  | 2 => ("DedupVault", "nextNumbers", "[I", true)
  | 3 => ("DedupVault", "shelf", "LDedupVault$Shelf;", true)
  | _ => ("DedupVault", "saves", "I", false)
def tyX6 : Nat → FieldType := fun k => match k with
  | 0 => .object "DedupVault$Row"
  | 1 => .object "java/util/ArrayList"
  | 2 => .array .int
  | 3 => .object "DedupVault$Shelf"
  | _ => .int
abbrev wsX60 : List Cond := u_ws RX6 TX6 5
theorem nmX6 : ∀ a, a < 5 → ∀ b, b < 5 → a ≠ b → (TX6 a).2.1 ≠ (TX6 b).2.1 := by decide +kernel
theorem tyX6_ok : ∀ k, k < 5 → parseFieldDescriptor (TX6 k).2.2.1 = some (tyX6 k) := by decide +kernel
def RX7 : String := "DedupVaultModel"
def TX7 : u_T := fun k => match k with
  | _ => ("", "", "", false)
def tyX7 : Nat → FieldType := fun k => match k with
  | _ => .int
abbrev wsX70 : List Cond := u_ws RX7 TX7 0
theorem nmX7 : ∀ a, a < 0 → ∀ b, b < 0 → a ≠ b → (TX7 a).2.1 ≠ (TX7 b).2.1 := by decide +kernel
theorem tyX7_ok : ∀ k, k < 0 → parseFieldDescriptor (TX7 k).2.2.1 = some (tyX7 k) := by decide +kernel
def RJx4a65c : String := "java/util/ArrayList"
def TJx4a65c : u_T := fun k => match k with
  | 0 => ("java/util/AbstractList", "modCount", "I", false)
  | 1 => ("java/util/ArrayList", "elementData", "[Ljava/lang/Object;", false)
  | _ => ("java/util/ArrayList", "size", "I", false)
def tyJx4a65c : Nat → FieldType := fun k => match k with
  | 0 => .int
  | 1 => .array (.object "java/lang/Object")
  | _ => .int
abbrev wsJx4a65c0 : List Cond := u_ws RJx4a65c TJx4a65c 3
theorem nmJx4a65c : ∀ a, a < 3 → ∀ b, b < 3 → a ≠ b → (TJx4a65c a).2.1 ≠ (TJx4a65c b).2.1 := by decide +kernel
theorem tyJx4a65c_ok : ∀ k, k < 3 → parseFieldDescriptor (TJx4a65c k).2.2.1 = some (tyJx4a65c k) := by decide +kernel
def RL : String := "DedupVaultLaw"
abbrev cJx4a65c_init_da8c8 : ByteArray := prog_23_method_2_code
def yJx4a65c_init_da8c8 : MethodName := ⟨RJx4a65c, "<init>", "()V"⟩
abbrev cJx4a65c_grow_92f84 : ByteArray := prog_23_method_6_code
def yJx4a65c_grow_92f84 : MethodName := ⟨RJx4a65c, "grow", "(I)[Ljava/lang/Object;"⟩
abbrev cJx4a65c_grow_d5877 : ByteArray := prog_23_method_7_code
def yJx4a65c_grow_d5877 : MethodName := ⟨RJx4a65c, "grow", "()[Ljava/lang/Object;"⟩
abbrev cJx4a65c_size_8abf5 : ByteArray := prog_23_method_8_code
def yJx4a65c_size_8abf5 : MethodName := ⟨RJx4a65c, "size", "()I"⟩
abbrev cJx4a65c_elementData_915e3 : ByteArray := prog_23_method_18_code
def yJx4a65c_elementData_915e3 : MethodName := ⟨RJx4a65c, "elementData", "(I)Ljava/lang/Object;"⟩
abbrev cJx4a65c_get_915e3 : ByteArray := prog_23_method_20_code
def yJx4a65c_get_915e3 : MethodName := ⟨RJx4a65c, "get", "(I)Ljava/lang/Object;"⟩
abbrev cJx4a65c_add_72be8 : ByteArray := prog_23_method_24_code
def yJx4a65c_add_72be8 : MethodName := ⟨RJx4a65c, "add", "(Ljava/lang/Object;[Ljava/lang/Object;I)V"⟩
abbrev cJx4a65c_add_9ea2d : ByteArray := prog_23_method_25_code
def yJx4a65c_add_9ea2d : MethodName := ⟨RJx4a65c, "add", "(Ljava/lang/Object;)Z"⟩
abbrev cJx4a65c_add_7a177 : ByteArray := prog_23_method_26_code
def yJx4a65c_add_7a177 : MethodName := ⟨RJx4a65c, "add", "(ILjava/lang/Object;)V"⟩
abbrev cJx4a65c_remove_915e3 : ByteArray := prog_23_method_29_code
def yJx4a65c_remove_915e3 : MethodName := ⟨RJx4a65c, "remove", "(I)Ljava/lang/Object;"⟩
abbrev cJx4a65c_fastRemove_b59b0 : ByteArray := prog_23_method_39_code
def yJx4a65c_fastRemove_b59b0 : MethodName := ⟨RJx4a65c, "fastRemove", "([Ljava/lang/Object;I)V"⟩
abbrev cJx4a65c_rangeCheckForAdd_d00df : ByteArray := prog_23_method_45_code
def yJx4a65c_rangeCheckForAdd_d00df : MethodName := ⟨RJx4a65c, "rangeCheckForAdd", "(I)V"⟩
abbrev cX0_init : ByteArray := prog_2_method_1_code
def yX0_init : MethodName := ⟨RX0, "<init>", "(ILDedupVault$Piece;LDedupVault$Container;)V"⟩
abbrev cX0_number : ByteArray := prog_2_method_2_code
def yX0_number : MethodName := ⟨RX0, "number", "()I"⟩
abbrev cX0_bytes : ByteArray := prog_2_method_3_code
def yX0_bytes : MethodName := ⟨RX0, "bytes", "()LDedupVault$Piece;"⟩
abbrev cX0_home : ByteArray := prog_2_method_4_code
def yX0_home : MethodName := ⟨RX0, "home", "()LDedupVault$Container;"⟩
abbrev cX0_moveTo : ByteArray := prog_2_method_5_code
def yX0_moveTo : MethodName := ⟨RX0, "moveTo", "(LDedupVault$Container;)V"⟩
abbrev cX0_uses : ByteArray := prog_2_method_6_code
def yX0_uses : MethodName := ⟨RX0, "uses", "()I"⟩
abbrev cX0_addUses : ByteArray := prog_2_method_7_code
def yX0_addUses : MethodName := ⟨RX0, "addUses", "(I)V"⟩
abbrev cX1_init : ByteArray := prog_3_method_1_code
def yX1_init : MethodName := ⟨RX1, "<init>", "(I)V"⟩
abbrev cX1_number : ByteArray := prog_3_method_2_code
def yX1_number : MethodName := ⟨RX1, "number", "()I"⟩
abbrev cX1_filled : ByteArray := prog_3_method_3_code
def yX1_filled : MethodName := ⟨RX1, "filled", "()I"⟩
abbrev cX1_count : ByteArray := prog_3_method_4_code
def yX1_count : MethodName := ⟨RX1, "count", "()I"⟩
abbrev cX1_fits : ByteArray := prog_3_method_5_code
def yX1_fits : MethodName := ⟨RX1, "fits", "(LDedupVault$Piece;)Z"⟩
abbrev cX1_put : ByteArray := prog_3_method_6_code
def yX1_put : MethodName := ⟨RX1, "put", "(LDedupVault$Chunk;)V"⟩
abbrev cX1_withBytes : ByteArray := prog_3_method_7_code
def yX1_withBytes : MethodName := ⟨RX1, "withBytes", "(LDedupVault$Piece;)LDedupVault$Chunk;"⟩
abbrev cX1_withNumber : ByteArray := prog_3_method_8_code
def yX1_withNumber : MethodName := ⟨RX1, "withNumber", "(I)LDedupVault$Chunk;"⟩
abbrev cX1_needed : ByteArray := prog_3_method_9_code
def yX1_needed : MethodName := ⟨RX1, "needed", "()Ljava/util/ArrayList;"⟩
abbrev cX1_neededBytes : ByteArray := prog_3_method_10_code
def yX1_neededBytes : MethodName := ⟨RX1, "neededBytes", "()I"⟩
abbrev cX2_init : ByteArray := prog_4_method_1_code
def yX2_init : MethodName := ⟨RX2, "<init>", "(LDedupVault$Row;II)V"⟩
abbrev cX2_markOf : ByteArray := prog_4_method_2_code
def yX2_markOf : MethodName := ⟨RX2, "markOf", "(LDedupVault$Row;II)I"⟩
abbrev cX2_size : ByteArray := prog_4_method_3_code
def yX2_size : MethodName := ⟨RX2, "size", "()I"⟩
abbrev cX2_mark : ByteArray := prog_4_method_4_code
def yX2_mark : MethodName := ⟨RX2, "mark", "()I"⟩
abbrev cX2_get : ByteArray := prog_4_method_5_code
def yX2_get : MethodName := ⟨RX2, "get", "(I)I"⟩
abbrev cX2_detached : ByteArray := prog_4_method_6_code
def yX2_detached : MethodName := ⟨RX2, "detached", "()LDedupVault$Piece;"⟩
abbrev cX2_sameAs : ByteArray := prog_4_method_7_code
def yX2_sameAs : MethodName := ⟨RX2, "sameAs", "(LDedupVault$Piece;)Z"⟩
abbrev cX3_init : ByteArray := prog_5_method_1_code
def yX3_init : MethodName := ⟨RX3, "<init>", "(I)V"⟩
abbrev cX3_size : ByteArray := prog_5_method_2_code
def yX3_size : MethodName := ⟨RX3, "size", "()I"⟩
abbrev cX3_get : ByteArray := prog_5_method_3_code
def yX3_get : MethodName := ⟨RX3, "get", "(I)I"⟩
abbrev cX3_add : ByteArray := prog_5_method_4_code
def yX3_add : MethodName := ⟨RX3, "add", "(I)V"⟩
abbrev cX3_addPart : ByteArray := prog_5_method_5_code
def yX3_addPart : MethodName := ⟨RX3, "addPart", "(LDedupVault$Row;II)V"⟩
abbrev cX3_putIn : ByteArray := prog_5_method_6_code
def yX3_putIn : MethodName := ⟨RX3, "putIn", "(II)V"⟩
abbrev cX3_takeOut : ByteArray := prog_5_method_7_code
def yX3_takeOut : MethodName := ⟨RX3, "takeOut", "(II)V"⟩
abbrev cX4_init : ByteArray := prog_6_method_1_code
def yX4_init : MethodName := ⟨RX4, "<init>", "()V"⟩
abbrev cX4_hits : ByteArray := prog_6_method_2_code
def yX4_hits : MethodName := ⟨RX4, "hits", "()I"⟩
abbrev cX4_reads : ByteArray := prog_6_method_3_code
def yX4_reads : MethodName := ⟨RX4, "reads", "()I"⟩
abbrev cX4_containerCount : ByteArray := prog_6_method_4_code
def yX4_containerCount : MethodName := ⟨RX4, "containerCount", "()I"⟩
abbrev cX4_openNumber : ByteArray := prog_6_method_5_code
def yX4_openNumber : MethodName := ⟨RX4, "openNumber", "()I"⟩
abbrev cX4_recentNumber : ByteArray := prog_6_method_6_code
def yX4_recentNumber : MethodName := ⟨RX4, "recentNumber", "(I)I"⟩
abbrev cX4_has : ByteArray := prog_6_method_7_code
def yX4_has : MethodName := ⟨RX4, "has", "(LDedupVault$Piece;)Z"⟩
abbrev cX4_findChunk : ByteArray := prog_6_method_8_code
def yX4_findChunk : MethodName := ⟨RX4, "findChunk", "(I)LDedupVault$Chunk;"⟩
abbrev cX4_chunkCount : ByteArray := prog_6_method_9_code
def yX4_chunkCount : MethodName := ⟨RX4, "chunkCount", "()I"⟩
abbrev cX4_filledBytes : ByteArray := prog_6_method_10_code
def yX4_filledBytes : MethodName := ⟨RX4, "filledBytes", "()I"⟩
abbrev cX4_garbageBytes : ByteArray := prog_6_method_11_code
def yX4_garbageBytes : MethodName := ⟨RX4, "garbageBytes", "()I"⟩
abbrev cX4_chunkFor : ByteArray := prog_6_method_12_code
def yX4_chunkFor : MethodName := ⟨RX4, "chunkFor", "(LDedupVault$Piece;)LDedupVault$Chunk;"⟩
abbrev cX4_chunkIn : ByteArray := prog_6_method_13_code
def yX4_chunkIn : MethodName := ⟨RX4, "chunkIn", "(Ljava/util/ArrayList;LDedupVault$Piece;)LDedupVault$Chunk;"⟩
abbrev cX4_storeNew : ByteArray := prog_6_method_14_code
def yX4_storeNew : MethodName := ⟨RX4, "storeNew", "(LDedupVault$Piece;)LDedupVault$Chunk;"⟩
abbrev cX4_openFor : ByteArray := prog_6_method_15_code
def yX4_openFor : MethodName := ⟨RX4, "openFor", "(LDedupVault$Piece;)LDedupVault$Container;"⟩
abbrev cX4_use : ByteArray := prog_6_method_16_code
def yX4_use : MethodName := ⟨RX4, "use", "(LDedupVault$Container;)V"⟩
abbrev cX4_leaveCache : ByteArray := prog_6_method_17_code
def yX4_leaveCache : MethodName := ⟨RX4, "leaveCache", "(LDedupVault$Container;)V"⟩
abbrev cX4_collectGarbage : ByteArray := prog_6_method_18_code
def yX4_collectGarbage : MethodName := ⟨RX4, "collectGarbage", "()I"⟩
abbrev cX4_empty : ByteArray := prog_6_method_19_code
def yX4_empty : MethodName := ⟨RX4, "empty", "(LDedupVault$Container;)V"⟩
abbrev cX5_init : ByteArray := prog_7_method_1_code
def yX5_init : MethodName := ⟨RX5, "<init>", "(IILDedupVault$Row;)V"⟩
abbrev cX5_file : ByteArray := prog_7_method_2_code
def yX5_file : MethodName := ⟨RX5, "file", "()I"⟩
abbrev cX5_number : ByteArray := prog_7_method_3_code
def yX5_number : MethodName := ⟨RX5, "number", "()I"⟩
abbrev cX5_copy : ByteArray := prog_7_method_4_code
def yX5_copy : MethodName := ⟨RX5, "copy", "()LDedupVault$Row;"⟩
abbrev cX5_base : ByteArray := prog_7_method_5_code
def yX5_base : MethodName := ⟨RX5, "base", "()LDedupVault$Version;"⟩
abbrev cX5_entryCount : ByteArray := prog_7_method_6_code
def yX5_entryCount : MethodName := ⟨RX5, "entryCount", "()I"⟩
abbrev cX5_entryNumber : ByteArray := prog_7_method_7_code
def yX5_entryNumber : MethodName := ⟨RX5, "entryNumber", "(I)I"⟩
abbrev cX5_addEntry : ByteArray := prog_7_method_8_code
def yX5_addEntry : MethodName := ⟨RX5, "addEntry", "(LDedupVault$Chunk;)V"⟩
abbrev cX5_releaseEntries : ByteArray := prog_7_method_9_code
def yX5_releaseEntries : MethodName := ⟨RX5, "releaseEntries", "()V"⟩
abbrev cX5_restored : ByteArray := prog_7_method_10_code
def yX5_restored : MethodName := ⟨RX5, "restored", "(I)I"⟩
abbrev cX5_chain : ByteArray := prog_7_method_11_code
def yX5_chain : MethodName := ⟨RX5, "chain", "()I"⟩
abbrev cX5_cost : ByteArray := prog_7_method_12_code
def yX5_cost : MethodName := ⟨RX5, "cost", "()I"⟩
abbrev cX5_chooseBase : ByteArray := prog_7_method_13_code
def yX5_chooseBase : MethodName := ⟨RX5, "chooseBase", "(LDedupVault$Version;)V"⟩
abbrev cX5_loseBase : ByteArray := prog_7_method_14_code
def yX5_loseBase : MethodName := ⟨RX5, "loseBase", "(LDedupVault$Version;)V"⟩
abbrev cX5_differenceTo : ByteArray := prog_7_method_15_code
def yX5_differenceTo : MethodName := ⟨RX5, "differenceTo", "(LDedupVault$Version;)I"⟩
abbrev cX5_fromEnd : ByteArray := prog_7_method_16_code
def yX5_fromEnd : MethodName := ⟨RX5, "fromEnd", "(I)I"⟩
abbrev cX6_init : ByteArray := prog_1_method_1_code
def yX6_init : MethodName := ⟨RX6, "<init>", "()V"⟩
abbrev cX6_append : ByteArray := prog_1_method_2_code
def yX6_append : MethodName := ⟨RX6, "append", "(III)I"⟩
abbrev cX6_appendCopy : ByteArray := prog_1_method_3_code
def yX6_appendCopy : MethodName := ⟨RX6, "appendCopy", "(IIII)I"⟩
abbrev cX6_insert : ByteArray := prog_1_method_4_code
def yX6_insert : MethodName := ⟨RX6, "insert", "(II)I"⟩
abbrev cX6_cut : ByteArray := prog_1_method_5_code
def yX6_cut : MethodName := ⟨RX6, "cut", "(II)I"⟩
abbrev cX6_clearDraft : ByteArray := prog_1_method_6_code
def yX6_clearDraft : MethodName := ⟨RX6, "clearDraft", "()I"⟩
abbrev cX6_draftLength : ByteArray := prog_1_method_7_code
def yX6_draftLength : MethodName := ⟨RX6, "draftLength", "()I"⟩
abbrev cX6_draftAt : ByteArray := prog_1_method_8_code
def yX6_draftAt : MethodName := ⟨RX6, "draftAt", "(I)I"⟩
abbrev cX6_save : ByteArray := prog_1_method_9_code
def yX6_save : MethodName := ⟨RX6, "save", "(I)I"⟩
abbrev cX6_wouldStore : ByteArray := prog_1_method_10_code
def yX6_wouldStore : MethodName := ⟨RX6, "wouldStore", "()I"⟩
abbrev cX6_forget : ByteArray := prog_1_method_11_code
def yX6_forget : MethodName := ⟨RX6, "forget", "(II)I"⟩
abbrev cX6_collect : ByteArray := prog_1_method_12_code
def yX6_collect : MethodName := ⟨RX6, "collect", "()I"⟩
abbrev cX6_versions : ByteArray := prog_1_method_13_code
def yX6_versions : MethodName := ⟨RX6, "versions", "()I"⟩
abbrev cX6_isKept : ByteArray := prog_1_method_14_code
def yX6_isKept : MethodName := ⟨RX6, "isKept", "(II)Z"⟩
abbrev cX6_latest : ByteArray := prog_1_method_15_code
def yX6_latest : MethodName := ⟨RX6, "latest", "(I)I"⟩
abbrev cX6_length : ByteArray := prog_1_method_16_code
def yX6_length : MethodName := ⟨RX6, "length", "(II)I"⟩
abbrev cX6_byteAt : ByteArray := prog_1_method_17_code
def yX6_byteAt : MethodName := ⟨RX6, "byteAt", "(III)I"⟩
abbrev cX6_byteByCopy : ByteArray := prog_1_method_18_code
def yX6_byteByCopy : MethodName := ⟨RX6, "byteByCopy", "(III)I"⟩
abbrev cX6_chunksOf : ByteArray := prog_1_method_19_code
def yX6_chunksOf : MethodName := ⟨RX6, "chunksOf", "(II)I"⟩
abbrev cX6_chunkAt : ByteArray := prog_1_method_20_code
def yX6_chunkAt : MethodName := ⟨RX6, "chunkAt", "(III)I"⟩
abbrev cX6_baseOf : ByteArray := prog_1_method_21_code
def yX6_baseOf : MethodName := ⟨RX6, "baseOf", "(II)I"⟩
abbrev cX6_chainOf : ByteArray := prog_1_method_22_code
def yX6_chainOf : MethodName := ⟨RX6, "chainOf", "(II)I"⟩
abbrev cX6_costOf : ByteArray := prog_1_method_23_code
def yX6_costOf : MethodName := ⟨RX6, "costOf", "(II)I"⟩
abbrev cX6_isStored : ByteArray := prog_1_method_24_code
def yX6_isStored : MethodName := ⟨RX6, "isStored", "(I)Z"⟩
abbrev cX6_chunks : ByteArray := prog_1_method_25_code
def yX6_chunks : MethodName := ⟨RX6, "chunks", "()I"⟩
abbrev cX6_chunkLength : ByteArray := prog_1_method_26_code
def yX6_chunkLength : MethodName := ⟨RX6, "chunkLength", "(I)I"⟩
abbrev cX6_fingerprint : ByteArray := prog_1_method_27_code
def yX6_fingerprint : MethodName := ⟨RX6, "fingerprint", "(I)I"⟩
abbrev cX6_references : ByteArray := prog_1_method_28_code
def yX6_references : MethodName := ⟨RX6, "references", "(I)I"⟩
abbrev cX6_containerOf : ByteArray := prog_1_method_29_code
def yX6_containerOf : MethodName := ⟨RX6, "containerOf", "(I)I"⟩
abbrev cX6_containers : ByteArray := prog_1_method_30_code
def yX6_containers : MethodName := ⟨RX6, "containers", "()I"⟩
abbrev cX6_openContainer : ByteArray := prog_1_method_31_code
def yX6_openContainer : MethodName := ⟨RX6, "openContainer", "()I"⟩
abbrev cX6_cached : ByteArray := prog_1_method_32_code
def yX6_cached : MethodName := ⟨RX6, "cached", "(I)I"⟩
abbrev cX6_cacheHits : ByteArray := prog_1_method_33_code
def yX6_cacheHits : MethodName := ⟨RX6, "cacheHits", "()I"⟩
abbrev cX6_indexReads : ByteArray := prog_1_method_34_code
def yX6_indexReads : MethodName := ⟨RX6, "indexReads", "()I"⟩
abbrev cX6_storedBytes : ByteArray := prog_1_method_35_code
def yX6_storedBytes : MethodName := ⟨RX6, "storedBytes", "()I"⟩
abbrev cX6_savedBytes : ByteArray := prog_1_method_36_code
def yX6_savedBytes : MethodName := ⟨RX6, "savedBytes", "()I"⟩
abbrev cX6_garbage : ByteArray := prog_1_method_37_code
def yX6_garbage : MethodName := ⟨RX6, "garbage", "()I"⟩
abbrev cX6_ratio : ByteArray := prog_1_method_38_code
def yX6_ratio : MethodName := ⟨RX6, "ratio", "()D"⟩
abbrev cX6_noByteValue : ByteArray := prog_1_method_39_code
def yX6_noByteValue : MethodName := ⟨RX6, "noByteValue", "(I)Z"⟩
abbrev cX6_noPlace : ByteArray := prog_1_method_40_code
def yX6_noPlace : MethodName := ⟨RX6, "noPlace", "(II)Z"⟩
abbrev cX6_noSpan : ByteArray := prog_1_method_41_code
def yX6_noSpan : MethodName := ⟨RX6, "noSpan", "(III)Z"⟩
abbrev cX6_numberOf : ByteArray := prog_1_method_42_code
def yX6_numberOf : MethodName := ⟨RX6, "numberOf", "(LDedupVault$Version;)I"⟩
abbrev cX6_findVersion : ByteArray := prog_1_method_43_code
def yX6_findVersion : MethodName := ⟨RX6, "findVersion", "(II)LDedupVault$Version;"⟩
abbrev cX6_demandVersion : ByteArray := prog_1_method_44_code
def yX6_demandVersion : MethodName := ⟨RX6, "demandVersion", "(II)LDedupVault$Version;"⟩
abbrev cX6_demandChunk : ByteArray := prog_1_method_45_code
def yX6_demandChunk : MethodName := ⟨RX6, "demandChunk", "(I)LDedupVault$Chunk;"⟩
abbrev cX6_latestKept : ByteArray := prog_1_method_46_code
def yX6_latestKept : MethodName := ⟨RX6, "latestKept", "(I)LDedupVault$Version;"⟩
abbrev cX6_piecesOf : ByteArray := prog_1_method_47_code
def yX6_piecesOf : MethodName := ⟨RX6, "piecesOf", "(LDedupVault$Row;)Ljava/util/ArrayList;"⟩
abbrev cX6_endsPiece : ByteArray := prog_1_method_48_code
def yX6_endsPiece : MethodName := ⟨RX6, "endsPiece", "(LDedupVault$Row;II)Z"⟩
abbrev cX6_windowSum : ByteArray := prog_1_method_49_code
def yX6_windowSum : MethodName := ⟨RX6, "windowSum", "(LDedupVault$Row;I)I"⟩
abbrev cX6_cameBefore : ByteArray := prog_1_method_50_code
def yX6_cameBefore : MethodName := ⟨RX6, "cameBefore", "(Ljava/util/ArrayList;I)Z"⟩
abbrev cL_draw : ByteArray := method_2_code
def yL_draw : MethodName := ⟨RL, "draw", "([III)I"⟩
abbrev cL_isIn : ByteArray := method_3_code
def yL_isIn : MethodName := ⟨RL, "isIn", "(JI)Z"⟩
abbrev cL_many : ByteArray := method_4_code
def yL_many : MethodName := ⟨RL, "many", "([J)I"⟩
abbrev cL_kept : ByteArray := method_5_code
def yL_kept : MethodName := ⟨RL, "kept", "([JII)I"⟩
abbrev cL_isVersion : ByteArray := method_6_code
def yL_isVersion : MethodName := ⟨RL, "isVersion", "(LDedupVault;II)Z"⟩
abbrev cL_isListed : ByteArray := method_7_code
def yL_isListed : MethodName := ⟨RL, "isListed", "(LDedupVault;[JII)Z"⟩
abbrev cL_areUnlike : ByteArray := method_8_code
def yL_areUnlike : MethodName := ⟨RL, "areUnlike", "(LDedupVault;IIIIII)Z"⟩
abbrev cL_areVersions : ByteArray := method_9_code
def yL_areVersions : MethodName := ⟨RL, "areVersions", "(LDedupVault;[JII)Z"⟩
abbrev cL_uses : ByteArray := method_10_code
def yL_uses : MethodName := ⟨RL, "uses", "(LDedupVault;[JI)I"⟩
abbrev cL_areChunks : ByteArray := method_11_code
def yL_areChunks : MethodName := ⟨RL, "areChunks", "(LDedupVault;[J)Z"⟩
abbrev cL_isCache : ByteArray := method_12_code
def yL_isCache : MethodName := ⟨RL, "isCache", "(LDedupVault;)Z"⟩
abbrev cL_saves : ByteArray := method_13_code
def yL_saves : MethodName := ⟨RL, "saves", "(LDedupVault;[JII)Z"⟩
abbrev cL_forgets : ByteArray := method_14_code
def yL_forgets : MethodName := ⟨RL, "forgets", "(LDedupVault;[JII)Z"⟩
abbrev cL_collects : ByteArray := method_15_code
def yL_collects : MethodName := ⟨RL, "collects", "(LDedupVault;[J)Z"⟩
abbrev cL_drafts : ByteArray := method_16_code
def yL_drafts : MethodName := ⟨RL, "drafts", "(LDedupVault;III[J)Z"⟩
abbrev cL_vault : ByteArray := method_17_code
def yL_vault : MethodName := ⟨RL, "vault", "([II)Z"⟩
def RN (k : Nat) : String := match k with
  | 0 => RJx4a65c
  | 1 => RX0
  | 2 => RX1
  | 3 => RX2
  | 4 => RX3
  | 5 => RX4
  | 6 => RX5
  | 7 => RX6
  | 8 => RX0
  | _ => RL
def TN (k : Nat) : u_T := match k with
  | 0 => TJx4a65c
  | 1 => TX0
  | 2 => TX1
  | 3 => TX2
  | 4 => TX3
  | 5 => TX4
  | 6 => TX5
  | 7 => TX6
  | _ => TX0
def tyN (k : Nat) : Nat → FieldType := match k with
  | 0 => tyJx4a65c
  | 1 => tyX0
  | 2 => tyX1
  | 3 => tyX2
  | 4 => tyX3
  | 5 => tyX4
  | 6 => tyX5
  | 7 => tyX6
  | _ => tyX0
def NN (k : Nat) : Nat := match k with
  | 0 => 3
  | 1 => 4
  | 2 => 3
  | 3 => 4
  | 4 => 2
  | 5 => 6
  | 6 => 5
  | 7 => 5
  | 8 => 4
  | _ => 0
abbrev kcl : List vw_C := [(RJx4a65c, TJx4a65c, 3), (RX0, TX0, 4), (RX1, TX1, 3), (RX2, TX2, 4), (RX3, TX3, 2), (RX4, TX4, 6), (RX5, TX5, 5), (RX6, TX6, 5), (RX0, TX0, 4)]
def fI (ci k : Nat) : Bool := match ci with
  | 0 => decide (k ∈ ([0, 2] : List Nat))
  | 1 => decide (k ∈ ([0, 3] : List Nat))
  | 2 => decide (k ∈ ([0, 2] : List Nat))
  | 3 => decide (k ∈ ([1, 2, 3] : List Nat))
  | 4 => decide (k ∈ ([1] : List Nat))
  | 5 => decide (k ∈ ([3, 4, 5] : List Nat))
  | 6 => decide (k ∈ ([0, 1] : List Nat))
  | 7 => decide (k ∈ ([4] : List Nat))
  | 8 => decide (k ∈ ([0, 3] : List Nat))
  | _ => false
def fF (ci k : Nat) : Bool := match ci with
  | 0 => decide (k ∈ ([] : List Nat))
  | 1 => decide (k ∈ ([0, 1] : List Nat))
  | 2 => decide (k ∈ ([0, 1] : List Nat))
  | 3 => decide (k ∈ ([0, 1, 2, 3] : List Nat))
  | 4 => decide (k ∈ ([0] : List Nat))
  | 5 => decide (k ∈ ([0, 1] : List Nat))
  | 6 => decide (k ∈ ([0, 1, 2, 3] : List Nat))
  | 7 => decide (k ∈ ([0, 1, 2, 3] : List Nat))
  | 8 => decide (k ∈ ([0, 1] : List Nat))
  | _ => false
abbrev MI : Type := MethodName × ByteArray × Nat × Option FieldType × Nat × Bool × Nat
def mPT_0 : List (MI × (Nat × Nat × Nat × Nat)) := [
  ((yJx4a65c_init_da8c8, cJx4a65c_init_da8c8, 1, none, 0, false, 0), (69, 22, 68, 68)),
  ((yJx4a65c_grow_92f84, cJx4a65c_grow_92f84, 4, (some (.array (.object "java/lang/Object"))), 0, false, 1), (132, 22, 131, 2)),
  ((yJx4a65c_grow_d5877, cJx4a65c_grow_d5877, 1, (some (.array (.object "java/lang/Object"))), 0, false, 0), (128, 22, 127, 1)),
  ((yJx4a65c_size_8abf5, cJx4a65c_size_8abf5, 1, (some (.int)), 0, false, 0), (369, 22, 367, 368)),
  ((yJx4a65c_elementData_915e3, cJx4a65c_elementData_915e3, 2, (some (.object "java/lang/Object")), 0, false, 1), (383, 22, 381, 382)),
  ((yJx4a65c_get_915e3, cJx4a65c_get_915e3, 2, (some (.object "java/lang/Object")), 0, false, 1), (373, 22, 371, 372)),
  ((yJx4a65c_add_72be8, cJx4a65c_add_72be8, 4, none, 0, false, 3), (124, 22, 123, 0)),
  ((yJx4a65c_add_9ea2d, cJx4a65c_add_9ea2d, 2, (some (.boolean)), 0, false, 1), (120, 22, 118, 119)),
  ((yJx4a65c_add_7a177, cJx4a65c_add_7a177, 5, none, 0, false, 2), (668, 22, 666, 667)),
  ((yJx4a65c_remove_915e3, cJx4a65c_remove_915e3, 4, (some (.object "java/lang/Object")), 0, false, 1), (659, 22, 657, 658)),
  ((yJx4a65c_fastRemove_b59b0, cJx4a65c_fastRemove_b59b0, 4, none, 0, false, 2), (663, 22, 662, 11)),
  ((yJx4a65c_rangeCheckForAdd_d00df, cJx4a65c_rangeCheckForAdd_d00df, 2, none, 0, false, 1), (672, 22, 671, 12)),
  ((yJx4a65c_size_8abf5, cJx4a65c_size_8abf5, 1, (some (.int)), 0, false, 0), (369, 22, 367, 368)),
  ((yX0_init, cX0_init, 4, none, 1, false, 3), (620, 39, 619, 619)),
  ((yX0_number, cX0_number, 1, (some (.int)), 1, false, 0), (703, 39, 701, 702)),
  ((yX0_bytes, cX0_bytes, 1, (some (.object "DedupVault$Piece")), 1, false, 0), (424, 39, 422, 423))]
def mPT_1 : List (MI × (Nat × Nat × Nat × Nat)) := [
  ((yX0_home, cX0_home, 1, (some (.object "DedupVault$Container")), 1, false, 0), (647, 39, 645, 646)),
  ((yX0_moveTo, cX0_moveTo, 2, none, 1, false, 1), (643, 39, 641, 642)),
  ((yX0_uses, cX0_uses, 1, (some (.int)), 1, false, 0), (791, 39, 789, 790)),
  ((yX0_addUses, cX0_addUses, 2, none, 1, false, 1), (681, 39, 679, 680)),
  ((yX1_init, cX1_init, 2, none, 2, false, 1), (103, 24, 102, 102)),
  ((yX1_number, cX1_number, 1, (some (.int)), 2, false, 0), (606, 24, 604, 605)),
  ((yX1_filled, cX1_filled, 1, (some (.int)), 2, false, 0), (527, 24, 525, 526)),
  ((yX1_count, cX1_count, 1, (some (.int)), 2, false, 0), (902, 24, 900, 901)),
  ((yX1_fits, cX1_fits, 2, (some (.boolean)), 2, false, 1), (601, 24, 599, 600)),
  ((yX1_put, cX1_put, 2, none, 2, false, 1), (638, 24, 636, 637)),
  ((yX1_withBytes, cX1_withBytes, 3, (some (.object "DedupVault$Chunk")), 2, false, 1), (509, 24, 507, 508)),
  ((yX1_withNumber, cX1_withNumber, 3, (some (.object "DedupVault$Chunk")), 2, false, 1), (736, 24, 734, 735)),
  ((yX1_needed, cX1_needed, 3, (some (.object "java/util/ArrayList")), 2, false, 0), (832, 24, 830, 831)),
  ((yX1_neededBytes, cX1_neededBytes, 3, (some (.int)), 2, false, 0), (787, 24, 785, 786)),
  ((yX2_init, cX2_init, 4, none, 3, false, 3), (471, 37, 470, 470)),
  ((yX2_markOf, cX2_markOf, 6, (some (.int)), 3, true, 3), (475, 37, 474, 474))]
def mPT_2 : List (MI × (Nat × Nat × Nat × Nat)) := [
  ((yX2_size, cX2_size, 1, (some (.int)), 3, false, 0), (428, 37, 426, 427)),
  ((yX2_mark, cX2_mark, 1, (some (.int)), 3, false, 0), (884, 37, 882, 883)),
  ((yX2_get, cX2_get, 2, (some (.int)), 3, false, 1), (432, 37, 430, 431)),
  ((yX2_detached, cX2_detached, 2, (some (.object "DedupVault$Piece")), 3, false, 0), (612, 37, 610, 611)),
  ((yX2_sameAs, cX2_sameAs, 3, (some (.boolean)), 3, false, 1), (496, 37, 494, 495)),
  ((yX3_init, cX3_init, 2, none, 4, false, 1), (55, 19, 54, 54)),
  ((yX3_size, cX3_size, 1, (some (.int)), 4, false, 0), (227, 19, 225, 226)),
  ((yX3_get, cX3_get, 2, (some (.int)), 4, false, 1), (347, 19, 345, 346)),
  ((yX3_add, cX3_add, 2, none, 4, false, 1), (317, 19, 315, 316)),
  ((yX3_addPart, cX3_addPart, 5, none, 4, false, 3), (407, 19, 405, 406)),
  ((yX3_putIn, cX3_putIn, 4, none, 4, false, 2), (321, 19, 319, 320)),
  ((yX3_takeOut, cX3_takeOut, 4, none, 4, false, 2), (446, 19, 444, 445)),
  ((yX4_init, cX4_init, 1, none, 5, false, 0), (95, 23, 94, 94)),
  ((yX4_hits, cX4_hits, 1, (some (.int)), 5, false, 0), (535, 23, 533, 534)),
  ((yX4_reads, cX4_reads, 1, (some (.int)), 5, false, 0), (543, 23, 541, 542)),
  ((yX4_containerCount, cX4_containerCount, 1, (some (.int)), 5, false, 0), (910, 23, 908, 909))]
def mPT_3 : List (MI × (Nat × Nat × Nat × Nat)) := [
  ((yX4_openNumber, cX4_openNumber, 1, (some (.int)), 5, false, 0), (816, 23, 814, 815)),
  ((yX4_recentNumber, cX4_recentNumber, 2, (some (.int)), 5, false, 1), (753, 23, 751, 752)),
  ((yX4_has, cX4_has, 2, (some (.boolean)), 5, false, 1), (500, 23, 498, 499)),
  ((yX4_findChunk, cX4_findChunk, 4, (some (.object "DedupVault$Chunk")), 5, false, 1), (732, 23, 730, 731)),
  ((yX4_chunkCount, cX4_chunkCount, 3, (some (.int)), 5, false, 0), (898, 23, 896, 897)),
  ((yX4_filledBytes, cX4_filledBytes, 3, (some (.int)), 5, false, 0), (523, 23, 521, 522)),
  ((yX4_garbageBytes, cX4_garbageBytes, 3, (some (.int)), 5, false, 0), (783, 23, 781, 782)),
  ((yX4_chunkFor, cX4_chunkFor, 3, (some (.object "DedupVault$Chunk")), 5, false, 1), (589, 23, 587, 588)),
  ((yX4_chunkIn, cX4_chunkIn, 4, (some (.object "DedupVault$Chunk")), 5, true, 2), (503, 23, 502, 502)),
  ((yX4_storeNew, cX4_storeNew, 4, (some (.object "DedupVault$Chunk")), 5, false, 1), (593, 23, 592, 7)),
  ((yX4_openFor, cX4_openFor, 2, (some (.object "DedupVault$Container")), 5, false, 1), (597, 23, 596, 8)),
  ((yX4_use, cX4_use, 2, none, 5, false, 1), (651, 23, 650, 9)),
  ((yX4_leaveCache, cX4_leaveCache, 3, none, 5, false, 1), (655, 23, 654, 10)),
  ((yX4_collectGarbage, cX4_collectGarbage, 7, (some (.int)), 5, false, 0), (824, 23, 822, 823)),
  ((yX4_empty, cX4_empty, 4, none, 5, false, 1), (828, 23, 827, 16)),
  ((yX5_init, cX5_init, 4, none, 6, false, 3), (562, 38, 561, 561))]
def mPT_4 : List (MI × (Nat × Nat × Nat × Nat)) := [
  ((yX5_file, cX5_file, 1, (some (.int)), 6, false, 0), (388, 38, 386, 387)),
  ((yX5_number, cX5_number, 1, (some (.int)), 6, false, 0), (392, 38, 390, 391)),
  ((yX5_copy, cX5_copy, 1, (some (.object "DedupVault$Row")), 6, false, 0), (396, 38, 394, 395)),
  ((yX5_base, cX5_base, 1, (some (.object "DedupVault$Version")), 6, false, 0), (745, 38, 743, 744)),
  ((yX5_entryCount, cX5_entryCount, 1, (some (.int)), 6, false, 0), (715, 38, 713, 714)),
  ((yX5_entryNumber, cX5_entryNumber, 2, (some (.int)), 6, false, 1), (698, 38, 696, 697)),
  ((yX5_addEntry, cX5_addEntry, 2, none, 6, false, 1), (676, 38, 674, 675)),
  ((yX5_releaseEntries, cX5_releaseEntries, 2, none, 6, false, 0), (805, 38, 803, 804)),
  ((yX5_restored, cX5_restored, 5, (some (.int)), 6, false, 1), (417, 38, 415, 416)),
  ((yX5_chain, cX5_chain, 3, (some (.int)), 6, false, 0), (689, 38, 687, 688)),
  ((yX5_cost, cX5_cost, 1, (some (.int)), 6, false, 0), (865, 38, 863, 864)),
  ((yX5_chooseBase, cX5_chooseBase, 2, none, 6, false, 1), (685, 38, 683, 684)),
  ((yX5_loseBase, cX5_loseBase, 2, none, 6, false, 1), (801, 38, 799, 800)),
  ((yX5_differenceTo, cX5_differenceTo, 5, (some (.int)), 6, false, 1), (693, 38, 692, 13)),
  ((yX5_fromEnd, cX5_fromEnd, 2, (some (.int)), 6, false, 1), (707, 38, 706, 14)),
  ((yX6_init, cX6_init, 1, none, 7, false, 0), (47, 18, 46, 46))]
def mPT_5 : List (MI × (Nat × Nat × Nat × Nat)) := [
  ((yX6_append, cX6_append, 6, (some (.int)), 7, false, 3), (231, 18, 229, 230)),
  ((yX6_appendCopy, cX6_appendCopy, 6, (some (.int)), 7, false, 4), (400, 18, 398, 399)),
  ((yX6_insert, cX6_insert, 3, (some (.int)), 7, false, 2), (437, 18, 435, 436)),
  ((yX6_cut, cX6_cut, 3, (some (.int)), 7, false, 2), (442, 18, 440, 441)),
  ((yX6_clearDraft, cX6_clearDraft, 2, (some (.int)), 7, false, 0), (842, 18, 840, 841)),
  ((yX6_draftLength, cX6_draftLength, 1, (some (.int)), 7, false, 0), (223, 18, 221, 222)),
  ((yX6_draftAt, cX6_draftAt, 2, (some (.int)), 7, false, 1), (325, 18, 323, 324)),
  ((yX6_save, cX6_save, 6, (some (.int)), 7, false, 1), (558, 18, 556, 557)),
  ((yX6_wouldStore, cX6_wouldStore, 5, (some (.int)), 7, false, 0), (457, 18, 455, 456)),
  ((yX6_forget, cX6_forget, 6, (some (.int)), 7, false, 2), (796, 18, 794, 795)),
  ((yX6_collect, cX6_collect, 1, (some (.int)), 7, false, 0), (820, 18, 818, 819)),
  ((yX6_versions, cX6_versions, 1, (some (.int)), 7, false, 0), (869, 18, 867, 868)),
  ((yX6_isKept, cX6_isKept, 3, (some (.boolean)), 7, false, 2), (849, 18, 847, 848)),
  ((yX6_latest, cX6_latest, 2, (some (.int)), 7, false, 1), (547, 18, 545, 546)),
  ((yX6_length, cX6_length, 3, (some (.int)), 7, false, 2), (357, 18, 355, 356)),
  ((yX6_byteAt, cX6_byteAt, 5, (some (.int)), 7, false, 3), (413, 18, 411, 412))]
def mPT_6 : List (MI × (Nat × Nat × Nat × Nat)) := [
  ((yX6_byteByCopy, cX6_byteByCopy, 5, (some (.int)), 7, false, 3), (719, 18, 717, 718)),
  ((yX6_chunksOf, cX6_chunksOf, 3, (some (.int)), 7, false, 2), (711, 18, 709, 710)),
  ((yX6_chunkAt, cX6_chunkAt, 5, (some (.int)), 7, false, 3), (723, 18, 721, 722)),
  ((yX6_baseOf, cX6_baseOf, 3, (some (.int)), 7, false, 2), (741, 18, 739, 740)),
  ((yX6_chainOf, cX6_chainOf, 3, (some (.int)), 7, false, 2), (856, 18, 854, 855)),
  ((yX6_costOf, cX6_costOf, 3, (some (.int)), 7, false, 2), (861, 18, 859, 860)),
  ((yX6_isStored, cX6_isStored, 2, (some (.boolean)), 7, false, 1), (728, 18, 726, 727)),
  ((yX6_chunks, cX6_chunks, 1, (some (.int)), 7, false, 0), (894, 18, 892, 893)),
  ((yX6_chunkLength, cX6_chunkLength, 2, (some (.int)), 7, false, 1), (771, 18, 769, 770)),
  ((yX6_fingerprint, cX6_fingerprint, 2, (some (.int)), 7, false, 1), (880, 18, 878, 879)),
  ((yX6_references, cX6_references, 2, (some (.int)), 7, false, 1), (837, 18, 835, 836)),
  ((yX6_containerOf, cX6_containerOf, 2, (some (.int)), 7, false, 1), (758, 18, 756, 757)),
  ((yX6_containers, cX6_containers, 1, (some (.int)), 7, false, 0), (906, 18, 904, 905)),
  ((yX6_openContainer, cX6_openContainer, 1, (some (.int)), 7, false, 0), (812, 18, 810, 811)),
  ((yX6_cached, cX6_cached, 2, (some (.int)), 7, false, 1), (749, 18, 747, 748)),
  ((yX6_cacheHits, cX6_cacheHits, 1, (some (.int)), 7, false, 0), (531, 18, 529, 530))]
def mPT_7 : List (MI × (Nat × Nat × Nat × Nat)) := [
  ((yX6_indexReads, cX6_indexReads, 1, (some (.int)), 7, false, 0), (539, 18, 537, 538)),
  ((yX6_storedBytes, cX6_storedBytes, 1, (some (.int)), 7, false, 0), (519, 18, 517, 518)),
  ((yX6_savedBytes, cX6_savedBytes, 3, (some (.int)), 7, false, 0), (873, 18, 871, 872)),
  ((yX6_garbage, cX6_garbage, 1, (some (.int)), 7, false, 0), (779, 18, 777, 778)),
  ((yX6_ratio, cX6_ratio, 2, (some (.double)), 7, false, 0), (914, 18, 912, 913)),
  ((yX6_noByteValue, cX6_noByteValue, 1, (some (.boolean)), 7, true, 1), (234, 18, 233, 233)),
  ((yX6_noPlace, cX6_noPlace, 2, (some (.boolean)), 7, true, 2), (328, 18, 327, 327)),
  ((yX6_noSpan, cX6_noSpan, 3, (some (.boolean)), 7, true, 3), (403, 18, 402, 402)),
  ((yX6_numberOf, cX6_numberOf, 1, (some (.int)), 7, true, 1), (554, 18, 553, 553)),
  ((yX6_findVersion, cX6_findVersion, 5, (some (.object "DedupVault$Version")), 7, false, 2), (365, 18, 364, 5)),
  ((yX6_demandVersion, cX6_demandVersion, 4, (some (.object "DedupVault$Version")), 7, false, 2), (361, 18, 360, 4)),
  ((yX6_demandChunk, cX6_demandChunk, 3, (some (.object "DedupVault$Chunk")), 7, false, 1), (762, 18, 761, 15)),
  ((yX6_latestKept, cX6_latestKept, 4, (some (.object "DedupVault$Version")), 7, false, 1), (551, 18, 550, 6)),
  ((yX6_piecesOf, cX6_piecesOf, 4, (some (.object "java/util/ArrayList")), 7, true, 1), (460, 18, 459, 459)),
  ((yX6_endsPiece, cX6_endsPiece, 4, (some (.boolean)), 7, true, 3), (463, 18, 462, 462)),
  ((yX6_windowSum, cX6_windowSum, 4, (some (.int)), 7, true, 2), (466, 18, 465, 465))]
def mPT_8 : List (MI × (Nat × Nat × Nat × Nat)) := [
  ((yX6_cameBefore, cX6_cameBefore, 3, (some (.boolean)), 7, true, 2), (492, 18, 491, 491)),
  ((yL_draw, cL_draw, 4, (some (.int)), 9, true, 3), (213, 17, 212, 212)),
  ((yL_isIn, cL_isIn, 3, (some (.boolean)), 9, true, 2), (353, 17, 352, 352)),
  ((yL_many, cL_many, 3, (some (.int)), 9, true, 1), (450, 17, 449, 449)),
  ((yL_kept, cL_kept, 4, (some (.int)), 9, true, 3), (350, 17, 349, 349)),
  ((yL_isVersion, cL_isVersion, 10, (some (.boolean)), 9, true, 3), (767, 17, 766, 766)),
  ((yL_isListed, cL_isListed, 10, (some (.boolean)), 9, true, 4), (852, 17, 851, 851)),
  ((yL_areUnlike, cL_areUnlike, 18, (some (.boolean)), 9, true, 7), (876, 17, 875, 875)),
  ((yL_areVersions, cL_areVersions, 11, (some (.boolean)), 9, true, 4), (845, 17, 844, 844)),
  ((yL_uses, cL_uses, 7, (some (.int)), 9, true, 3), (890, 17, 889, 889)),
  ((yL_areChunks, cL_areChunks, 10, (some (.boolean)), 9, true, 2), (887, 17, 886, 886)),
  ((yL_isCache, cL_isCache, 5, (some (.boolean)), 9, true, 1), (918, 17, 917, 917)),
  ((yL_saves, cL_saves, 13, (some (.boolean)), 9, true, 4), (453, 17, 452, 452)),
  ((yL_forgets, cL_forgets, 6, (some (.boolean)), 9, true, 4), (775, 17, 774, 774)),
  ((yL_collects, cL_collects, 12, (some (.boolean)), 9, true, 2), (808, 17, 807, 807)),
  ((yL_drafts, cL_drafts, 11, (some (.boolean)), 9, true, 5), (219, 17, 218, 218))]
def mPT_9 : List (MI × (Nat × Nat × Nat × Nat)) := [
  ((yL_vault, cL_vault, 12, (some (.boolean)), 9, true, 2), (42, 17, 41, 41))]
def mPT : List (MI × (Nat × Nat × Nat × Nat)) := mPT_0 ++ (mPT_1 ++ (mPT_2 ++ (mPT_3 ++ (mPT_4 ++ (mPT_5 ++ (mPT_6 ++ (mPT_7 ++ (mPT_8 ++ (mPT_9)))))))))
def mth (k : Nat) : Option MI := (mPT[k]?).map (fun e => e.1)
def fldT : List ((Nat × Nat) × Nat × Nat × Nat) := [((1, 7), 1, 0, 622), ((1, 13), 1, 1, 623), ((1, 17), 1, 2, 624), ((1, 21), 1, 3, 625), ((2, 9), 2, 0, 107), ((2, 18), 2, 1, 108), ((2, 22), 2, 2, 109), ((3, 9), 3, 0, 476), ((3, 15), 3, 1, 477), ((3, 19), 3, 2, 478), ((3, 26), 3, 3, 479), ((4, 7), 4, 0, 57), ((4, 13), 4, 1, 58), ((5, 12), 5, 0, 175), ((5, 18), 5, 1, 176), ((5, 26), 5, 2, 177), ((5, 34), 5, 3, 178), ((5, 38), 5, 4, 179), ((5, 41), 5, 5, 180), ((6, 9), 6, 0, 570), ((6, 15), 6, 1, 571), ((6, 27), 6, 2, 572), ((6, 38), 6, 3, 573), ((6, 42), 6, 4, 574), ((7, 14), 7, 0, 194), ((7, 21), 7, 1, 195), ((7, 25), 7, 2, 196), ((7, 32), 7, 3, 197), ((7, 36), 7, 4, 198)]
def callT : List ((Nat × Nat) × Nat × Nat × Nat) := [((1, 1), 4, 0, 621), ((2, 3), 4, 0, 104), ((2, 17), 3, 0, 106), ((2, 25), 0, 3, 510), ((2, 29), 0, 32, 602), ((2, 32), 0, 7, 639), ((2, 36), 0, 15, 513), ((2, 42), 0, 17, 640), ((2, 46), 0, 5, 511), ((2, 50), 0, 36, 514), ((2, 54), 0, 14, 737), ((2, 56), 0, 18, 788), ((3, 3), 4, 0, 472), ((3, 22), 1, 31, 473), ((3, 29), 0, 39, 433), ((3, 35), 3, 37, 614), ((3, 38), 0, 41, 615), ((3, 42), 3, 30, 617), ((4, 1), 4, 0, 56), ((4, 17), 0, 42, 318), ((4, 21), 0, 39, 408), ((4, 25), 0, 40, 409), ((4, 29), 2, 119, 447), ((5, 3), 4, 0, 96), ((5, 11), 3, 0, 98), ((5, 23), 3, 20, 101), ((5, 30), 0, 7, 117), ((5, 44), 0, 3, 504), ((5, 48), 0, 21, 603), ((5, 51), 2, 118, 754), ((5, 55), 0, 5, 505), ((5, 59), 1, 56, 501), ((5, 63), 0, 27, 733), ((5, 67), 0, 23, 899), ((5, 70), 0, 22, 524), ((5, 73), 0, 29, 784), ((5, 76), 0, 57, 590), ((5, 80), 0, 16, 644), ((5, 86), 0, 59, 648), ((5, 90), 0, 26, 506), ((5, 93), 0, 58, 594), ((5, 97), 0, 35, 609), ((5, 103), 3, 13, 618), ((5, 106), 0, 25, 635), ((5, 110), 0, 24, 598), ((5, 114), 0, 60, 652), ((5, 117), 0, 8, 665), ((5, 120), 0, 9, 656), ((5, 123), 0, 62, 825), ((5, 126), 0, 28, 829), ((5, 130), 0, 15, 833), ((6, 3), 4, 0, 563), ((6, 20), 0, 38, 565), ((6, 24), 3, 37, 566), ((6, 31), 0, 41, 567), ((6, 37), 3, 0, 569), ((6, 46), 0, 3, 418), ((6, 47), 2, 118, 699), ((6, 51), 0, 5, 419), ((6, 57), 0, 14, 700), ((6, 59), 0, 7, 677), ((6, 63), 0, 19, 678), ((6, 66), 0, 15, 421), ((6, 70), 0, 32, 425), ((6, 73), 0, 34, 429), ((6, 76), 0, 77, 690), ((6, 80), 0, 73, 686), ((6, 83), 5, 0, 694), ((6, 89), 0, 69, 695), ((6, 92), 0, 78, 704), ((7, 1), 4, 0, 48), ((7, 11), 3, 37, 53), ((7, 20), 3, 0, 67), ((7, 31), 3, 44, 93), ((7, 40), 1, 117, 232), ((7, 47), 0, 38, 224), ((7, 54), 0, 40, 314), ((7, 57), 0, 122, 358), ((7, 61), 0, 66, 393), ((7, 67), 1, 119, 401), ((7, 74), 0, 41, 404), ((7, 78), 0, 42, 438), ((7, 82), 0, 43, 443), ((7, 85), 1, 118, 326), ((7, 89), 0, 39, 344), ((7, 93), 0, 3, 366), ((7, 94), 3, 63, 560), ((7, 97), 1, 125, 458), ((7, 101), 0, 5, 370), ((7, 106), 0, 55, 586), ((7, 110), 0, 70, 673), ((7, 114), 0, 124, 548), ((7, 118), 0, 75, 682), ((7, 122), 0, 7, 489), ((7, 125), 1, 128, 490), ((7, 129), 0, 50, 497), ((7, 133), 0, 32, 515), ((7, 134), 0, 9, 797), ((7, 137), 0, 76, 798), ((7, 140), 0, 71, 802), ((7, 143), 0, 61, 821), ((7, 146), 0, 121, 362), ((7, 149), 1, 120, 552), ((7, 153), 0, 72, 414), ((7, 156), 0, 68, 712), ((7, 159), 0, 69, 724), ((7, 162), 0, 67, 742), ((7, 166), 0, 73, 857), ((7, 169), 0, 74, 862), ((7, 172), 0, 51, 729), ((7, 176), 0, 52, 895), ((7, 179), 0, 123, 759), ((7, 182), 0, 15, 772), ((7, 188), 0, 33, 881), ((7, 191), 0, 18, 838), ((7, 194), 0, 16, 763), ((7, 198), 0, 21, 764), ((7, 203), 0, 47, 907), ((7, 206), 0, 48, 813), ((7, 209), 0, 49, 750), ((7, 212), 0, 45, 532), ((7, 215), 0, 46, 540), ((7, 218), 0, 53, 520), ((7, 221), 0, 54, 780), ((7, 224), 0, 114, 915), ((7, 227), 0, 65, 389), ((7, 228), 0, 64, 385), ((7, 231), 1, 126, 461), ((7, 235), 3, 30, 469), ((7, 237), 1, 127, 464), ((7, 241), 0, 36, 493), ((9, 10), 1, 130, 351), ((9, 16), 0, 94, 354), ((9, 22), 0, 95, 410), ((9, 26), 0, 96, 716), ((9, 29), 0, 97, 708), ((9, 32), 0, 98, 720), ((9, 35), 0, 104, 768), ((9, 39), 0, 99, 738), ((9, 42), 0, 100, 853), ((9, 45), 0, 101, 858), ((9, 48), 0, 105, 877), ((9, 51), 0, 92, 846), ((9, 55), 1, 134, 850), ((9, 59), 0, 93, 544), ((9, 62), 1, 132, 348), ((9, 66), 0, 91, 866), ((9, 70), 0, 114, 870), ((9, 73), 1, 133, 765), ((9, 77), 1, 135, 874), ((9, 81), 0, 109, 809), ((9, 84), 0, 102, 725), ((9, 88), 0, 107, 755), ((9, 91), 0, 106, 834), ((9, 94), 1, 137, 888), ((9, 98), 0, 103, 891), ((9, 101), 0, 113, 516), ((9, 104), 0, 115, 776), ((9, 107), 0, 108, 903), ((9, 110), 0, 116, 911), ((9, 114), 0, 110, 746), ((9, 117), 0, 88, 454), ((9, 120), 0, 111, 528), ((9, 123), 0, 112, 536), ((9, 126), 0, 87, 555), ((9, 129), 0, 85, 220), ((9, 132), 0, 86, 322), ((9, 137), 0, 89, 793), ((9, 140), 1, 131, 448), ((9, 144), 0, 90, 817), ((9, 147), 0, 80, 228), ((9, 150), 0, 81, 397), ((9, 154), 0, 82, 434), ((9, 157), 0, 83, 439), ((9, 160), 3, 79, 45), ((9, 162), 1, 129, 211), ((9, 166), 1, 143, 217), ((9, 170), 1, 140, 451), ((9, 173), 1, 141, 773), ((9, 176), 1, 142, 806), ((9, 180), 0, 84, 839), ((9, 183), 1, 136, 843), ((9, 186), 1, 138, 885), ((9, 189), 1, 139, 916), ((9, 193), 1, 144, 40)]
def clT : List ((Nat × Nat) × Nat × Nat) := [((2, 15), 0, 105), ((2, 37), 1, 512), ((3, 10), 3, 616), ((3, 30), 4, 613), ((5, 9), 0, 97), ((5, 21), 2, 99), ((5, 81), 1, 607), ((6, 18), 4, 564), ((6, 35), 0, 568), ((6, 55), 1, 420), ((7, 7), 4, 51), ((7, 18), 0, 65), ((7, 29), 5, 91), ((7, 44), 100, 235), ((7, 51), 101, 299), ((7, 62), 6, 384), ((7, 71), 102, 329), ((7, 104), 3, 467), ((9, 17), 7, 43)]
end
section
/-! every method code stands in the tables (the law methods have tables of their own), printed by wip/whole/gen_names.py -/
def mcP (e : MI × (Nat × Nat × Nat × Nat)) : Prop := lw_tbl[e.2.1]? = some (.code e.1.1 e.1.2.1 e.1.2.2.1 e.1.2.2.2.1)
set_option maxRecDepth 100000 in
theorem mc_0 : ∀ e ∈ mPT_0, mcP e := List.forall_mem_cons.mpr ⟨rfl, List.forall_mem_cons.mpr ⟨rfl, List.forall_mem_cons.mpr ⟨rfl, List.forall_mem_cons.mpr ⟨rfl, List.forall_mem_cons.mpr ⟨rfl, List.forall_mem_cons.mpr ⟨rfl, List.forall_mem_cons.mpr ⟨rfl, List.forall_mem_cons.mpr ⟨rfl, List.forall_mem_cons.mpr ⟨rfl, List.forall_mem_cons.mpr ⟨rfl, List.forall_mem_cons.mpr ⟨rfl, List.forall_mem_cons.mpr ⟨rfl, List.forall_mem_cons.mpr ⟨rfl, List.forall_mem_cons.mpr ⟨rfl, List.forall_mem_cons.mpr ⟨rfl, List.forall_mem_cons.mpr ⟨rfl, fun _ h => absurd h List.not_mem_nil⟩⟩⟩⟩⟩⟩⟩⟩⟩⟩⟩⟩⟩⟩⟩⟩
set_option maxRecDepth 100000 in
theorem mc_1 : ∀ e ∈ mPT_1, mcP e := List.forall_mem_cons.mpr ⟨rfl, List.forall_mem_cons.mpr ⟨rfl, List.forall_mem_cons.mpr ⟨rfl, List.forall_mem_cons.mpr ⟨rfl, List.forall_mem_cons.mpr ⟨rfl, List.forall_mem_cons.mpr ⟨rfl, List.forall_mem_cons.mpr ⟨rfl, List.forall_mem_cons.mpr ⟨rfl, List.forall_mem_cons.mpr ⟨rfl, List.forall_mem_cons.mpr ⟨rfl, List.forall_mem_cons.mpr ⟨rfl, List.forall_mem_cons.mpr ⟨rfl, List.forall_mem_cons.mpr ⟨rfl, List.forall_mem_cons.mpr ⟨rfl, List.forall_mem_cons.mpr ⟨rfl, List.forall_mem_cons.mpr ⟨rfl, fun _ h => absurd h List.not_mem_nil⟩⟩⟩⟩⟩⟩⟩⟩⟩⟩⟩⟩⟩⟩⟩⟩
set_option maxRecDepth 100000 in
theorem mc_2 : ∀ e ∈ mPT_2, mcP e := List.forall_mem_cons.mpr ⟨rfl, List.forall_mem_cons.mpr ⟨rfl, List.forall_mem_cons.mpr ⟨rfl, List.forall_mem_cons.mpr ⟨rfl, List.forall_mem_cons.mpr ⟨rfl, List.forall_mem_cons.mpr ⟨rfl, List.forall_mem_cons.mpr ⟨rfl, List.forall_mem_cons.mpr ⟨rfl, List.forall_mem_cons.mpr ⟨rfl, List.forall_mem_cons.mpr ⟨rfl, List.forall_mem_cons.mpr ⟨rfl, List.forall_mem_cons.mpr ⟨rfl, List.forall_mem_cons.mpr ⟨rfl, List.forall_mem_cons.mpr ⟨rfl, List.forall_mem_cons.mpr ⟨rfl, List.forall_mem_cons.mpr ⟨rfl, fun _ h => absurd h List.not_mem_nil⟩⟩⟩⟩⟩⟩⟩⟩⟩⟩⟩⟩⟩⟩⟩⟩
set_option maxRecDepth 100000 in
theorem mc_3 : ∀ e ∈ mPT_3, mcP e := List.forall_mem_cons.mpr ⟨rfl, List.forall_mem_cons.mpr ⟨rfl, List.forall_mem_cons.mpr ⟨rfl, List.forall_mem_cons.mpr ⟨rfl, List.forall_mem_cons.mpr ⟨rfl, List.forall_mem_cons.mpr ⟨rfl, List.forall_mem_cons.mpr ⟨rfl, List.forall_mem_cons.mpr ⟨rfl, List.forall_mem_cons.mpr ⟨rfl, List.forall_mem_cons.mpr ⟨rfl, List.forall_mem_cons.mpr ⟨rfl, List.forall_mem_cons.mpr ⟨rfl, List.forall_mem_cons.mpr ⟨rfl, List.forall_mem_cons.mpr ⟨rfl, List.forall_mem_cons.mpr ⟨rfl, List.forall_mem_cons.mpr ⟨rfl, fun _ h => absurd h List.not_mem_nil⟩⟩⟩⟩⟩⟩⟩⟩⟩⟩⟩⟩⟩⟩⟩⟩
set_option maxRecDepth 100000 in
theorem mc_4 : ∀ e ∈ mPT_4, mcP e := List.forall_mem_cons.mpr ⟨rfl, List.forall_mem_cons.mpr ⟨rfl, List.forall_mem_cons.mpr ⟨rfl, List.forall_mem_cons.mpr ⟨rfl, List.forall_mem_cons.mpr ⟨rfl, List.forall_mem_cons.mpr ⟨rfl, List.forall_mem_cons.mpr ⟨rfl, List.forall_mem_cons.mpr ⟨rfl, List.forall_mem_cons.mpr ⟨rfl, List.forall_mem_cons.mpr ⟨rfl, List.forall_mem_cons.mpr ⟨rfl, List.forall_mem_cons.mpr ⟨rfl, List.forall_mem_cons.mpr ⟨rfl, List.forall_mem_cons.mpr ⟨rfl, List.forall_mem_cons.mpr ⟨rfl, List.forall_mem_cons.mpr ⟨rfl, fun _ h => absurd h List.not_mem_nil⟩⟩⟩⟩⟩⟩⟩⟩⟩⟩⟩⟩⟩⟩⟩⟩
set_option maxRecDepth 100000 in
theorem mc_5 : ∀ e ∈ mPT_5, mcP e := List.forall_mem_cons.mpr ⟨rfl, List.forall_mem_cons.mpr ⟨rfl, List.forall_mem_cons.mpr ⟨rfl, List.forall_mem_cons.mpr ⟨rfl, List.forall_mem_cons.mpr ⟨rfl, List.forall_mem_cons.mpr ⟨rfl, List.forall_mem_cons.mpr ⟨rfl, List.forall_mem_cons.mpr ⟨rfl, List.forall_mem_cons.mpr ⟨rfl, List.forall_mem_cons.mpr ⟨rfl, List.forall_mem_cons.mpr ⟨rfl, List.forall_mem_cons.mpr ⟨rfl, List.forall_mem_cons.mpr ⟨rfl, List.forall_mem_cons.mpr ⟨rfl, List.forall_mem_cons.mpr ⟨rfl, List.forall_mem_cons.mpr ⟨rfl, fun _ h => absurd h List.not_mem_nil⟩⟩⟩⟩⟩⟩⟩⟩⟩⟩⟩⟩⟩⟩⟩⟩
set_option maxRecDepth 100000 in
theorem mc_6 : ∀ e ∈ mPT_6, mcP e := List.forall_mem_cons.mpr ⟨rfl, List.forall_mem_cons.mpr ⟨rfl, List.forall_mem_cons.mpr ⟨rfl, List.forall_mem_cons.mpr ⟨rfl, List.forall_mem_cons.mpr ⟨rfl, List.forall_mem_cons.mpr ⟨rfl, List.forall_mem_cons.mpr ⟨rfl, List.forall_mem_cons.mpr ⟨rfl, List.forall_mem_cons.mpr ⟨rfl, List.forall_mem_cons.mpr ⟨rfl, List.forall_mem_cons.mpr ⟨rfl, List.forall_mem_cons.mpr ⟨rfl, List.forall_mem_cons.mpr ⟨rfl, List.forall_mem_cons.mpr ⟨rfl, List.forall_mem_cons.mpr ⟨rfl, List.forall_mem_cons.mpr ⟨rfl, fun _ h => absurd h List.not_mem_nil⟩⟩⟩⟩⟩⟩⟩⟩⟩⟩⟩⟩⟩⟩⟩⟩
set_option maxRecDepth 100000 in
theorem mc_7 : ∀ e ∈ mPT_7, mcP e := List.forall_mem_cons.mpr ⟨rfl, List.forall_mem_cons.mpr ⟨rfl, List.forall_mem_cons.mpr ⟨rfl, List.forall_mem_cons.mpr ⟨rfl, List.forall_mem_cons.mpr ⟨rfl, List.forall_mem_cons.mpr ⟨rfl, List.forall_mem_cons.mpr ⟨rfl, List.forall_mem_cons.mpr ⟨rfl, List.forall_mem_cons.mpr ⟨rfl, List.forall_mem_cons.mpr ⟨rfl, List.forall_mem_cons.mpr ⟨rfl, List.forall_mem_cons.mpr ⟨rfl, List.forall_mem_cons.mpr ⟨rfl, List.forall_mem_cons.mpr ⟨rfl, List.forall_mem_cons.mpr ⟨rfl, List.forall_mem_cons.mpr ⟨rfl, fun _ h => absurd h List.not_mem_nil⟩⟩⟩⟩⟩⟩⟩⟩⟩⟩⟩⟩⟩⟩⟩⟩
set_option maxRecDepth 100000 in
theorem mc_8 : ∀ e ∈ mPT_8, mcP e := List.forall_mem_cons.mpr ⟨rfl, List.forall_mem_cons.mpr ⟨rfl, List.forall_mem_cons.mpr ⟨rfl, List.forall_mem_cons.mpr ⟨rfl, List.forall_mem_cons.mpr ⟨rfl, List.forall_mem_cons.mpr ⟨rfl, List.forall_mem_cons.mpr ⟨rfl, List.forall_mem_cons.mpr ⟨rfl, List.forall_mem_cons.mpr ⟨rfl, List.forall_mem_cons.mpr ⟨rfl, List.forall_mem_cons.mpr ⟨rfl, List.forall_mem_cons.mpr ⟨rfl, List.forall_mem_cons.mpr ⟨rfl, List.forall_mem_cons.mpr ⟨rfl, List.forall_mem_cons.mpr ⟨rfl, List.forall_mem_cons.mpr ⟨rfl, fun _ h => absurd h List.not_mem_nil⟩⟩⟩⟩⟩⟩⟩⟩⟩⟩⟩⟩⟩⟩⟩⟩
set_option maxRecDepth 100000 in
theorem mc_9 : ∀ e ∈ mPT_9, mcP e := List.forall_mem_cons.mpr ⟨rfl, fun _ h => absurd h List.not_mem_nil⟩
theorem mc_all : ∀ e ∈ mPT, mcP e := List.forall_mem_append.mpr ⟨mc_0, List.forall_mem_append.mpr ⟨mc_1, List.forall_mem_append.mpr ⟨mc_2, List.forall_mem_append.mpr ⟨mc_3, List.forall_mem_append.mpr ⟨mc_4, List.forall_mem_append.mpr ⟨mc_5, List.forall_mem_append.mpr ⟨mc_6, List.forall_mem_append.mpr ⟨mc_7, List.forall_mem_append.mpr ⟨mc_8, mc_9⟩⟩⟩⟩⟩⟩⟩⟩⟩
end
section
/-! the links and the methods, held against the words of the tables -/
theorem lookup_mem {α β : Type} [BEq α] [LawfulBEq α] {l : List (α × β)} {a : α} {b : β} (h : l.lookup a = some b) : (a, b) ∈ l := by
  induction l with
  | nil => simp at h
  | cons x l ih =>
    obtain ⟨k, v⟩ := x
    rw [List.lookup_cons] at h
    by_cases hk : a == k
    · have e := eq_of_beq hk
      subst e
      simp at h
      subst h
      exact List.mem_cons_self
    · simp [hk] at h
      exact List.mem_cons_of_mem _ (ih h)
def fldOf (o idx : Nat) : Option (Nat × Nat) := (fldT.lookup (o, idx)).map (fun e => (e.1, e.2.1))
def callOf (o idx : Nat) : Option (Nat × Nat) := (callT.lookup (o, idx)).map (fun e => (e.1, e.2.1))
def clOf (o idx : Nat) : Option Nat := (clT.lookup (o, idx)).map (fun e => e.1)
def xN (x : Nat) : String := if x = 100 then "java/lang/IllegalArgumentException" else if x = 101 then "java/lang/IllegalStateException" else "java/lang/IndexOutOfBoundsException"
def cN (c : Nat) : String := if c < 100 then RN c else xN c
def mY (k : Nat) : MethodName := ((mth k).map (fun M => M.1)).getD yX0_init
def fldW (e : (Nat × Nat) × Nat × Nat × Nat) : Jvm.Cond := .fieldLink (RN e.1.1) e.1.2 (RN e.2.1) (TN e.2.1 e.2.2.1).2.1 (TN e.2.1 e.2.2.1).2.2.1
def callW (e : (Nat × Nat) × Nat × Nat × Nat) : Jvm.Cond := if e.2.1 = 2 then .methodLinkNest (RN e.1.1) e.1.2 (mY e.2.2.1) "DedupVault" else if e.2.1 = 4 then .methodLink (RN e.1.1) e.1.2 objectInit else if e.2.1 = 5 then .methodLink (RN e.1.1) e.1.2 Lib.Math.min.name else .methodLink (RN e.1.1) e.1.2 (mY e.2.2.1)
def clW (e : (Nat × Nat) × Nat × Nat) : Jvm.Cond := .classLink (RN e.1.1) e.1.2 (cN e.2.1)
set_option maxRecDepth 100000 in
theorem fld_all : ∀ e ∈ fldT, lw_tbl[e.2.2.2]? = some (fldW e) ∧ goodWord (fldW e) = true ∧ e.2.2.1 < NN e.2.1 ∧ e.2.1 < 9 ∧ 1 ≤ e.2.1 := by decide +kernel
set_option maxRecDepth 100000 in
theorem call_all : ∀ e ∈ callT, lw_tbl[e.2.2.2]? = some (callW e) ∧ (e.2.1 ≠ 2 → goodWord (callW e) = true) := by decide +kernel
set_option maxRecDepth 100000 in
theorem cl_all : ∀ e ∈ clT, lw_tbl[e.2.2]? = some (clW e) ∧ goodWord (clW e) = true := by decide +kernel
/-- a method's words: code, initialised, static or of an instance, selected -/
def mW (M : MI) : List Jvm.Cond := [.initialized M.1.cls, if M.2.2.2.2.2.1 then .static M.1 else .instanceMethod M.1]
def mSel (M : MI) : Jvm.Cond := .selects M.1.cls M.1 M.1
def mOk (M : MI) (p : Nat × Nat × Nat × Nat) : Prop := lw_tbl[p.2.1]? = some (.initialized M.1.cls) ∧ lw_tbl[p.2.2.1]? = some (if M.2.2.2.2.2.1 then .static M.1 else .instanceMethod M.1) ∧ (M.2.2.2.2.2.1 = false → M.1.name ≠ "<init>" → lw_tbl[p.2.2.2]? = some (mSel M)) ∧ M.1.cls = RN M.2.2.2.2.1
def mOkB (M : MI) (p : Nat × Nat × Nat × Nat) : Bool := decide (lw_tbl[p.2.1]? = some (.initialized M.1.cls)) && decide (lw_tbl[p.2.2.1]? = some (if M.2.2.2.2.2.1 then .static M.1 else .instanceMethod M.1)) && (M.2.2.2.2.2.1 || decide (M.1.name = "<init>") || decide (lw_tbl[p.2.2.2]? = some (mSel M))) && decide (M.1.cls = RN M.2.2.2.2.1)
theorem mOk_of {M : MI} {p : Nat × Nat × Nat × Nat} (h : mOkB M p = true) : mOk M p := by
  simp only [mOkB, Bool.and_eq_true, Bool.or_eq_true, decide_eq_true_eq] at h
  obtain ⟨⟨⟨h1, h2⟩, h3⟩, h4⟩ := h
  refine ⟨h1, h2, fun q1 q2 => ?_, h4⟩
  rcases h3 with (h3 | h3) | h3
  · rw [q1] at h3; cases h3
  · exact absurd h3 q2
  · exact h3
set_option maxRecDepth 100000 in
theorem m_allB : ∀ e ∈ mPT, mOkB e.1 e.2 = true := by decide +kernel
theorem m_in {k : Nat} {M : MI} (h : mth k = some M) : ∃ p, (M, p) ∈ mPT := by
  unfold mth at h
  cases hk : mPT[k]? with
  | none => rw [hk] at h; cases h
  | some e =>
    rw [hk] at h
    cases h
    exact ⟨e.2, List.mem_of_getElem? hk⟩
theorem m_ok {k : Nat} {M : MI} (h : mth k = some M) : ∃ p, mOk M p := by
  obtain ⟨p, hp⟩ := m_in h
  exact ⟨p, mOk_of (m_allB _ hp)⟩
theorem m_code {k : Nat} {M : MI} (h : mth k = some M) : ∃ p : Nat, lw_tbl[p]? = some (.code M.1 M.2.1 M.2.2.1 M.2.2.2.1) := by
  obtain ⟨p, hp⟩ := m_in h
  exact ⟨_, mc_all _ hp⟩
set_option maxRecDepth 100000 in
theorem m_stB : ∀ e ∈ mPT, (e.1.2.2.2.2.2.1 || decide (e.1.2.2.2.2.1 < 9)) = true := by decide +kernel
/-- a method of an object is no method of the law -/
theorem m_st {k : Nat} {M : MI} (h : mth k = some M) (hs : M.2.2.2.2.2.1 = false) : M.2.2.2.2.1 < 9 := by
  obtain ⟨p, hp⟩ := m_in h
  have h1 := m_stB _ hp
  rw [hs, Bool.false_or, decide_eq_true_eq] at h1
  exact h1
set_option maxRecDepth 100000 in
theorem m_argsB : ∀ e ∈ mPT, (parseMethodDescriptor e.1.1.desc).map (fun d => d.parameters.length) = some e.1.2.2.2.2.2.2 := by decide +kernel
theorem m_args {k : Nat} {M : MI} (h : mth k = some M) : (parseMethodDescriptor M.1.desc).map (fun d => d.parameters.length) = some M.2.2.2.2.2.2 := by
  obtain ⟨p, hp⟩ := m_in h
  exact m_argsB _ hp
/-- what a call's sort says of the method called -/
def callB (e : (Nat × Nat) × Nat × Nat × Nat) : Bool := match mth e.2.2.1 with
  | none => false
  | some M => match e.2.1 with
    | 0 => !M.2.2.2.2.2.1 && decide (M.1.name ≠ "<init>")
    | 1 => M.2.2.2.2.2.1
    | 2 => M.2.2.2.2.2.1
    | 3 => !M.2.2.2.2.2.1 && decide (M.1.name = "<init>") && M.2.2.2.1.isNone
    | _ => true
set_option maxRecDepth 100000 in
theorem call_chk : ∀ e ∈ callT, callB e = true := by decide +kernel
set_option maxRecDepth 100000 in
theorem m_mlB : ∀ e ∈ mPT, e.1.2.2.1 ≤ 20 ∧ plainName e.1.1.cls = true ∧ (e.1.1.cls ≠ "java/lang/invoke/MethodHandle" ∧ e.1.1.cls ≠ "java/lang/invoke/VarHandle") := by decide +kernel
theorem m_ml {k : Nat} {M : MI} (h : mth k = some M) : M.2.2.1 ≤ 20 ∧ plainName M.1.cls = true ∧ (M.1.cls ≠ "java/lang/invoke/MethodHandle" ∧ M.1.cls ≠ "java/lang/invoke/VarHandle") := by
  obtain ⟨p, hp⟩ := m_in h
  exact m_mlB _ hp
end
section
/-! the store: what the heap is, field by field; lists whole -/
abbrev TS : Type := Nat × Nat × (Nat → Nat) × (Nat → Nat → Int32) × (Nat → Nat → Option Nat) × (Nat → Nat → Int32) × (Nat → Nat) × (Nat → Nat → Int64) × (Nat → List Nat) × (Nat → Nat)
/-- the heap's size, the slots used -/
def tn (T : TS) : Nat := T.1
def tu (T : TS) : Nat := T.2.1
/-- the kind of an address: 0 not known, c + 1 an object of class c, 20 ints, 21 bytes, 22 longs, 23 a list, 25 the empty row, 26 the script -/
def tK (T : TS) : Nat → Nat := T.2.2.1
def tI (T : TS) : Nat → Nat → Int32 := T.2.2.2.1
def tR (T : TS) : Nat → Nat → Option Nat := T.2.2.2.2.1
def tA (T : TS) : Nat → Nat → Int32 := T.2.2.2.2.2.1
def tl (T : TS) : Nat → Nat := T.2.2.2.2.2.2.1
def tJ (T : TS) : Nat → Nat → Int64 := T.2.2.2.2.2.2.2.1
def tL (T : TS) : Nat → List Nat := T.2.2.2.2.2.2.2.2.1
def tc (T : TS) : Nat → Nat := T.2.2.2.2.2.2.2.2.2
def up1 {α : Type} (g : Nat → α) (a : Nat) (v : α) : Nat → α := fun b => if b = a then v else g b
def up2 {α : Type} (g : Nat → Nat → α) (f a : Nat) (v : α) : Nat → Nat → α := fun h b => if h = f ∧ b = a then v else g h b
def sI (f a : Nat) (v : Int32) (T : TS) : TS := (tn T, tu T, tK T, up2 (tI T) f a v, tR T, tA T, tl T, tJ T, tL T, tc T)
def sR (f a : Nat) (v : Option Nat) (T : TS) : TS := (tn T, tu T, tK T, tI T, up2 (tR T) f a v, tA T, tl T, tJ T, tL T, tc T)
def sA (a i : Nat) (v : Int32) (T : TS) : TS := (tn T, tu T, tK T, tI T, tR T, up2 (tA T) a i v, tl T, tJ T, tL T, tc T)
def sJ (a i : Nat) (v : Int64) (T : TS) : TS := (tn T, tu T, tK T, tI T, tR T, tA T, tl T, up2 (tJ T) a i v, tL T, tc T)
/-- a new object of class c -/
def nO (c : Nat) (T : TS) : TS := (tn T + 1, tu T + NN c, up1 (tK T) (tn T) (c + 1), fun f a => if a = tn T then 0 else tI T f a, fun f a => if a = tn T then none else tR T f a, tA T, tl T, tJ T, tL T, tc T)
/-- a new row of kind k, of n places -/
def nA (k n : Nat) (T : TS) : TS := (tn T + 1, tu T + n, up1 (tK T) (tn T) k, tI T, tR T, up1 (tA T) (tn T) (fun _ => 0), up1 (tl T) (tn T) n, up1 (tJ T) (tn T) (fun _ => 0), tL T, tc T)
/-- an exception was made -/
def nX (T : TS) : TS := (tn T + 1, tu T + 6, tK T, tI T, tR T, tA T, tl T, tJ T, tL T, tc T)
/-- a list object becomes a list; a list's content; a list grows -/
def sL (a : Nat) (xs : List Nat) (T : TS) : TS := (tn T, tu T, tK T, tI T, tR T, tA T, tl T, tJ T, up1 (tL T) a xs, tc T)
def nL (a : Nat) (T : TS) : TS := (tn T, tu T, up1 (tK T) a 23, tI T, tR T, tA T, tl T, tJ T, up1 (tL T) a [], up1 (tc T) a 0)
def gL (a c : Nat) (T : TS) : TS := (tn T + 1, tu T + c, tK T, tI T, tR T, tA T, tl T, tJ T, tL T, up1 (tc T) a c)
/-- the room that a full list of room c takes next -/
def lcap (c : Nat) : Nat := if c = 0 then 10 else c + max 1 (c / 2)
/-- a list has room for one more -/
def fit (a : Nat) (T : TS) : TS := if (tL T a).length = tc T a then gL a (lcap (tc T a)) T else T
/-- outcomes: an answer, or an exception by its number -/
abbrev Out : Type := Option Value ⊕ Nat
/-- the list methods, by their numbers in the table: 0 <init>, 3 size, 5 get, 7 add, 8 add at a place, 9 remove -/
def lst (mid : Nat) (as : List Value) (T : TS) (out : Out) (T' : TS) : Prop := match mid with
  | 0 => ∃ a, as = [.ref a] ∧ tK T a = 1 ∧ tI T 0 a = 0 ∧ tR T 1 a = none ∧ tI T 2 a = 0 ∧ out = .inl none ∧ T' = nL a T
  | 3 => ∃ a, as = [.ref a] ∧ tK T a = 23 ∧ out = .inl (some (.int (nI (tL T a).length))) ∧ T' = T
  | 5 => ∃ a k b, as = [.ref a, .int (nI k)] ∧ tK T a = 23 ∧ k < 2 ^ 31 ∧ (tL T a)[k]? = some b ∧ out = .inl (some (.ref b)) ∧ T' = T
  | 7 => ∃ a b, as = [.ref a, .ref b] ∧ tK T a = 23 ∧ 2 ≤ tK T b ∧ tK T b ≤ 9 ∧ tc T a ≤ 100000 ∧ out = .inl (some (.int 1)) ∧ T' = sL a (tL T a ++ [b]) (fit a T)
  | 8 => ∃ a k b, as = [.ref a, .int (nI k), .ref b] ∧ tK T a = 23 ∧ 2 ≤ tK T b ∧ tK T b ≤ 9 ∧ tc T a ≤ 100000 ∧ k ≤ (tL T a).length ∧ k < 2 ^ 31 ∧ out = .inl none ∧ T' = sL a ((tL T a).insertIdx k b) (fit a T)
  | 9 => ∃ a k b, as = [.ref a, .int (nI k)] ∧ tK T a = 23 ∧ k < 2 ^ 31 ∧ (tL T a)[k]? = some b ∧ out = .inl (some (.ref b)) ∧ T' = sL a ((tL T a).eraseIdx k) T
  | _ => False
/-! the machine over the store -/
abbrev Loc0 : Type := List (Nat × Value)
def lget (l : Loc0) (k : Nat) : Option Value := match l with
  | [] => none
  | (j, v) :: l => if j = k then some v else lget l k
/-- what is left of the locals when place k takes a value of one word, of two -/
def ldel (l : Loc0) (k : Nat) : Loc0 := match l with
  | [] => []
  | (j, v) :: l => if j = k ∨ (j + 1 = k ∧ v.category = 2) then ldel l k else (j, v) :: ldel l k
def ldel2 (l : Loc0) (k : Nat) : Loc0 := match l with
  | [] => []
  | (j, v) :: l => if j = k ∨ j = k + 1 ∨ (j + 1 = k ∧ v.category = 2) then ldel2 l k else (j, v) :: ldel2 l k
abbrev Cfg : Type := Nat × Loc0 × List Value × TS
/-- the length of an instruction, as it stands in this code -/
def ilen : Instr → Nat
  | .bipush _ | .iload _ | .aload _ | .dload _ | .lload _ | .istore _ | .astore _ | .dstore _ | .lstore _ | .ldc _ | .newarray _ => 2
  | .ldc2_w _ | .sipush _ | .iinc _ _ | .ifCond _ _ | .if_icmp _ _ | .if_acmp _ _ | .ifnull _ | .ifnonnull _ | .goto _ | .getfield _ | .putfield _ | .getstatic _ | .invokevirtual _ | .invokespecial _ | .invokestatic _ | .new _ | .checkcast _ | .anewarray _ => 3
  | _ => 1
def cmpB (c : Jvm.ClassFile.Cond) (x y : Int32) : Bool := match c with
  | .eq => decide (x = y) | .ne => decide (¬ x = y) | .lt => decide (x < y) | .ge => decide (y ≤ x) | .gt => decide (y < x) | .le => decide (x ≤ y)
def kOf : ArrayType → Nat
  | .int => 20 | .long => 22 | _ => 0
def isRef (v : Value) : Prop := v = .null ∨ ∃ a, v = .ref a
/-- the law's own numbers -/
def ldcT (o n : Nat) : Option Int32 := if o = 9 then (if n = 161 then some 1073741824 else if n = 7 then some 735439303 else if n = 8 then some 1578607569 else if n = 9 then some 2147483647 else none) else none
/-- the stack's steps, which touch nothing but the stack -/
def stkF (o : Nat) (i : Instr) (st : List Value) : Option (List Value) := match i with
  | .iconst n => some (.int (Int32.ofInt n) :: st)
  | .bipush n => some (.int (Int8.ofInt n).toInt32 :: st)
  | .sipush n => some (.int (Int16.ofInt n).toInt32 :: st)
  | .lconst n => some (.long (Int64.ofNat n) :: st)
  | .dconst n => if n = 0 then some (.double FP.dconst0 :: st) else none
  | .aconst_null => some (.null :: st)
  | .ldc n => match ldcT o n with | some v => some (.int v :: st) | none => none
  | .ldc2_w n => if o = 9 ∧ n = 135 then some (.long (-1) :: st) else none
  | .iadd => match st with | .int y :: .int x :: st => some (.int (x + y) :: st) | _ => none
  | .isub => match st with | .int y :: .int x :: st => some (.int (x - y) :: st) | _ => none
  | .imul => match st with | .int y :: .int x :: st => some (.int (x * y) :: st) | _ => none
  | .irem => match st with | .int y :: .int x :: st => if y = 0 then none else some (.int (x - x / y * y) :: st) | _ => none
  | .idiv => match st with | .int y :: .int x :: st => if y = 0 then none else some (.int (x / y) :: st) | _ => none
  | .land => match st with | .long y :: .long x :: st => some (.long (x &&& y) :: st) | _ => none
  | .lor => match st with | .long y :: .long x :: st => some (.long (x ||| y) :: st) | _ => none
  | .lxor => match st with | .long y :: .long x :: st => some (.long (x ^^^ y) :: st) | _ => none
  | .lshl => match st with | .int y :: .long x :: st => some (.long (x <<< (y.toInt64 &&& 63)) :: st) | _ => none
  | .lshr => match st with | .int y :: .long x :: st => some (.long (x >>> (y.toInt64 &&& 63)) :: st) | _ => none
  | .l2i => match st with | .long x :: st => some (.int x.toInt32 :: st) | _ => none
  | .iand => match st with | .int y :: .int x :: st => some (.int (x &&& y) :: st) | _ => none
  | .i2l => match st with | .int x :: st => some (.long x.toInt64 :: st) | _ => none
  | .i2b => match st with | .int x :: st => some (.int x.toInt8.toInt32 :: st) | _ => none
  | .i2d => match st with | .int x :: st => some (.double (FP.i2d x) :: st) | _ => none
  | .lcmp => match st with | .long y :: .long x :: st => some (.int (lg_cmp x y) :: st) | _ => none
  | .dcmp op => match st with | .double y :: .double x :: st => some (.int (Op.cmpValue (FP.dcmp x y) op) :: st) | _ => none
  | .ddiv => match st with | .double y :: .double x :: st => if (FP.ddiv x y) &&& 0x7fffffffffffffff ≤ 0x7ff0000000000000 then some (.double (FP.ddiv x y) :: st) else none | _ => none
  | .dup => match st with | .int v :: st => some (.int v :: .int v :: st) | .ref v :: st => some (.ref v :: .ref v :: st) | _ => none
  | .dup2 => match st with | .int y :: .ref x :: st => some (.int y :: .ref x :: .int y :: .ref x :: st) | _ => none
  | .pop => match st with | .int _ :: st => some st | .ref _ :: st => some st | _ => none
  | _ => none
/-- the branches -/
def jmp (pc : Nat) (off : Int) (st : List Value) : Option (Nat × List Value) := if 0 ≤ (pc : Int) + off then some (((pc : Int) + off).toNat, st) else none
def braF (i : Instr) (pc : Nat) (st : List Value) : Option (Nat × List Value) := match i with
  | .ifCond c off => match st with | .int x :: st => if 0 ≤ (pc : Int) + off then some (if cmpB c x 0 = true then ((pc : Int) + off).toNat else pc + 3, st) else none | _ => none
  | .if_icmp c off => match st with | .int y :: .int x :: st => if 0 ≤ (pc : Int) + off then some (if cmpB c x y = true then ((pc : Int) + off).toNat else pc + 3, st) else none | _ => none
  | .if_acmp c off => match st with | .ref y :: .ref x :: st => if 0 ≤ (pc : Int) + off then (if c = .ne then some (if x = y then pc + 3 else ((pc : Int) + off).toNat, st) else some (if x = y then ((pc : Int) + off).toNat else pc + 3, st)) else none | .ref _ :: .null :: st => if 0 ≤ (pc : Int) + off then (if c = .ne then some (((pc : Int) + off).toNat, st) else some (pc + 3, st)) else none | _ => none
  | .ifnull off => match st with | .ref _ :: st => some (pc + 3, st) | .null :: st => jmp pc off st | _ => none
  | .ifnonnull off => match st with | .ref _ :: st => jmp pc off st | .null :: st => some (pc + 3, st) | _ => none
  | .goto off => jmp pc off st
  | .tableswitch dflt lo hi offs => match st with | .int x :: st => if x.toInt < lo ∨ hi < x.toInt then jmp pc dflt st else (match offs[(x.toInt - lo).toNat]? with | some off => jmp pc off st | none => none) | _ => none
  | _ => none
/-- the locals' steps -/
def locF (nL : Nat) (i : Instr) (l : Loc0) (st : List Value) : Option (Loc0 × List Value) := match i with
  | .iload k => match lget l k with | some (.int x) => some (l, .int x :: st) | _ => none
  | .iload_n k => match lget l k with | some (.int x) => some (l, .int x :: st) | _ => none
  | .aload k => match lget l k with | some (.ref x) => some (l, .ref x :: st) | some .null => some (l, .null :: st) | _ => none
  | .aload_n k => match lget l k with | some (.ref x) => some (l, .ref x :: st) | some .null => some (l, .null :: st) | _ => none
  | .dload k => match lget l k with | some (.double x) => some (l, .double x :: st) | _ => none
  | .lload_n k => match lget l k with | some (.long x) => some (l, .long x :: st) | _ => none
  | .istore k => match st with | .int x :: st => if k < nL then some ((k, .int x) :: ldel l k, st) else none | _ => none
  | .istore_n k => match st with | .int x :: st => if k < nL then some ((k.1, .int x) :: ldel l k, st) else none | _ => none
  | .astore k => match st with | .ref x :: st => if k < nL then some ((k, .ref x) :: ldel l k, st) else none | .null :: st => if k < nL then some ((k, .null) :: ldel l k, st) else none | _ => none
  | .astore_n k => match st with | .ref x :: st => if k < nL then some ((k.1, .ref x) :: ldel l k, st) else none | .null :: st => if k < nL then some ((k.1, .null) :: ldel l k, st) else none | _ => none
  | .dstore k => match st with | .double x :: st => if k + 1 < nL then some ((k, .double x) :: ldel2 l k, st) else none | _ => none
  | .iinc k n => match lget l k with | some (.int x) => if k < nL then some ((k, .int (x + Int32.ofInt n)) :: ldel l k, st) else none | _ => none
  | _ => none
/-- the heap's steps -/
def hpF (o : Nat) (ini : Bool) (i : Instr) (st : List Value) (T : TS) : Option (List Value × TS) := match i with
  | .getfield idx => match st with
    | .ref a :: st => (fldOf o idx).bind (fun f => if tK T a = f.1 + 1 then some ((if fI f.1 f.2 then .int (tI T (32 * f.1 + f.2) a) else va_rf (tR T (32 * f.1 + f.2) a)) :: st, T) else none)
    | _ => none
  | .putfield idx => match st with
    | .int v :: .ref a :: st => (fldOf o idx).bind (fun f => if tK T a = f.1 + 1 ∧ fI f.1 f.2 = true ∧ (fF f.1 f.2 = false ∨ (ini = true ∧ f.1 = o)) then some (st, sI (32 * f.1 + f.2) a v T) else none)
    | .ref v :: .ref a :: st => (fldOf o idx).bind (fun f => if tK T a = f.1 + 1 ∧ fI f.1 f.2 = false ∧ (fF f.1 f.2 = false ∨ (ini = true ∧ f.1 = o)) then some (st, sR (32 * f.1 + f.2) a (some v) T) else none)
    | .null :: .ref a :: st => (fldOf o idx).bind (fun f => if tK T a = f.1 + 1 ∧ fI f.1 f.2 = false ∧ (fF f.1 f.2 = false ∨ (ini = true ∧ f.1 = o)) then some (st, sR (32 * f.1 + f.2) a none T) else none)
    | _ => none
  | .arraylength => match st with | .ref a :: st => if tK T a = 20 ∨ tK T a = 26 then some (.int (nI (tl T a)) :: st, T) else none | _ => none
  | .iaload => match st with | .int i :: .ref a :: st => if (tK T a = 20 ∨ tK T a = 26) ∧ (¬ (i < 0 ∨ tl T a ≤ i.toNatClampNeg)) then some (.int (tA T a i.toNatClampNeg) :: st, T) else none | _ => none
  | .laload => match st with | .int i :: .ref a :: st => if tK T a = 22 ∧ (¬ (i < 0 ∨ tl T a ≤ i.toNatClampNeg)) then some (.long (tJ T a i.toNatClampNeg) :: st, T) else none | _ => none
  | .iastore => match st with | .int v :: .int i :: .ref a :: st => if tK T a = 20 ∧ (¬ (i < 0 ∨ tl T a ≤ i.toNatClampNeg)) then some (st, sA a i.toNatClampNeg v T) else none | _ => none
  | .lastore => match st with | .long v :: .int i :: .ref a :: st => if tK T a = 22 ∧ (¬ (i < 0 ∨ tl T a ≤ i.toNatClampNeg)) then some (st, sJ a i.toNatClampNeg v T) else none | _ => none
  | .newarray t => match st with | .int n :: st => if ¬ n < 0 ∧ n.toNatClampNeg ≤ 1000000 ∧ kOf t ≠ 0 then some (.ref (tn T) :: st, nA (kOf t) n.toNatClampNeg T) else none | _ => none
  | .checkcast idx => match st with
    | .ref a :: st => (clOf o idx).bind (fun ci => if tK T a = ci + 1 ∧ 1 ≤ ci ∧ ci ≤ 8 then some (.ref a :: st, T) else none)
    | _ => none
  | .new idx => (clOf o idx).bind (fun ci => if ci ≤ 8 then some (.ref (tn T) :: st, nO ci T) else none)
  | _ => none
end
section
/-- the last n of the stack, in the order in which they were pushed, and what lies under them -/
def popN (n : Nat) (st : List Value) : Option (List Value × List Value) := match n, st with
  | 0, st => some ([], st)
  | 1, a :: st => some ([a], st)
  | 2, b :: a :: st => some ([a, b], st)
  | 3, c :: b :: a :: st => some ([a, b, c], st)
  | 4, d :: c :: b :: a :: st => some ([a, b, c, d], st)
  | 5, e :: d :: c :: b :: a :: st => some ([a, b, c, d, e], st)
  | 6, f :: e :: d :: c :: b :: a :: st => some ([a, b, c, d, e, f], st)
  | 7, g :: f :: e :: d :: c :: b :: a :: st => some ([a, b, c, d, e, f, g], st)
  | _, _ => none
/-- what an instruction is: 1 an end, 2 a call, 0 else -/
def icls : Instr → Nat
  | .ireturn | .areturn | .dreturn | .return_ => 1
  | .invokevirtual _ | .invokestatic _ | .invokespecial _ => 2
  | .new _ => 3
  | _ => 0
def rtRef (rt : Option FieldType) : Bool := match rt with
  | some (.object _) => true
  | some (.array _) => true
  | _ => false
/-- an end: what is answered -/
def endF (rt : Option FieldType) (i : Instr) (st : List Value) : Option (Option Value) := match i with
  | .ireturn => match st with | [.int x] => if rt = some .int ∨ (rt = some .boolean ∧ (x = 0 ∨ x = 1)) then some (some (.int x)) else none | _ => none
  | .areturn => match st with | [.ref x] => if rtRef rt = true then some (some (.ref x)) else none | [.null] => if rtRef rt = true then some (some .null) else none | _ => none
  | .dreturn => match st with | [.double x] => if rt = some .double then some (some (.double x)) else none | _ => none
  | .return_ => match st with | [] => if rt = none then some none else none | _ => none
  | _ => none
/-- a step that is no call and no end -/
def step (o nL : Nat) (ini : Bool) (i : Instr) (pc : Nat) (l : Loc0) (st : List Value) (T : TS) : Option Cfg :=
  match stkF o i st with
  | some st' => some (pc + ilen i, l, st', T)
  | none => match locF nL i l st with
    | some (l', st') => some (pc + ilen i, l', st', T)
    | none => match braF i pc st with
      | some (pc', st') => some (pc', l, st', T)
      | none => match hpF o ini i st T with
        | some (st', T') => some (pc + ilen i, l, st', T')
        | none => none
/-- which call it is -/
def cixOf : Instr → Option Nat
  | .invokevirtual k | .invokestatic k | .invokespecial k => some k
  | _ => none
/-- the sort of call that an instruction can be -/
def csort (i : Instr) (k : Nat) : Prop := match i with
  | .invokevirtual _ => k = 0
  | .invokestatic _ => k = 1 ∨ k = 2 ∨ k = 5
  | .invokespecial _ => k = 3 ∨ k = 4
  | _ => False
/-- where a method with a table of handlers goes on: (from, to, handler, class) -/
abbrev Hn : Type := List (Nat × Nat × Nat × Nat)
def hnd (hs : Hn) (pc x : Nat) : Option Nat := (hs.find? (fun h => decide (h.1 ≤ pc) && decide (pc < h.2.1) && decide (h.2.2.2 = x))).map (fun h => h.2.2.1)
/-- the lengths of instructions, a table's apart -/
def lenOk (i : Instr) (len : Nat) : Prop := match i with
  | .tableswitch _ _ _ _ => True
  | _ => len = ilen i
/-- a run of a method's body, to an outcome; C: what its calls do -/
def run (C : Nat → List Value → TS → Out → TS → Prop) (M : MI) (hs : Hn) : Nat → Nat → Loc0 → List Value → TS → Out → TS → Prop
  | 0, _, _, _, _, _, _ => False
  | n + 1, pc, l, st, T, out, T' => ∃ i len, decode M.2.1 pc = .ok (i, len) ∧ lenOk i len ∧ match icls i with
    | 1 => ∃ v, endF M.2.2.2.1 i st = some v ∧ out = .inl v ∧ T' = T
    | 2 => ∃ idx k mid, cixOf i = some idx ∧ callOf M.2.2.2.2.1 idx = some (k, mid) ∧ csort i k ∧ k ≤ 5 ∧
        match k with
        | 4 => ∃ a st', st = .ref a :: st' ∧ st'.length ≤ 4 ∧ run C M hs n (pc + 3) l st' T out T'
        | 5 => ∃ x y st', st = .int y :: .int x :: st' ∧ st'.length ≤ 4 ∧ run C M hs n (pc + 3) l (.int (if y < x then y else x) :: st') T out T'
        | _ => ∃ M' As st' st2 r T1, mth mid = some M' ∧ popN M'.2.2.2.2.2.2 st = some (As, st') ∧
            (if M'.2.2.2.2.2.1 then st2 = st' else ∃ a, st' = .ref a :: st2 ∧ (k = 3 ∨ tK T a = M'.2.2.2.2.1 + 1 ∨ (tK T a = 23 ∧ M'.2.2.2.2.1 = 0))) ∧ st2.length ≤ 4 ∧
            C mid (if M'.2.2.2.2.2.1 then As else st'.take 1 ++ As) T r T1 ∧
            match r with
            | .inl v => run C M hs n (pc + 3) l (v.toList ++ st2) T1 out T'
            | .inr x => match hnd hs pc x with
              | none => out = .inr x ∧ T' = T1
              | some h => ∃ k9 : Nat, k9 < M.2.2.1 ∧ (((∃ q : Fin 4, k9 = q ∧ decode M.2.1 h = .ok (.astore_n q, 1)) ∧ run C M hs n (h + 1) (ldel l k9) [] T1 out T') ∨ (decode M.2.1 h = .ok (.astore k9, 2) ∧ run C M hs n (h + 2) (ldel l k9) [] T1 out T'))
    | 3 => ∃ idx ci, i = .new idx ∧ clOf M.2.2.2.2.1 idx = some ci ∧ ((ci ≤ 8 ∧ run C M hs n (pc + 3) l (.ref (tn T) :: st) (nO ci T) out T') ∨
        (M.2.2.2.2.1 = 7 ∧ 100 ≤ ci ∧ ci ≤ 102 ∧ st.length ≤ 4 ∧ decode M.2.1 (pc + 3) = .ok (.dup, 1) ∧ decode M.2.1 (pc + 4) = .ok (.invokespecial (if ci = 100 then 46 else if ci = 101 then 53 else 73), 3) ∧ decode M.2.1 (pc + 7) = .ok (.athrow, 1) ∧ hs = [] ∧ out = .inr ci ∧ T' = nX T))
    | _ => ∃ pc' l' st' T1, step M.2.2.2.2.1 M.2.2.1 (M.1.name == "<init>") i pc l st T = some (pc', l', st', T1) ∧ run C M hs n pc' l' st' T1 out T'
def lwHT : List (Nat × List (Nat × Nat × Nat × Nat)) := []
/-- the handlers of the law's methods, by their numbers -/
def lwH (mid : Nat) : Hn := (lwHT.lookup mid).getD []
/-- a call, d deep at most -/
def Call : Nat → Nat → List Value → TS → Out → TS → Prop
  | 0 => fun _ _ _ _ _ => False
  | d + 1 => fun mid as T out T' => lst mid as T out T' ∨ (12 < mid ∧ ∃ M n, mth mid = some M ∧ (lg_sl as).length ≤ M.2.2.1 ∧ run (Call d) M (lwH mid) n 0 (lv_args 0 as) [] T out T')
end
section
/-! the frames that a method takes at most: printed by wip/p40/mach.py; and that no instruction of its code calls deeper -/
def frL : List Nat := [3, 1, 1, 1, 1, 3, 1, 6, 5, 3, 1, 1, 1, 1, 1, 1, 1, 1, 1, 1, 4, 1, 1, 2, 2, 7, 4, 4, 7, 4, 3, 2, 1, 1, 2, 4, 2, 1, 1, 1, 2, 3, 1, 2, 7, 1, 1, 2, 2, 4, 6, 5, 4, 4, 5, 9, 5, 8, 7, 6, 4, 9, 8, 4, 1, 1, 1, 1, 2, 4, 7, 4, 4, 1, 7, 7, 1, 6, 5, 8, 6, 7, 6, 6, 3, 2, 6, 10, 8, 7, 10, 2, 6, 6, 7, 7, 7, 7, 7, 7, 7, 8, 6, 5, 7, 7, 7, 7, 3, 3, 6, 2, 2, 5, 4, 6, 5, 1, 1, 1, 2, 4, 6, 6, 4, 7, 3, 2, 4, 1, 1, 2, 2, 8, 9, 8, 10, 8, 9, 7, 11, 8, 11, 8, 12]
def frT (k : Nat) : Nat := (frL[k]?).getD 1
/-- what an instruction asks of its method's frames -/
def frB (k o : Nat) (i : Instr) : Bool := match cixOf i with
  | some idx => match callOf o idx with
    | some (kk, mid) => decide (3 < kk) || decide (frT mid + 1 ≤ frT k)
    | none => true
  | none => match i with
    | .new idx => match clOf o idx with
      | some c => decide (c < 100) || decide (6 ≤ frT k)
      | none => true
    | _ => true
def frC (k : Nat) (M : MI) : Bool := (List.range M.2.1.size).all (fun pc => match decode M.2.1 pc with | .ok (i, _) => frB k M.2.2.2.2.1 i | .error _ => true)
def frQ (k : Nat) : Prop := ((mth k).map (frC k)).getD true = true
theorem u1_err {cc : ByteArray} {pc : Nat} (hp : ¬ pc < cc.size) : ∃ er, (Reader.u1 : Decoder Nat) cc pc = .error er := by
  refine ⟨HasTruncated.truncated pc, ?_⟩
  change (dite (pc < cc.size) _ _ : Decoder Nat) cc pc = _
  rw [dif_neg hp]
  rfl
theorem decode_lt {cc : ByteArray} {pc : Nat} {i : Instr} {len : Nat} (h : decode cc pc = .ok (i, len)) : pc < cc.size := by
  by_cases hp : pc < cc.size
  · exact hp
  · exfalso
    obtain ⟨er, e⟩ := u1_err hp
    unfold decode Decoder.instr at h
    change Except.bind (Except.bind ((Reader.u1 : Decoder Nat) cc pc) _) _ = _ at h
    rw [e] at h
    cases h
theorem frT_1 : ∀ k, 1 ≤ frT k := by
  have h : ∀ x ∈ frL, 1 ≤ x := by decide +kernel
  intro k
  unfold frT
  cases hz : frL[k]? with
  | none => exact Nat.le_refl 1
  | some x => exact h x (List.mem_of_getElem? hz)
end
section
/-! no instruction calls deeper: method by method, printed -/
set_option maxRecDepth 100000 in
theorem frq_13 : frQ 13 := by unfold frQ; decide +kernel
set_option maxRecDepth 100000 in
theorem frq_14 : frQ 14 := by unfold frQ; decide +kernel
set_option maxRecDepth 100000 in
theorem frq_15 : frQ 15 := by unfold frQ; decide +kernel
set_option maxRecDepth 100000 in
theorem frq_16 : frQ 16 := by unfold frQ; decide +kernel
set_option maxRecDepth 100000 in
theorem frq_17 : frQ 17 := by unfold frQ; decide +kernel
set_option maxRecDepth 100000 in
theorem frq_18 : frQ 18 := by unfold frQ; decide +kernel
set_option maxRecDepth 100000 in
theorem frq_19 : frQ 19 := by unfold frQ; decide +kernel
set_option maxRecDepth 100000 in
theorem frq_20 : frQ 20 := by unfold frQ; decide +kernel
set_option maxRecDepth 100000 in
theorem frq_21 : frQ 21 := by unfold frQ; decide +kernel
set_option maxRecDepth 100000 in
theorem frq_22 : frQ 22 := by unfold frQ; decide +kernel
set_option maxRecDepth 100000 in
theorem frq_23 : frQ 23 := by unfold frQ; decide +kernel
set_option maxRecDepth 100000 in
theorem frq_24 : frQ 24 := by unfold frQ; decide +kernel
set_option maxRecDepth 100000 in
theorem frq_25 : frQ 25 := by unfold frQ; decide +kernel
set_option maxRecDepth 100000 in
theorem frq_26 : frQ 26 := by unfold frQ; decide +kernel
set_option maxRecDepth 100000 in
theorem frq_27 : frQ 27 := by unfold frQ; decide +kernel
set_option maxRecDepth 100000 in
theorem frq_28 : frQ 28 := by unfold frQ; decide +kernel
set_option maxRecDepth 100000 in
theorem frq_29 : frQ 29 := by unfold frQ; decide +kernel
set_option maxRecDepth 100000 in
theorem frq_30 : frQ 30 := by unfold frQ; decide +kernel
set_option maxRecDepth 100000 in
theorem frq_31 : frQ 31 := by unfold frQ; decide +kernel
set_option maxRecDepth 100000 in
theorem frq_32 : frQ 32 := by unfold frQ; decide +kernel
set_option maxRecDepth 100000 in
theorem frq_33 : frQ 33 := by unfold frQ; decide +kernel
set_option maxRecDepth 100000 in
theorem frq_34 : frQ 34 := by unfold frQ; decide +kernel
set_option maxRecDepth 100000 in
theorem frq_35 : frQ 35 := by unfold frQ; decide +kernel
set_option maxRecDepth 100000 in
theorem frq_36 : frQ 36 := by unfold frQ; decide +kernel
set_option maxRecDepth 100000 in
theorem frq_37 : frQ 37 := by unfold frQ; decide +kernel
set_option maxRecDepth 100000 in
theorem frq_38 : frQ 38 := by unfold frQ; decide +kernel
set_option maxRecDepth 100000 in
theorem frq_39 : frQ 39 := by unfold frQ; decide +kernel
set_option maxRecDepth 100000 in
theorem frq_40 : frQ 40 := by unfold frQ; decide +kernel
set_option maxRecDepth 100000 in
theorem frq_41 : frQ 41 := by unfold frQ; decide +kernel
set_option maxRecDepth 100000 in
theorem frq_42 : frQ 42 := by unfold frQ; decide +kernel
set_option maxRecDepth 100000 in
theorem frq_43 : frQ 43 := by unfold frQ; decide +kernel
set_option maxRecDepth 100000 in
theorem frq_44 : frQ 44 := by unfold frQ; decide +kernel
set_option maxRecDepth 100000 in
theorem frq_45 : frQ 45 := by unfold frQ; decide +kernel
set_option maxRecDepth 100000 in
theorem frq_46 : frQ 46 := by unfold frQ; decide +kernel
set_option maxRecDepth 100000 in
theorem frq_47 : frQ 47 := by unfold frQ; decide +kernel
set_option maxRecDepth 100000 in
theorem frq_48 : frQ 48 := by unfold frQ; decide +kernel
set_option maxRecDepth 100000 in
theorem frq_49 : frQ 49 := by unfold frQ; decide +kernel
set_option maxRecDepth 100000 in
theorem frq_50 : frQ 50 := by unfold frQ; decide +kernel
set_option maxRecDepth 100000 in
theorem frq_51 : frQ 51 := by unfold frQ; decide +kernel
set_option maxRecDepth 100000 in
theorem frq_52 : frQ 52 := by unfold frQ; decide +kernel
set_option maxRecDepth 100000 in
theorem frq_53 : frQ 53 := by unfold frQ; decide +kernel
set_option maxRecDepth 100000 in
theorem frq_54 : frQ 54 := by unfold frQ; decide +kernel
set_option maxRecDepth 100000 in
theorem frq_55 : frQ 55 := by unfold frQ; decide +kernel
set_option maxRecDepth 100000 in
theorem frq_56 : frQ 56 := by unfold frQ; decide +kernel
end
section
/-! no instruction calls deeper: method by method, printed -/
set_option maxRecDepth 100000 in
theorem frq_57 : frQ 57 := by unfold frQ; decide +kernel
set_option maxRecDepth 100000 in
theorem frq_58 : frQ 58 := by unfold frQ; decide +kernel
set_option maxRecDepth 100000 in
theorem frq_59 : frQ 59 := by unfold frQ; decide +kernel
set_option maxRecDepth 100000 in
theorem frq_60 : frQ 60 := by unfold frQ; decide +kernel
set_option maxRecDepth 100000 in
theorem frq_61 : frQ 61 := by unfold frQ; decide +kernel
set_option maxRecDepth 100000 in
theorem frq_62 : frQ 62 := by unfold frQ; decide +kernel
set_option maxRecDepth 100000 in
theorem frq_63 : frQ 63 := by unfold frQ; decide +kernel
set_option maxRecDepth 100000 in
theorem frq_64 : frQ 64 := by unfold frQ; decide +kernel
set_option maxRecDepth 100000 in
theorem frq_65 : frQ 65 := by unfold frQ; decide +kernel
set_option maxRecDepth 100000 in
theorem frq_66 : frQ 66 := by unfold frQ; decide +kernel
set_option maxRecDepth 100000 in
theorem frq_67 : frQ 67 := by unfold frQ; decide +kernel
set_option maxRecDepth 100000 in
theorem frq_68 : frQ 68 := by unfold frQ; decide +kernel
set_option maxRecDepth 100000 in
theorem frq_69 : frQ 69 := by unfold frQ; decide +kernel
set_option maxRecDepth 100000 in
theorem frq_70 : frQ 70 := by unfold frQ; decide +kernel
set_option maxRecDepth 100000 in
theorem frq_71 : frQ 71 := by unfold frQ; decide +kernel
set_option maxRecDepth 100000 in
theorem frq_72 : frQ 72 := by unfold frQ; decide +kernel
set_option maxRecDepth 100000 in
theorem frq_73 : frQ 73 := by unfold frQ; decide +kernel
set_option maxRecDepth 100000 in
theorem frq_74 : frQ 74 := by unfold frQ; decide +kernel
set_option maxRecDepth 100000 in
theorem frq_75 : frQ 75 := by unfold frQ; decide +kernel
set_option maxRecDepth 100000 in
theorem frq_76 : frQ 76 := by unfold frQ; decide +kernel
set_option maxRecDepth 100000 in
theorem frq_77 : frQ 77 := by unfold frQ; decide +kernel
set_option maxRecDepth 100000 in
theorem frq_78 : frQ 78 := by unfold frQ; decide +kernel
set_option maxRecDepth 100000 in
theorem frq_79 : frQ 79 := by unfold frQ; decide +kernel
set_option maxRecDepth 100000 in
theorem frq_80 : frQ 80 := by unfold frQ; decide +kernel
set_option maxRecDepth 100000 in
theorem frq_81 : frQ 81 := by unfold frQ; decide +kernel
set_option maxRecDepth 100000 in
theorem frq_82 : frQ 82 := by unfold frQ; decide +kernel
set_option maxRecDepth 100000 in
theorem frq_83 : frQ 83 := by unfold frQ; decide +kernel
set_option maxRecDepth 100000 in
theorem frq_84 : frQ 84 := by unfold frQ; decide +kernel
set_option maxRecDepth 100000 in
theorem frq_85 : frQ 85 := by unfold frQ; decide +kernel
set_option maxRecDepth 100000 in
theorem frq_86 : frQ 86 := by unfold frQ; decide +kernel
set_option maxRecDepth 100000 in
theorem frq_87 : frQ 87 := by unfold frQ; decide +kernel
set_option maxRecDepth 100000 in
theorem frq_88 : frQ 88 := by unfold frQ; decide +kernel
set_option maxRecDepth 100000 in
theorem frq_89 : frQ 89 := by unfold frQ; decide +kernel
set_option maxRecDepth 100000 in
theorem frq_90 : frQ 90 := by unfold frQ; decide +kernel
set_option maxRecDepth 100000 in
theorem frq_91 : frQ 91 := by unfold frQ; decide +kernel
set_option maxRecDepth 100000 in
theorem frq_92 : frQ 92 := by unfold frQ; decide +kernel
set_option maxRecDepth 100000 in
theorem frq_93 : frQ 93 := by unfold frQ; decide +kernel
set_option maxRecDepth 100000 in
theorem frq_94 : frQ 94 := by unfold frQ; decide +kernel
set_option maxRecDepth 100000 in
theorem frq_95 : frQ 95 := by unfold frQ; decide +kernel
set_option maxRecDepth 100000 in
theorem frq_96 : frQ 96 := by unfold frQ; decide +kernel
set_option maxRecDepth 100000 in
theorem frq_97 : frQ 97 := by unfold frQ; decide +kernel
set_option maxRecDepth 100000 in
theorem frq_98 : frQ 98 := by unfold frQ; decide +kernel
set_option maxRecDepth 100000 in
theorem frq_99 : frQ 99 := by unfold frQ; decide +kernel
set_option maxRecDepth 100000 in
theorem frq_100 : frQ 100 := by unfold frQ; decide +kernel
end
section
/-! no instruction calls deeper: method by method, printed -/
set_option maxRecDepth 100000 in
theorem frq_101 : frQ 101 := by unfold frQ; decide +kernel
set_option maxRecDepth 100000 in
theorem frq_102 : frQ 102 := by unfold frQ; decide +kernel
set_option maxRecDepth 100000 in
theorem frq_103 : frQ 103 := by unfold frQ; decide +kernel
set_option maxRecDepth 100000 in
theorem frq_104 : frQ 104 := by unfold frQ; decide +kernel
set_option maxRecDepth 100000 in
theorem frq_105 : frQ 105 := by unfold frQ; decide +kernel
set_option maxRecDepth 100000 in
theorem frq_106 : frQ 106 := by unfold frQ; decide +kernel
set_option maxRecDepth 100000 in
theorem frq_107 : frQ 107 := by unfold frQ; decide +kernel
set_option maxRecDepth 100000 in
theorem frq_108 : frQ 108 := by unfold frQ; decide +kernel
set_option maxRecDepth 100000 in
theorem frq_109 : frQ 109 := by unfold frQ; decide +kernel
set_option maxRecDepth 100000 in
theorem frq_110 : frQ 110 := by unfold frQ; decide +kernel
set_option maxRecDepth 100000 in
theorem frq_111 : frQ 111 := by unfold frQ; decide +kernel
set_option maxRecDepth 100000 in
theorem frq_112 : frQ 112 := by unfold frQ; decide +kernel
set_option maxRecDepth 100000 in
theorem frq_113 : frQ 113 := by unfold frQ; decide +kernel
set_option maxRecDepth 100000 in
theorem frq_114 : frQ 114 := by unfold frQ; decide +kernel
set_option maxRecDepth 100000 in
theorem frq_115 : frQ 115 := by unfold frQ; decide +kernel
set_option maxRecDepth 100000 in
theorem frq_116 : frQ 116 := by unfold frQ; decide +kernel
set_option maxRecDepth 100000 in
theorem frq_117 : frQ 117 := by unfold frQ; decide +kernel
set_option maxRecDepth 100000 in
theorem frq_118 : frQ 118 := by unfold frQ; decide +kernel
set_option maxRecDepth 100000 in
theorem frq_119 : frQ 119 := by unfold frQ; decide +kernel
set_option maxRecDepth 100000 in
theorem frq_120 : frQ 120 := by unfold frQ; decide +kernel
set_option maxRecDepth 100000 in
theorem frq_121 : frQ 121 := by unfold frQ; decide +kernel
set_option maxRecDepth 100000 in
theorem frq_122 : frQ 122 := by unfold frQ; decide +kernel
set_option maxRecDepth 100000 in
theorem frq_123 : frQ 123 := by unfold frQ; decide +kernel
set_option maxRecDepth 100000 in
theorem frq_124 : frQ 124 := by unfold frQ; decide +kernel
set_option maxRecDepth 100000 in
theorem frq_125 : frQ 125 := by unfold frQ; decide +kernel
set_option maxRecDepth 100000 in
theorem frq_126 : frQ 126 := by unfold frQ; decide +kernel
set_option maxRecDepth 100000 in
theorem frq_127 : frQ 127 := by unfold frQ; decide +kernel
set_option maxRecDepth 100000 in
theorem frq_128 : frQ 128 := by unfold frQ; decide +kernel
set_option maxRecDepth 100000 in
theorem frq_129 : frQ 129 := by unfold frQ; decide +kernel
set_option maxRecDepth 100000 in
theorem frq_130 : frQ 130 := by unfold frQ; decide +kernel
set_option maxRecDepth 100000 in
theorem frq_131 : frQ 131 := by unfold frQ; decide +kernel
set_option maxRecDepth 100000 in
theorem frq_132 : frQ 132 := by unfold frQ; decide +kernel
set_option maxRecDepth 100000 in
theorem frq_133 : frQ 133 := by unfold frQ; decide +kernel
set_option maxRecDepth 100000 in
theorem frq_134 : frQ 134 := by unfold frQ; decide +kernel
set_option maxRecDepth 100000 in
theorem frq_135 : frQ 135 := by unfold frQ; decide +kernel
set_option maxRecDepth 100000 in
theorem frq_136 : frQ 136 := by unfold frQ; decide +kernel
set_option maxRecDepth 100000 in
theorem frq_137 : frQ 137 := by unfold frQ; decide +kernel
set_option maxRecDepth 100000 in
theorem frq_138 : frQ 138 := by unfold frQ; decide +kernel
set_option maxRecDepth 100000 in
theorem frq_139 : frQ 139 := by unfold frQ; decide +kernel
set_option maxRecDepth 100000 in
theorem frq_140 : frQ 140 := by unfold frQ; decide +kernel
set_option maxRecDepth 100000 in
theorem frq_141 : frQ 141 := by unfold frQ; decide +kernel
set_option maxRecDepth 100000 in
theorem frq_142 : frQ 142 := by unfold frQ; decide +kernel
set_option maxRecDepth 100000 in
theorem frq_143 : frQ 143 := by unfold frQ; decide +kernel
set_option maxRecDepth 100000 in
theorem frq_144 : frQ 144 := by unfold frQ; decide +kernel
end
section
/-! no instruction calls deeper: put together -/
theorem frq_all : ∀ k, 12 < k → k < 145 → frQ k := by
  intro k h1 h2
  match k, h1, h2 with
  | 13, _, _ => exact frq_13
  | 14, _, _ => exact frq_14
  | 15, _, _ => exact frq_15
  | 16, _, _ => exact frq_16
  | 17, _, _ => exact frq_17
  | 18, _, _ => exact frq_18
  | 19, _, _ => exact frq_19
  | 20, _, _ => exact frq_20
  | 21, _, _ => exact frq_21
  | 22, _, _ => exact frq_22
  | 23, _, _ => exact frq_23
  | 24, _, _ => exact frq_24
  | 25, _, _ => exact frq_25
  | 26, _, _ => exact frq_26
  | 27, _, _ => exact frq_27
  | 28, _, _ => exact frq_28
  | 29, _, _ => exact frq_29
  | 30, _, _ => exact frq_30
  | 31, _, _ => exact frq_31
  | 32, _, _ => exact frq_32
  | 33, _, _ => exact frq_33
  | 34, _, _ => exact frq_34
  | 35, _, _ => exact frq_35
  | 36, _, _ => exact frq_36
  | 37, _, _ => exact frq_37
  | 38, _, _ => exact frq_38
  | 39, _, _ => exact frq_39
  | 40, _, _ => exact frq_40
  | 41, _, _ => exact frq_41
  | 42, _, _ => exact frq_42
  | 43, _, _ => exact frq_43
  | 44, _, _ => exact frq_44
  | 45, _, _ => exact frq_45
  | 46, _, _ => exact frq_46
  | 47, _, _ => exact frq_47
  | 48, _, _ => exact frq_48
  | 49, _, _ => exact frq_49
  | 50, _, _ => exact frq_50
  | 51, _, _ => exact frq_51
  | 52, _, _ => exact frq_52
  | 53, _, _ => exact frq_53
  | 54, _, _ => exact frq_54
  | 55, _, _ => exact frq_55
  | 56, _, _ => exact frq_56
  | 57, _, _ => exact frq_57
  | 58, _, _ => exact frq_58
  | 59, _, _ => exact frq_59
  | 60, _, _ => exact frq_60
  | 61, _, _ => exact frq_61
  | 62, _, _ => exact frq_62
  | 63, _, _ => exact frq_63
  | 64, _, _ => exact frq_64
  | 65, _, _ => exact frq_65
  | 66, _, _ => exact frq_66
  | 67, _, _ => exact frq_67
  | 68, _, _ => exact frq_68
  | 69, _, _ => exact frq_69
  | 70, _, _ => exact frq_70
  | 71, _, _ => exact frq_71
  | 72, _, _ => exact frq_72
  | 73, _, _ => exact frq_73
  | 74, _, _ => exact frq_74
  | 75, _, _ => exact frq_75
  | 76, _, _ => exact frq_76
  | 77, _, _ => exact frq_77
  | 78, _, _ => exact frq_78
  | 79, _, _ => exact frq_79
  | 80, _, _ => exact frq_80
  | 81, _, _ => exact frq_81
  | 82, _, _ => exact frq_82
  | 83, _, _ => exact frq_83
  | 84, _, _ => exact frq_84
  | 85, _, _ => exact frq_85
  | 86, _, _ => exact frq_86
  | 87, _, _ => exact frq_87
  | 88, _, _ => exact frq_88
  | 89, _, _ => exact frq_89
  | 90, _, _ => exact frq_90
  | 91, _, _ => exact frq_91
  | 92, _, _ => exact frq_92
  | 93, _, _ => exact frq_93
  | 94, _, _ => exact frq_94
  | 95, _, _ => exact frq_95
  | 96, _, _ => exact frq_96
  | 97, _, _ => exact frq_97
  | 98, _, _ => exact frq_98
  | 99, _, _ => exact frq_99
  | 100, _, _ => exact frq_100
  | 101, _, _ => exact frq_101
  | 102, _, _ => exact frq_102
  | 103, _, _ => exact frq_103
  | 104, _, _ => exact frq_104
  | 105, _, _ => exact frq_105
  | 106, _, _ => exact frq_106
  | 107, _, _ => exact frq_107
  | 108, _, _ => exact frq_108
  | 109, _, _ => exact frq_109
  | 110, _, _ => exact frq_110
  | 111, _, _ => exact frq_111
  | 112, _, _ => exact frq_112
  | 113, _, _ => exact frq_113
  | 114, _, _ => exact frq_114
  | 115, _, _ => exact frq_115
  | 116, _, _ => exact frq_116
  | 117, _, _ => exact frq_117
  | 118, _, _ => exact frq_118
  | 119, _, _ => exact frq_119
  | 120, _, _ => exact frq_120
  | 121, _, _ => exact frq_121
  | 122, _, _ => exact frq_122
  | 123, _, _ => exact frq_123
  | 124, _, _ => exact frq_124
  | 125, _, _ => exact frq_125
  | 126, _, _ => exact frq_126
  | 127, _, _ => exact frq_127
  | 128, _, _ => exact frq_128
  | 129, _, _ => exact frq_129
  | 130, _, _ => exact frq_130
  | 131, _, _ => exact frq_131
  | 132, _, _ => exact frq_132
  | 133, _, _ => exact frq_133
  | 134, _, _ => exact frq_134
  | 135, _, _ => exact frq_135
  | 136, _, _ => exact frq_136
  | 137, _, _ => exact frq_137
  | 138, _, _ => exact frq_138
  | 139, _, _ => exact frq_139
  | 140, _, _ => exact frq_140
  | 141, _, _ => exact frq_141
  | 142, _, _ => exact frq_142
  | 143, _, _ => exact frq_143
  | 144, _, _ => exact frq_144
  | z + 145, _, h => omega
set_option maxRecDepth 100000 in
theorem frN : mPT.length = 145 := by decide +kernel
theorem mth_lt {k : Nat} {M : MI} (h : mth k = some M) : k < 145 := by
  unfold mth at h
  rw [← frN]
  cases hz : mPT[k]? with
  | none => rw [hz] at h; cases h
  | some e => exact (List.getElem?_eq_some_iff.mp hz).1
theorem fr_of {k : Nat} {M : MI} (h12 : 12 < k) (hM : mth k = some M) {pc len : Nat} {i : Instr} (hd : decode M.2.1 pc = .ok (i, len)) : frB k M.2.2.2.2.1 i = true := by
  have h := frq_all k h12 (mth_lt hM)
  unfold frQ at h
  rw [hM] at h
  have h : frC k M = true := h
  unfold frC at h
  have h9 := List.all_eq_true.mp h pc (List.mem_range.mpr (decode_lt hd))
  rw [hd] at h9
  exact h9
theorem fr_call {k : Nat} {M : MI} (h12 : 12 < k) (hM : mth k = some M) {pc len idx kk mid : Nat} {i : Instr} (hd : decode M.2.1 pc = .ok (i, len)) (hi : cixOf i = some idx) (hc : callOf M.2.2.2.2.1 idx = some (kk, mid)) (hk : kk ≤ 3) : frT mid + 1 ≤ frT k := by
  have h := fr_of h12 hM hd
  unfold frB at h
  rw [hi] at h
  simp only [hc, Bool.or_eq_true, decide_eq_true_eq] at h
  omega
theorem fr_throw {k : Nat} {M : MI} (h12 : 12 < k) (hM : mth k = some M) {pc len idx c : Nat} (hd : decode M.2.1 pc = .ok (.new idx, len)) (hc : clOf M.2.2.2.2.1 idx = some c) (h : 100 ≤ c) : 6 ≤ frT k := by
  have h := fr_of h12 hM hd
  unfold frB cixOf at h
  simp only [hc, Bool.or_eq_true, decide_eq_true_eq] at h
  omega
end
section
/-! what the store says of a heap -/
def gw : List Jvm.Cond := lw_tbl.filter goodWord
theorem gw_of {w : Jvm.Cond} {p : Nat} (h : lw_tbl[p]? = some w) (g : goodWord w = true) : w ∈ gw := List.mem_filter.mpr ⟨List.mem_of_getElem? h, g⟩
theorem gw_in {w : Jvm.Cond} (h : w ∈ gw) : w ∈ lw_tbl ∧ goodWord w = true := List.mem_filter.mp h
/-- the fixed things: classes, rows' classes (ints, bytes, longs, objects), the heap at the law's start, the empty row, the script -/
abbrev GP : Type := va_G × (Nat → ClassId) × Heap × Nat × Nat × Nat × (Nat → Int32)
def gD (G : GP) : va_G := G.1
def gA (G : GP) : Nat → ClassId := G.2.1
def gH (G : GP) : Heap := G.2.2.1
def gE (G : GP) : Nat := G.2.2.2.1
def gB (G : GP) : Nat := G.2.2.2.2.1
def gS (G : GP) : Nat := G.2.2.2.2.2.1
def gX (G : GP) : Nat → Int32 := G.2.2.2.2.2.2
def own (G : GP) : Nat → Prop := fun q => (gH G).size ≤ q
def gtys (G : GP) : List (ClassId × FieldType) := [(gA G 0, .int), (gA G 1, .int), (gA G 2, .long), (gA G 3, .object "java/lang/Object")]
/-- what the store doesn't tell of lists: the row of each, its count of changes, whose row an address is -/
abbrev GG : Type := (Nat → Option Nat) × (Nat → Int32) × (Nat → Option Nat)
def fvl (T : TS) (c a k : Nat) : Value := if fI c k then .int (tI T (32 * c + k) a) else va_rf (tR T (32 * c + k) a)
def flds (T : TS) (c a : Nat) : List Value := (List.range (NN c)).map (fvl T c a)
def refs (xs : List Nat) : Nat → Option Nat := fun i => xs[i]?
def cel (G : GP) (g : GG) (T : TS) (a : Nat) : Option va_E :=
  if tK T a = 0 then (g.2.2 a).map (fun o => .inl (gA G 3, tc T o, .inr (.inr (.inr (.inr (refs (tL T o)))))))
  else if tK T a ≤ 9 then some (.inr (tK T a - 1, flds T (tK T a - 1) a))
  else if tK T a = 20 then some (.inl (gA G 0, tl T a, .inl (tA T a)))
  else if tK T a = 21 then some (.inl (gA G 1, tl T a, .inl (tA T a)))
  else if tK T a = 22 then some (.inl (gA G 2, tl T a, .inr (.inl (tJ T a))))
  else if tK T a = 23 then some (.inr (0, [.int (g.2.1 a), va_rf (g.1 a), .int (nI (tL T a).length)]))
  else none
def lsOk (G : GP) (g : GG) (T : TS) : Prop := ∀ a, tK T a = 23 → ((tL T a).length ≤ tc T a ∧ tc T a ≤ 300000) ∧ (∀ y ∈ tL T a, 2 ≤ tK T y ∧ tK T y ≤ 9) ∧ ((tc T a = 0 ∧ g.1 a = some (gE G)) ∨ ∃ e, 0 < tc T a ∧ g.1 a = some e ∧ g.2.2 e = some a)
def bkOk (G : GP) (g : GG) (T : TS) : Prop := ∀ e o, g.2.2 e = some o → tK T e = 0 ∧ e < tn T ∧ (gH G).size ≤ e ∧ tK T o = 23 ∧ g.1 o = some e ∧ 0 < tc T o
def kOk (G : GP) (T : TS) : Prop := ∀ a, tK T a ≠ 0 → ((gH G).size ≤ a ∧ a < tn T ∧ tK T a ≤ 23) ∨ (tK T a = 26 ∧ a = gB G ∧ tl T a = gS G ∧ tA T a = gX G ∧ a < (gH G).size)
def Rel (G : GP) (T : TS) (H : Heap) : Prop := H.size = tn T ∧ (gH G).size ≤ tn T ∧ (∀ q, q < (gH G).size → H[q]? = (gH G)[q]?) ∧ kOk G T ∧ ∃ g, lsOk G g T ∧ bkOk G g T ∧ ∀ a e, cel G g T a = some e → va_at (gD G) kcl (a, e) H
theorem Rel.size {G : GP} {T : TS} {H : Heap} (h : Rel G T H) : H.size = tn T := h.1
theorem cel_lt {G : GP} {g : GG} {T : TS} {a : Nat} {e : va_E} (hk : kOk G T) (hb : bkOk G g T) (h : cel G g T a = some e) : (gH G).size ≤ a ∧ a < tn T := by
  unfold cel at h
  by_cases h0 : tK T a = 0
  · rw [if_pos h0] at h
    cases hz : g.2.2 a with
    | none => rw [hz] at h; cases h
    | some o => exact ⟨(hb a o hz).2.2.1, (hb a o hz).2.1⟩
  · rcases hk a h0 with h3 | h3
    · exact ⟨h3.1, h3.2.1⟩
    · rw [if_neg h0, h3.1] at h
      simp at h
theorem at_one {D : va_G} {cl : List vw_C} {q : Nat × va_E} {H : Heap} (h : va_at D cl q H) : va_P D cl [q] H := by
  intro k x hx
  have hz : k < 1 := (List.getElem?_eq_some_iff.mp hx).1
  rw [show k = 0 by omega] at hx
  cases hx
  exact h
/-- one cell changed -/
theorem Rel.put {G : GP} {g g' : GG} {T T' : TS} {H H1 : Heap} {a : Nat} {e : va_E} (hR : H.size = tn T ∧ (gH G).size ≤ tn T ∧ (∀ q, q < (gH G).size → H[q]? = (gH G)[q]?)) (hP : ∀ b x, cel G g T b = some x → va_at (gD G) kcl (b, x) H) (hn : tn T' = tn T) (hk : kOk G T') (hl : lsOk G g' T') (hb : bkOk G g' T') (hge : (gH G).size ≤ a) (hz : H1.size = H.size) (ho : ∀ q, q ≠ a → H1[q]? = H[q]?) (ha : va_at (gD G) kcl (a, e) H1) (hc : cel G g' T' a = some e) (hco : ∀ b, b ≠ a → cel G g' T' b = cel G g T b) : Rel G T' H1 := by
  refine ⟨by rw [hz, hn]; exact hR.1, by rw [hn]; exact hR.2.1, fun q hq => ?_, hk, g', hl, hb, fun b x hx => ?_⟩
  · rw [ho q (by omega)]
    exact hR.2.2 q hq
  · by_cases hba : b = a
    · subst hba
      rw [hc] at hx
      cases hx
      exact ha
    · rw [hco b hba] at hx
      exact (hP b x hx).kept (ho b hba)
/-- one cell made -/
theorem Rel.new {G : GP} {g g' : GG} {T T' : TS} {H H1 : Heap} {e : va_E} (hR : H.size = tn T ∧ (gH G).size ≤ tn T ∧ (∀ q, q < (gH G).size → H[q]? = (gH G)[q]?)) (hP : ∀ b x, cel G g T b = some x → va_at (gD G) kcl (b, x) H) (hlt : ∀ b x, cel G g T b = some x → b < tn T) (hn : tn T' = tn T + 1) (hk : kOk G T') (hl : lsOk G g' T') (hb : bkOk G g' T') (hz : H1.size = H.size + 1) (ho : ∀ q, q < H.size → H1[q]? = H[q]?) (ha : va_at (gD G) kcl (tn T, e) H1) (hc : cel G g' T' (tn T) = some e) (hco : ∀ b x, b ≠ tn T → cel G g' T' b = some x → cel G g T b = some x) : Rel G T' H1 := by
  refine ⟨by rw [hz, hn, hR.1], by rw [hn]; exact Nat.le_succ_of_le hR.2.1, fun q hq => ?_, hk, g', hl, hb, fun b x hx => ?_⟩
  · rw [ho q (by rw [hR.1]; exact Nat.lt_of_lt_of_le hq hR.2.1)]
    exact hR.2.2 q hq
  · by_cases hba : b = tn T
    · subst hba
      rw [hc] at hx
      cases hx
      exact ha
    · have h9 := hco b x hba hx
      exact (hP b x h9).kept (ho b (by rw [hR.1]; exact hlt b x h9))
/-- an object's place in the world -/
theorem cel_obj {G : GP} {g : GG} {T : TS} {a c : Nat} (h : tK T a = c + 1) (hc : c < 9) : cel G g T a = some (.inr (c, flds T c a)) := by
  unfold cel
  rw [h, if_neg (by omega), if_pos (by omega)]
  simp
theorem kcl_at {c : Nat} (hc : c < 9) : kcl[c]? = some (RN c, TN c, NN c) := by
  have h : ∀ c, c < 9 → kcl[c]? = some (RN c, TN c, NN c) := by
    intro c hc
    match c, hc with
    | 0, _ => rfl
    | 1, _ => rfl
    | 2, _ => rfl
    | 3, _ => rfl
    | 4, _ => rfl
    | 5, _ => rfl
    | 6, _ => rfl
    | 7, _ => rfl
    | 8, _ => rfl
    | k + 9, h => omega
  exact h c hc
theorem flds_get {T : TS} {c a k : Nat} (hk : k < NN c) : (flds T c a)[k]? = some (fvl T c a k) := by
  unfold flds
  rw [List.getElem?_map, List.getElem?_range hk]
  rfl
theorem flds_len {T : TS} {c a : Nat} : (flds T c a).length = NN c := by unfold flds; simp
end
section
/-! the machine's steps, off the heap -/
theorem lget_mem {l : Loc0} {k : Nat} {v : Value} (h : lget l k = some v) : (k, v) ∈ l := by
  induction l with
  | nil => cases h
  | cons q l ih =>
    obtain ⟨j, w⟩ := q
    unfold lget at h
    split at h
    · rename_i e
      cases h
      rw [← e]
      exact List.mem_cons_self
    · exact List.mem_cons_of_mem _ (ih h)
theorem lget_at {ls : Array Slot} {nL : Nat} {l : Loc0} {k : Nat} {v : Value} (hl : lv_has ls nL l) (h : lget l k = some v) : ls[k]? = some (.val v) := hl.2.2 (k, v) (lget_mem h)
theorem ldel_eq (l : Loc0) (k : Nat) : l.filter (fun q => !(q.1 == k) && !(q.1 + 1 == k && q.2.category == 2)) = ldel l k := by
  induction l with
  | nil => rfl
  | cons q l ih =>
    obtain ⟨j, w⟩ := q
    rw [List.filter_cons, ih]
    show _ = if j = k ∨ (j + 1 = k ∧ w.category = 2) then ldel l k else (j, w) :: ldel l k
    by_cases h1 : j = k
    · simp [h1]
    · by_cases h2 : j + 1 = k ∧ w.category = 2
      · simp [h2]
      · simp [h1, h2]
theorem ldel2_eq (l : Loc0) (k : Nat) : l.filter (fun q => !(q.1 == k) && (!(q.1 == k + 1) && !(q.1 + 1 == k && q.2.category == 2))) = ldel2 l k := by
  induction l with
  | nil => rfl
  | cons q l ih =>
    obtain ⟨j, w⟩ := q
    rw [List.filter_cons, ih]
    show _ = if j = k ∨ j = k + 1 ∨ (j + 1 = k ∧ w.category = 2) then ldel2 l k else (j, w) :: ldel2 l k
    by_cases h1 : j = k
    · simp [h1]
    · by_cases h2 : j + 1 = k ∧ w.category = 2
      · simp [h2]
      · by_cases h3 : j = k + 1
        · simp [h3]
        · simp [h1, h2, h3]
section STP
variable {p : Program} {l : Launch} {e : Env} {R : Room} {s : State} {m : MethodId} {args : Array Value} {below : List Frame} {meth : Method} {c : Code} {H : Heap} {locs : List Loc} {cells slots : Nat} {Q : State → Prop}
variable {cc : ByteArray} {pc : Nat} {ls : Array Slot}
theorem stk_sound {o : Nat} {i : Instr} {st st' : List Value} (hx : p.tables.exec = Jvm.exec) (hb : c.code = cc) (hown : s.vm.findClass (RN o) = some m.cls) (hts : ∀ w ∈ gw, w.before args s = true) (h : stkF o i st = some st') (hd : decode cc pc = .ok (i, ilen i)) (k : W p l e R s m args below meth c H locs cells slots Q (F0 m (pc + ilen i) ls st')) : W p l e R s m args below meth c H locs cells slots Q (F0 m pc ls st) := by
  unfold stkF at h
  split at h
  · cases h; exact lv_iconst hx hb hd rfl k
  · cases h; exact lv_bipush hx hb hd rfl k
  · cases h; exact lv_sipush hx hb hd rfl k
  · cases h; exact lv_lconst hx hb hd rfl k
  · split at h
    · rename_i e; subst e; cases h; exact lv_dconst0 hx hb hd k
    · cases h
  · cases h; exact lv_null hx hb hd k
  · split at h
    · rename_i v e
      cases h
      unfold ldcT at e
      split at e
      · rename_i e9
        subst e9
        split at e
        · rename_i e1; subst e1; cases e
          exact lv_ldc hx hb hown (hts (.constant "DedupVaultLaw" 161 1073741824) (gw_of (p := 210) (by decide +kernel) (by decide +kernel))) hd k
        · split at e
          · rename_i e1; subst e1; cases e
            exact lv_ldc hx hb hown (hts (.constant "DedupVaultLaw" 7 735439303) (gw_of (p := 214) (by decide +kernel) (by decide +kernel))) hd k
          · split at e
            · rename_i e1; subst e1; cases e
              exact lv_ldc hx hb hown (hts (.constant "DedupVaultLaw" 8 1578607569) (gw_of (p := 215) (by decide +kernel) (by decide +kernel))) hd k
            · split at e
              · rename_i e1; subst e1; cases e
                exact lv_ldc hx hb hown (hts (.constant "DedupVaultLaw" 9 2147483647) (gw_of (p := 216) (by decide +kernel) (by decide +kernel))) hd k
              · cases e
      · cases e
    · cases h
  · split at h
    · rename_i e; obtain ⟨rfl, rfl⟩ := e; cases h
      exact lv_ldc2 hx hb hown (hts (.constantLong "DedupVaultLaw" 135 (-1)) (gw_of (p := 792) (by decide +kernel) (by decide +kernel))) hd k
    · cases h
  · split at h
    · cases h; exact lv_iadd hx hb hd k
    · cases h
  · split at h
    · cases h; exact lv_isub hx hb hd k
    · cases h
  · split at h
    · cases h; exact lv_imul hx hb hd k
    · cases h
  · split at h
    · split at h
      · cases h
      · rename_i hy; cases h; exact lv_irem hx hb hd hy k
    · cases h
  · split at h
    · split at h
      · cases h
      · rename_i hy; cases h; exact lv_idiv hx hb hd hy k
    · cases h
  · split at h
    · cases h; exact lv_land hx hb hd k
    · cases h
  · split at h
    · cases h; exact lv_lor hx hb hd k
    · cases h
  · split at h
    · cases h; exact lv_lxor hx hb hd k
    · cases h
  · split at h
    · cases h; exact lv_lshl hx hb hd rfl k
    · cases h
  · split at h
    · cases h; exact lv_lshr hx hb hd rfl k
    · cases h
  · split at h
    · cases h; exact lv_l2i hx hb hd rfl k
    · cases h
  · split at h
    · cases h; exact lv_iand hx hb hd k
    · cases h
  · split at h
    · cases h; exact lv_i2l hx hb hd rfl k
    · cases h
  · split at h
    · cases h; exact lv_i2b hx hb hd rfl k
    · cases h
  · split at h
    · cases h; exact lv_i2d hx hb hd k
    · cases h
  · split at h
    · cases h; exact W.lcmp hx hb hd k
    · cases h
  · split at h
    · cases h; exact lv_dcmp hx hb hd k
    · cases h
  · split at h
    · split at h
      · rename_i hy; cases h; exact lv_ddiv hx hb hd hy k
      · cases h
    · cases h
  · split at h
    · cases h; exact lv_dup hx hb hd rfl k
    · cases h; exact lv_dup hx hb hd rfl k
    · cases h
  · split at h
    · cases h; exact lv_dup2_11 hx hb hd rfl rfl k
    · cases h
  · split at h
    · cases h; exact lv_pop hx hb hd rfl k
    · cases h; exact lv_pop hx hb hd rfl k
    · cases h
  · cases h
theorem jmp_of {off : Int} {st st' : List Value} {pc' : Nat} (h : jmp pc off st = some (pc', st')) : (pc : Int) + off = (pc' : Int) ∧ st' = st := by
  unfold jmp at h
  split at h
  · rename_i e; cases h; exact ⟨(Int.toNat_of_nonneg e).symm, rfl⟩
  · cases h
theorem bra_sound {i : Instr} {len : Nat} {st st' : List Value} {pc' : Nat} (hx : p.tables.exec = Jvm.exec) (hb : c.code = cc) (h : braF i pc st = some (pc', st')) (hlen : lenOk i len) (hd : decode cc pc = .ok (i, len)) (k : W p l e R s m args below meth c H locs cells slots Q (F0 m pc' ls st')) : W p l e R s m args below meth c H locs cells slots Q (F0 m pc ls st) := by
  unfold braF at h
  split at h
  · rename_i cnd off
    cases (show len = 3 from hlen)
    split at h
    · split at h
      · rename_i ht
        have ht := (Int.toNat_of_nonneg ht).symm
        cases h
        cases cnd
        · refine lv_if_eq hx hb hd ht (fun h9 => ?_) (fun h9 => ?_)
          · simpa [cmpB, h9] using k
          · simpa [cmpB, h9] using k
        · refine lv_if_ne hx hb hd ht (fun h9 => ?_) (fun h9 => ?_)
          · simpa [cmpB, h9] using k
          · simpa [cmpB, h9] using k
        · refine lv_if_lt hx hb hd ht (fun h9 => ?_) (fun h9 => ?_)
          · simpa [cmpB, h9] using k
          · simpa [cmpB, h9] using k
        · refine lv_if_ge hx hb hd ht (fun h9 => ?_) (fun h9 => ?_)
          · simpa [cmpB, h9] using k
          · simpa [cmpB, h9] using k
        · refine lv_if_gt hx hb hd ht (fun h9 => ?_) (fun h9 => ?_)
          · simpa [cmpB, h9] using k
          · simpa [cmpB, h9] using k
        · refine lv_if_le hx hb hd ht (fun h9 => ?_) (fun h9 => ?_)
          · simpa [cmpB, h9] using k
          · simpa [cmpB, h9] using k
      · cases h
    · cases h
  · rename_i cnd off
    cases (show len = 3 from hlen)
    split at h
    · split at h
      · rename_i ht
        have ht := (Int.toNat_of_nonneg ht).symm
        cases h
        cases cnd
        · refine lv_icmp_eq hx hb hd ht (fun h9 => ?_) (fun h9 => ?_)
          · simpa [cmpB, h9] using k
          · simpa [cmpB, h9] using k
        · refine lv_icmp_ne hx hb hd ht (fun h9 => ?_) (fun h9 => ?_)
          · simpa [cmpB, h9] using k
          · simpa [cmpB, h9] using k
        · refine lv_icmp_lt hx hb hd ht (fun h9 => ?_) (fun h9 => ?_)
          · simpa [cmpB, h9] using k
          · simpa [cmpB, h9] using k
        · refine lv_icmp_ge hx hb hd ht (fun h9 => ?_) (fun h9 => ?_)
          · simpa [cmpB, h9] using k
          · simpa [cmpB, h9] using k
        · refine lv_icmp_gt hx hb hd ht (fun h9 => ?_) (fun h9 => ?_)
          · simpa [cmpB, h9] using k
          · simpa [cmpB, h9] using k
        · refine lv_icmp_le hx hb hd ht (fun h9 => ?_) (fun h9 => ?_)
          · simpa [cmpB, h9] using k
          · simpa [cmpB, h9] using k
      · cases h
    · cases h
  · rename_i cnd off
    cases (show len = 3 from hlen)
    split at h
    · rename_i y x st1
      split at h
      · rename_i ht
        have ht := (Int.toNat_of_nonneg ht).symm
        cases cnd
        · rw [if_neg (by decide)] at h
          cases h
          refine lv_acmp_eq (rx := some x) (ry := some y) hx hb hd ht (fun h9 => ?_) (fun h9 => ?_)
          · have h9 := Option.some.inj h9
            simpa [h9] using k
          · have h9 : ¬ x = y := fun z => h9 (by rw [z])
            simpa [h9] using k
        · rw [if_pos rfl] at h
          cases h
          refine lv_acmp_ne (rx := some x) (ry := some y) hx hb hd ht (fun h9 => ?_) (fun h9 => ?_)
          · have h9 : ¬ x = y := fun z => h9 (by rw [z])
            simpa [h9] using k
          · have h9 := Option.some.inj h9
            simpa [h9] using k
      · cases h
    · rename_i y st1
      split at h
      · rename_i ht
        have ht := (Int.toNat_of_nonneg ht).symm
        cases cnd
        · rw [if_neg (by decide)] at h
          cases h
          refine lv_acmp_eq (rx := none) (ry := some y) hx hb hd ht (fun h9 => ?_) (fun h9 => ?_)
          · cases h9
          · exact k
        · rw [if_pos rfl] at h
          cases h
          refine lv_acmp_ne (rx := none) (ry := some y) hx hb hd ht (fun h9 => ?_) (fun h9 => ?_)
          · exact k
          · cases h9
      · cases h
    · cases h
  · cases (show len = 3 from hlen)
    split at h
    · cases h; exact lv_ifnull hx hb hd k
    · obtain ⟨ht, rfl⟩ := jmp_of h
      exact lv_ifnullN hx hb hd ht k
    · cases h
  · cases (show len = 3 from hlen)
    split at h
    · obtain ⟨ht, rfl⟩ := jmp_of h
      exact lv_ifnonnull hx hb hd ht k
    · cases h; exact lv_ifnonnullN hx hb hd k
    · cases h
  · cases (show len = 3 from hlen)
    obtain ⟨ht, rfl⟩ := jmp_of h
    exact lv_goto hx hb hd ht k
  · split at h
    · split at h
      · rename_i hr
        obtain ⟨ht, rfl⟩ := jmp_of h
        exact lv_tableOut hx hb hd hr ht k
      · rename_i hr
        split at h
        · rename_i off ho
          obtain ⟨ht, rfl⟩ := jmp_of h
          exact lv_tableIn hx hb hd (fun z => hr (Or.inl z)) (fun z => hr (Or.inr z)) ho ht k
        · cases h
    · cases h
  · cases h
theorem loc_sound {nL : Nat} {i : Instr} {lv lv' : Loc0} {st st' : List Value} (hx : p.tables.exec = Jvm.exec) (hb : c.code = cc) (hl : lv_has ls nL lv) (h : locF nL i lv st = some (lv', st')) (hd : decode cc pc = .ok (i, ilen i)) (k : ∀ ls', lv_has ls' nL lv' → W p l e R s m args below meth c H locs cells slots Q (F0 m (pc + ilen i) ls' st')) : W p l e R s m args below meth c H locs cells slots Q (F0 m pc ls st) := by
  unfold locF at h
  split at h
  · split at h
    · rename_i x hg; cases h; exact lv_iload hx hb hd (lget_at hl hg) (k ls hl)
    · cases h
  · split at h
    · rename_i x hg; cases h; exact lv_iload_n hx hb hd rfl (lget_at hl hg) (k ls hl)
    · cases h
  · split at h
    · rename_i x hg; cases h; exact lv_aload hx hb hd (lget_at hl hg) (k ls hl)
    · rename_i hg; cases h; exact lv_aloadN hx hb hd (lget_at hl hg) (k ls hl)
    · cases h
  · split at h
    · rename_i x hg; cases h; exact lv_aload_n hx hb hd rfl (lget_at hl hg) (k ls hl)
    · rename_i hg; cases h; exact lv_aload_nN hx hb hd rfl (lget_at hl hg) (k ls hl)
    · cases h
  · split at h
    · rename_i x hg; cases h; exact lv_dload hx hb hd (lget_at hl hg) (k ls hl)
    · cases h
  · split at h
    · rename_i x hg; cases h; exact lv_lload_n hx hb hd rfl (lget_at hl hg) (k ls hl)
    · cases h
  · split at h
    · split at h
      · rename_i hk; cases h; exact lv_istore hx hb hd hl hk (by rw [ldel_eq]) k
      · cases h
    · cases h
  · split at h
    · split at h
      · rename_i hk; cases h; exact lv_istore_n hx hb hd rfl hl hk (by rw [ldel_eq]) k
      · cases h
    · cases h
  · split at h
    · split at h
      · rename_i hk; cases h; exact lv_astore hx hb hd hl hk (by rw [ldel_eq]) k
      · cases h
    · split at h
      · rename_i hk; cases h; exact lv_astoreN hx hb hd hl hk (by rw [ldel_eq]) k
      · cases h
    · cases h
  · split at h
    · split at h
      · rename_i hk; cases h; exact lv_astore_n hx hb hd rfl hl hk (by rw [ldel_eq]) k
      · cases h
    · split at h
      · rename_i hk; cases h; exact lv_astore_nN hx hb hd rfl hl hk (by rw [ldel_eq]) k
      · cases h
    · cases h
  · split at h
    · split at h
      · rename_i hk; cases h; exact lv_dstore hx hb hd hl hk (by rw [ldel2_eq]) k
      · cases h
    · cases h
  · split at h
    · rename_i x hg
      split at h
      · rename_i hk
        cases h
        obtain ⟨j, hj⟩ := List.getElem?_of_mem (lget_mem hg)
        exact lv_iinc hx hb hd hl hj rfl hk (by rw [ldel_eq]) k
      · cases h
    · cases h
  · cases h
end STP
end
section
/-! the kit's rows that write, with all that they know of the heap behind -/
section MRW
variable {p : Program} {l : Launch} {e : Env} {R : Room} {s : State} {m : MethodId} {args : Array Value} {below : List Frame} {meth : Method} {c : Code} {H : Heap} {locs : List Loc} {cells slots : Nat} {Q : State → Prop}
variable {cc : ByteArray} {pc : Nat} {ls : Array Slot} {rest : List Value} {D : va_G} {cl : List vw_C} {tys : List (ClassId × FieldType)} {A : Nat → Prop} {H0 : Heap} {a : Nat}
theorem m_put (hexec : p.tables.exec = Jvm.exec) (hb : c.code = cc) {own ref C : String} {T : u_T} {N ci index : Nat} {Ts : List Jvm.Cond} (hts : ∀ w ∈ Ts, w.before args s = true) (hin : ∀ w ∈ u_ws C T N, w ∈ Ts) (ty0 : Nat → FieldType) (hty : ∀ k, k < N → parseFieldDescriptor (T k).2.2.1 = some (ty0 k)) (hnm : ∀ a, a < N → ∀ b, b < N → a ≠ b → (T a).2.1 ≠ (T b).2.1) (hown : s.vm.findClass own = some m.cls) (hK : va_K D cl tys s) (hS0 : va_S A H0 H locs) (hA : A a) {fs : List Value} (he : va_at D cl (a, .inr (ci, fs)) H) (hc : cl[ci]? = some (C, T, N)) (k : Nat) (hk : k < N) (hlink : (Jvm.Cond.fieldLink own index ref (T k).2.1 (T k).2.2.1).before args s = true) (hsame : ∀ x, s.fieldFound? (T k).1 (T k).2.1 (T k).2.2.1 = some x → s.fieldFound? ref (T k).2.1 (T k).2.2.1 = some x) (hfin : (T k).2.2.2 = false ∨ ((T k).2.2.2 = true ∧ meth.name = "<init>" ∧ (T k).1 = own)) {ty : FieldType} {v : Value} (hd : parseFieldDescriptor (T k).2.2.1 = some ty) (hn : narrow ty v = v) (hfit : fits ty v = true) (hl : k < fs.length) (hdg : decode cc pc = .ok (.putfield index, 3))
    (kk : ∀ (H1 : Heap) (locs1 : List Loc), H1.size = H.size → (∀ q : Nat, q ≠ a → H1[q]? = H[q]?) → va_at D cl (a, .inr (ci, fs.set k v)) H1 → va_S A H0 H1 locs1 → W p l e R s m args below meth c H1 locs1 cells slots Q (F0 m (pc + 3) ls rest)) : W p l e R s m args below meth c H locs cells slots Q (F0 m pc ls (v :: .ref a :: rest)) := by
  have hap := va_apart (own := own) hts hin ty0 hty hnm hK hc
  obtain ⟨r, h1, cell, q1, q2, q3, q4⟩ := he
  have hr : r = (C, T, N) := Option.some.inj (h1.symm.trans hc)
  subst hr
  obtain ⟨hS, hfc, kC, hkC, hkind⟩ := hK.1 ci _ hc
  obtain ⟨cf, kf, fi, f, hi, hsl⟩ := hS k hk
  have hlay := hts _ (hin _ (u_in_lay hk))
  unfold u_lay at hlay
  have hst := (u_facts hfc hkC (u_lays hts hin hk) hi).1
  rcases hfin with hfin | ⟨hfin, hin2, hdecl⟩
  · rw [if_neg (by rw [hfin]; decide)] at hlay
    have h6 := u_store hfc hkC hkind hlay hi hd hn hfit
    refine W.putK hexec hb (f := f) ⟨hown, hlink, ⟨_, _, _, hsame _ hi⟩, hst⟩ (by rw [q2]; exact h6) q1 q3 (by rw [hsl]; exact k2_hasslot (q4 k hk)) rfl rfl hdg fun H' e1 e2 e3 => ?_
    rw [hsl] at e1 ⊢
    exact kk H' _ e2 e3 ⟨_, hc, t_OB.to (V := updV (vp_V fs) k v) ⟨_, e1, q2, q3, t_set q4 hap hk v⟩ (fun j _ => vp_updV_set hl v j)⟩ (hS0.put e2 e3 hA)
  · rw [if_pos hfin] at hlay
    have hcf : m.cls = cf := by
      obtain ⟨_, _, c', _, _, _, -, -, hf', -, -, -, hown2, -⟩ := Cond.laysFinal_spec hlay
      have e1 : c' = cf := by have := hi.symm.trans hf'; simp at this; exact this.1.symm
      rw [hdecl] at hown2
      rw [← e1]; exact Option.some.inj (hown.symm.trans hown2)
    have h6 := u_fits hfc hkC hkind (Or.inr hlay) hi hd hn hfit
    refine W.putFinK hexec hb hown hlink (hsame _ hi) hst hcf hin2 (by rw [q2]; exact h6) q1 q3 (by rw [hsl]; exact k2_hasslot (q4 k hk)) rfl rfl hdg fun H' e1 e2 e3 => ?_
    rw [hsl] at e1 ⊢
    exact kk H' _ e2 e3 ⟨_, hc, t_OB.to (V := updV (vp_V fs) k v) ⟨_, e1, q2, q3, t_set q4 hap hk v⟩ (fun j _ => vp_updV_set hl v j)⟩ (hS0.put e2 e3 hA)
theorem m_iast (hexec : p.tables.exec = Jvm.exec) (hb : c.code = cc) (hK : va_K D cl tys s) (hS : va_S A H0 H locs) (hA : A a) (t0 : Nat) {cA : ClassId} {n : Nat} {f : Nat → Int32} (ha : va_at D cl (a, .inl (cA, n, .inl f)) H) (ht : tys[t0]? = some (cA, .int)) {i : Int32} {x : Int32} (hin : vp_in i n) (hdg : decode cc pc = .ok (.iastore, 1))
    (kk : ∀ (H1 : Heap) (locs1 : List Loc), H1.size = H.size → (∀ q : Nat, q ≠ a → H1[q]? = H[q]?) → va_at D cl (a, .inl (cA, n, .inl (upd f i.toNatClampNeg x))) H1 → va_S A H0 H1 locs1 → W p l e R s m args below meth c H1 locs1 cells slots Q (F0 m (pc + 1) ls rest)) : W p l e R s m args below meth c H locs cells slots Q (F0 m pc ls (.int x :: .int i :: .ref a :: rest)) := by
  refine W.iast hexec hb ha ((hK.2 t0 _ ht).1 n (fun j => .int (f j))) (fun q => by cases q) (by show ¬ (i < 0 ∨ (arrV _ _ _).slots.size ≤ _); rw [arrV_size]; exact hin) rfl rfl hdg fun H1 e z oq => ?_
  refine kk H1 _ z oq ?_ (hS.put z oq hA)
  show H1[a]? = some (vp_cell _ _)
  rw [e]
  rw [vp_cell_i, vp_cell_i, arrV_store]
  congr 2
  funext q
  by_cases hq : q = i.toNatClampNeg
  · subst hq
    simp [updV, upd]
  · simp [updV, upd, hq]
theorem m_bast (hexec : p.tables.exec = Jvm.exec) (hb : c.code = cc) (hK : va_K D cl tys s) (hS : va_S A H0 H locs) (hA : A a) (t0 : Nat) {cA : ClassId} {n : Nat} {f : Nat → Int32} (ha : va_at D cl (a, .inl (cA, n, .inl f)) H) (ht : tys[t0]? = some (cA, .byte)) {i : Int32} {x : Int32} (hin : vp_in i n) (hdg : decode cc pc = .ok (.bastore, 1))
    (kk : ∀ (H1 : Heap) (locs1 : List Loc), H1.size = H.size → (∀ q : Nat, q ≠ a → H1[q]? = H[q]?) → va_at D cl (a, .inl (cA, n, .inl (upd f i.toNatClampNeg (vp_nar .byte x)))) H1 → va_S A H0 H1 locs1 → W p l e R s m args below meth c H1 locs1 cells slots Q (F0 m (pc + 1) ls rest)) : W p l e R s m args below meth c H locs cells slots Q (F0 m pc ls (.int x :: .int i :: .ref a :: rest)) := by
  refine W.bast hexec hb ha ((hK.2 t0 _ ht).1 n (fun j => .int (f j))) (fun q => by cases q) (by show ¬ (i < 0 ∨ (arrV _ _ _).slots.size ≤ _); rw [arrV_size]; exact hin) rfl rfl hdg fun H1 e z oq => ?_
  refine kk H1 _ z oq ?_ (hS.put z oq hA)
  show H1[a]? = some (vp_cell _ _)
  rw [e]
  rw [vp_cell_i, vp_cell_i, arrV_store]
  congr 2
  funext q
  by_cases hq : q = i.toNatClampNeg
  · subst hq
    simp [updV, upd, vp_nar]
    try rfl
  · simp [updV, upd, hq]
theorem m_last (hexec : p.tables.exec = Jvm.exec) (hb : c.code = cc) (hK : va_K D cl tys s) (hS : va_S A H0 H locs) (hA : A a) (t0 : Nat) {cA : ClassId} {n : Nat} {f : Nat → Int64} (ha : va_at D cl (a, .inl (cA, n, .inr (.inl f))) H) (ht : tys[t0]? = some (cA, .long)) {i : Int32} {x : Int64} (hin : vp_in i n) (hdg : decode cc pc = .ok (.lastore, 1))
    (kk : ∀ (H1 : Heap) (locs1 : List Loc), H1.size = H.size → (∀ q : Nat, q ≠ a → H1[q]? = H[q]?) → va_at D cl (a, .inl (cA, n, .inr (.inl (vp_updL f i.toNatClampNeg x)))) H1 → va_S A H0 H1 locs1 → W p l e R s m args below meth c H1 locs1 cells slots Q (F0 m (pc + 1) ls rest)) : W p l e R s m args below meth c H locs cells slots Q (F0 m pc ls (.long x :: .int i :: .ref a :: rest)) := by
  refine W.last hexec hb ha ((hK.2 t0 _ ht).1 n (fun j => .long (f j))) (fun q => by cases q) (by show ¬ (i < 0 ∨ (arrV _ _ _).slots.size ≤ _); rw [arrV_size]; exact hin) rfl rfl hdg fun H1 e z oq => ?_
  refine kk H1 _ z oq ?_ (hS.put z oq hA)
  show H1[a]? = some (vp_cell _ _)
  rw [e]
  rw [vp_cell_l, vp_cell_l, arrV_store]
  congr 2
  funext q
  by_cases hq : q = i.toNatClampNeg
  · subst hq
    simp [updV, vp_updL]
  · simp [updV, vp_updL, hq]
/-- a new row of numbers, of a class that is known -/
theorem m_newa (hexec : p.tables.exec = Jvm.exec) (hb : c.code = cc) {atype : ArrayType} (harr : (Jvm.Cond.arrayClass (newarray.typeOf atype)).before args s = true) {ty : FieldType} (hty : newarray.typeOf atype = ty) (hS : va_S A H0 H locs) {cA : ClassId} (hcA : s.vm.findClass ("[" ++ ty.toString) = some cA) {n : Int32} {N' : Nat} {a0 : vp_A} (ha : vp_cell cA a0 = arrV cA N' (fun _ => defaultValue ty)) (hn : ¬ n < 0) (hN : n.toNatClampNeg = N') (hbytes : N' * componentBytes ty ≤ 536870912) (hcells : cells + 1 ≤ R.cells) (hslots : slots + N' ≤ R.slots) (hdg : decode cc pc = .ok (.newarray atype, 2))
    (kk : ∀ (H1 : Heap), H1.size = H.size + 1 → (∀ q, q < H.size → H1[q]? = H[q]?) → va_at D cl (H.size, .inl (cA, a0)) H1 → va_S A H0 H1 locs → W p l e R s m args below meth c H1 locs (cells + 1) (slots + N') Q (F0 m (pc + 2) ls (.ref H.size :: rest))) : W p l e R s m args below meth c H locs cells slots Q (F0 m pc ls (.int n :: rest)) := by
  subst hty
  refine va_newaK hexec hb harr rfl hdg rfl hn hN hbytes hcells hslots rfl fun H1 cB e1 z1 o1 hAr hNm => ?_
  cases hNm.symm.trans hcA
  refine kk H1 z1 o1 ?_ ⟨Nat.le_trans hS.1 (by omega), fun x h1 h2 => (o1 x (Nat.lt_of_lt_of_le h1 hS.1)).trans (hS.2.1 x h1 h2), hS.2.2⟩
  show H1[H.size]? = some (vp_cell _ _)
  rw [ha]
  exact e1
theorem m_new {c0 : Code} (hexec : p.tables.exec = Jvm.exec) (hb : c0.code = cc) {own C : String} {T : u_T} {N ci index : Nat} {Ts : List Jvm.Cond} (hts : ∀ w ∈ Ts, w.before args s = true) (hin : ∀ w ∈ u_ws C T N, w ∈ Ts) (ty : Nat → FieldType) (hty : ∀ k, k < N → parseFieldDescriptor (T k).2.2.1 = some (ty k)) (hown : s.vm.findClass own = some m.cls) (hcl : (Jvm.Cond.classLink own index C).before args s = true) (hinst : (Jvm.Cond.instantiable C N).before args s = true) (hini : (Jvm.Cond.initialized C).before args s = true) (hK : va_K D cl tys s) (hS : va_S A H0 H locs) (hc : cl[ci]? = some (C, T, N)) {fs : List Value} (hfs : ∀ j, j < N → defaultValue (ty j) = vp_V fs j) (hcells : cells + 1 ≤ R.cells) (hslots : slots + N ≤ R.slots) (hdg : decode cc pc = .ok (.new index, 3))
    (kk : ∀ (H1 : Heap), H1.size = H.size + 1 → (∀ q, q < H.size → H1[q]? = H[q]?) → va_at D cl (H.size, .inr (ci, fs)) H1 → va_S A H0 H1 locs → W p l e R s m args below meth c0 H1 locs (cells + 1) (slots + N) Q (F0 m (pc + 3) ls (.ref H.size :: rest))) : W p l e R s m args below meth c0 H locs cells slots Q (F0 m pc ls rest) := by
  have hKn := hK.1 ci _ hc
  refine W.newcK hexec hb hown hcl hinst hini rfl hdg hcells hslots hKn.2.1 rfl fun H1 kC hkC e1 z1 o1 => ?_
  exact kk H1 z1 o1 ⟨_, hc, (u_born ty hts hin hKn hkC e1 hty).to hfs⟩ ⟨Nat.le_trans hS.1 (by omega), fun x h1 h2 => (o1 x (Nat.lt_of_lt_of_le h1 hS.1)).trans (hS.2.1 x h1 h2), hS.2.2⟩
end MRW
/-! the classes -/
theorem all9 {P : Nat → Prop} (h0 : P 0) (h1 : P 1) (h2 : P 2) (h3 : P 3) (h4 : P 4) (h5 : P 5) (h6 : P 6) (h7 : P 7) (h8 : P 8) {c : Nat} (hc : c < 9) : P c := by
  match c, hc with
  | 0, _ => exact h0
  | 1, _ => exact h1
  | 2, _ => exact h2
  | 3, _ => exact h3
  | 4, _ => exact h4
  | 5, _ => exact h5
  | 6, _ => exact h6
  | 7, _ => exact h7
  | 8, _ => exact h8
  | k + 9, h => omega
set_option maxRecDepth 100000 in
theorem u_all : ∀ c, c < 9 → ∀ w ∈ u_ws (RN c) (TN c) (NN c), w ∈ lw_tbl ∧ goodWord w = true := by decide +kernel
theorem u_in {c : Nat} (hc : c < 9) : ∀ w ∈ u_ws (RN c) (TN c) (NN c), w ∈ gw := fun w hw => List.mem_filter.mpr (u_all c hc w hw)
theorem ty_ok {c : Nat} (hc : c < 9) : ∀ k, k < NN c → parseFieldDescriptor (TN c k).2.2.1 = some (tyN c k) := all9 (P := fun c => ∀ k, k < NN c → parseFieldDescriptor (TN c k).2.2.1 = some (tyN c k)) tyJx4a65c_ok tyX0_ok tyX1_ok tyX2_ok tyX3_ok tyX4_ok tyX5_ok tyX6_ok tyX0_ok hc
theorem nm_ok {c : Nat} (hc : c < 9) : ∀ a, a < NN c → ∀ b, b < NN c → a ≠ b → (TN c a).2.1 ≠ (TN c b).2.1 := all9 (P := fun c => ∀ a, a < NN c → ∀ b, b < NN c → a ≠ b → (TN c a).2.1 ≠ (TN c b).2.1) nmJx4a65c nmX0 nmX1 nmX2 nmX3 nmX4 nmX5 nmX6 nmX0 hc
def isRefTy : FieldType → Bool
  | .object _ => true
  | .array _ => true
  | _ => false
theorem fld_facts : ∀ c, c < 9 → ∀ k, k < NN c → fF c k = (TN c k).2.2.2 ∧ (if fI c k then tyN c k = .int else isRefTy (tyN c k) = true) ∧ (1 ≤ c → (TN c k).1 = RN c) ∧ k < 32 := by decide +kernel
set_option maxRecDepth 100000 in
theorem inst_all : ∀ c, c < 9 → (.instantiable (RN c) (NN c) ∈ lw_tbl ∧ .initialized (RN c) ∈ lw_tbl) := by decide +kernel
theorem refty {ty : FieldType} (h : isRefTy ty = true) (r : Option Nat) : narrow ty (va_rf r) = va_rf r ∧ fits ty (va_rf r) = true ∧ defaultValue ty = .null := by
  cases ty <;> first | (cases h; done) | (cases r <;> exact ⟨rfl, rfl, rfl⟩)
end
section
/-! the machine's steps on the heap -/
/-- words of the tables that no call carries by itself -/
def NWl : List Jvm.Cond := [.methodLinkNest "DedupVault$Row" 29 ⟨"DedupVault", "noSpan", "(III)Z"⟩ "DedupVault", .methodLinkNest "DedupVault$Version" 47 ⟨"DedupVault", "noPlace", "(II)Z"⟩ "DedupVault", .methodLinkNest "DedupVault$Shelf" 51 ⟨"DedupVault", "noPlace", "(II)Z"⟩ "DedupVault",
  .castable "java/lang/IllegalArgumentException" "java/lang/IllegalArgumentException", .castable "java/lang/IllegalStateException" "java/lang/IllegalStateException", .castable "java/lang/IndexOutOfBoundsException" "java/lang/IndexOutOfBoundsException",
  .castable "DedupVault" "java/lang/Object", .castable "DedupVault$Row" "java/lang/Object", .castable "DedupVault$Shelf" "java/lang/Object", .castable "DedupVault$Container" "java/lang/Object", .castable "DedupVault$Version" "java/lang/Object", .castable "DedupVault$Piece" "java/lang/Object", .castable "DedupVault$Chunk" "java/lang/Object",
  .declares ⟨"java/lang/RuntimeException", "<init>", "()V"⟩, .declares ⟨"java/lang/RuntimeException", "<init>", "(Ljava/lang/String;)V"⟩, .declares ⟨"java/lang/Exception", "<init>", "()V"⟩, .declares ⟨"java/lang/Exception", "<init>", "(Ljava/lang/String;)V"⟩, .declares ⟨"java/lang/Throwable", "<init>", "()V"⟩, .declares ⟨"java/lang/Throwable", "<init>", "(Ljava/lang/String;)V"⟩, .declares ⟨"java/lang/Object", "getClass", "()Ljava/lang/Class;"⟩]
/-- what stands of a state whatever the store: tables, and what lay there before the law -/
def GS (G : GP) (s : State) : Prop := va_K (gD G) kcl (gtys G) s ∧ (∀ w ∈ NWl, va_Nw w s) ∧ vx_Zq Bundle.tN "UNASSIGNED_STACK" Bundle.steD (own G) s (gH G) ∧ vx_Zq Bundle.tN "SUPPRESSED_SENTINEL" Bundle.listD (own G) s (gH G) ∧ va_X (gB G) (gS G) (gX G) s (gH G) ∧ gB G < (gH G).size ∧ va_Z "java/util/ArrayList" "DEFAULTCAPACITY_EMPTY_ELEMENTDATA" "[Ljava/lang/Object;" (.ref (gE G)) (own G) s (gH G) ∧ (∃ f, va_T (.object "java/lang/Object") (gE G) 0 f (own G) s (gH G)) ∧ va_AO "java/lang/Object" s ∧ ∃ mi, va_Mi "[Ljava/lang/Object;" mi s
theorem map_set {f f' : Nat → Value} {n k : Nat} {v : Value} (hk : k < n) (h1 : f' k = v) (h2 : ∀ j, j ≠ k → f' j = f j) : (List.range n).map f' = ((List.range n).map f).set k v := by
  apply List.ext_getElem?
  intro j
  by_cases hj : j = k
  · subst hj
    rw [List.getElem?_set_self (by simpa using hk), List.getElem?_map, List.getElem?_range hk, ← h1]
    rfl
  · rw [List.getElem?_set_ne (Ne.symm hj), List.getElem?_map, List.getElem?_map]
    by_cases hn : j < n
    · rw [List.getElem?_range hn]
      show some (f' j) = some (f j)
      rw [h2 j hj]
    · rw [List.getElem?_eq_none (by simpa using hn)]
      rfl
theorem up2_ne {α : Type} (g : Nat → Nat → α) (f a : Nat) (v : α) {h b : Nat} (hb : b ≠ a) : up2 g f a v h b = g h b := by
  unfold up2; rw [if_neg (fun z => hb z.2)]
theorem up2_nf {α : Type} (g : Nat → Nat → α) (f a : Nat) (v : α) {h b : Nat} (hb : h ≠ f) : up2 g f a v h b = g h b := by
  unfold up2; rw [if_neg (fun z => hb z.1)]
theorem up2_at {α : Type} (g : Nat → Nat → α) (f a : Nat) (v : α) : up2 g f a v f a = v := by
  unfold up2; rw [if_pos ⟨rfl, rfl⟩]
theorem up1_ne {α : Type} (g : Nat → α) (a : Nat) (v : α) {b : Nat} (hb : b ≠ a) : up1 g a v b = g b := by
  unfold up1; rw [if_neg hb]
theorem up1_at {α : Type} (g : Nat → α) (a : Nat) (v : α) : up1 g a v a = v := by
  unfold up1; rw [if_pos rfl]
/-- cells are told alike by stores that say alike of an address -/
theorem cel_congr {G : GP} {g : GG} {T T' : TS} {b : Nat} (hK : tK T' b = tK T b) (hI : ∀ f, tI T' f b = tI T f b) (hR : ∀ f, tR T' f b = tR T f b) (hA : tA T' b = tA T b) (hl : tl T' b = tl T b) (hJ : tJ T' b = tJ T b) (hL : tL T' = tL T) (hc : tc T' = tc T) : cel G g T' b = cel G g T b := by
  have hf : ∀ c, flds T' c b = flds T c b := fun c => by
    unfold flds
    apply List.map_congr_left
    intro k _
    unfold fvl
    rw [hI, hR]
  unfold cel
  rw [hK, hA, hl, hJ, hL, hc, hf]
theorem flds_sI {T : TS} {c a k : Nat} {v : Int32} (hk : k < NN c) (hi : fI c k = true) : flds (sI (32 * c + k) a v T) c a = (flds T c a).set k (.int v) := by
  refine map_set hk ?_ (fun j hj => ?_)
  · unfold fvl
    rw [if_pos hi]
    show Value.int (up2 (tI T) (32 * c + k) a v (32 * c + k) a) = _
    rw [up2_at]
  · unfold fvl
    show (if fI c j = true then Value.int (up2 (tI T) (32 * c + k) a v (32 * c + j) a) else va_rf (tR T (32 * c + j) a)) = _
    rw [up2_nf _ _ _ _ (by omega)]
theorem flds_sR {T : TS} {c a k : Nat} {v : Option Nat} (hk : k < NN c) (hi : fI c k = false) : flds (sR (32 * c + k) a v T) c a = (flds T c a).set k (va_rf v) := by
  refine map_set hk ?_ (fun j hj => ?_)
  · unfold fvl
    rw [if_neg (by rw [hi]; decide)]
    show va_rf (up2 (tR T) (32 * c + k) a v (32 * c + k) a) = _
    rw [up2_at]
  · unfold fvl
    show (if fI c j = true then Value.int (tI T (32 * c + j) a) else va_rf (up2 (tR T) (32 * c + k) a v (32 * c + j) a)) = _
    rw [up2_nf _ _ _ _ (by omega)]
theorem fld_ok {o idx ci k : Nat} (h : fldOf o idx = some (ci, k)) : .fieldLink (RN o) idx (RN ci) (TN ci k).2.1 (TN ci k).2.2.1 ∈ gw ∧ k < NN ci ∧ ci < 9 ∧ 1 ≤ ci := by
  unfold fldOf at h
  cases hz : fldT.lookup (o, idx) with
  | none => rw [hz] at h; cases h
  | some e =>
    rw [hz] at h
    simp at h
    obtain ⟨rfl, rfl⟩ := h
    obtain ⟨h1, h2, h3, h4, h5⟩ := fld_all _ (lookup_mem hz)
    exact ⟨gw_of h1 h2, h3, h4, h5⟩
theorem cl_ok {o idx ci : Nat} (h : clOf o idx = some ci) : .classLink (RN o) idx (cN ci) ∈ gw := by
  unfold clOf at h
  cases hz : clT.lookup (o, idx) with
  | none => rw [hz] at h; cases h
  | some e =>
    rw [hz] at h
    simp at h
    subst h
    obtain ⟨h1, h2⟩ := cl_all _ (lookup_mem hz)
    exact gw_of h1 h2
theorem up2_ne' {α : Type} {g : Nat → Nat → α} {f a : Nat} {v : α} {h b : Nat} (hb : h ≠ f) : up2 g f a v h b = g h b := up2_nf _ _ _ _ hb
theorem up2_row {g : Nat → Nat → Int32} {a i : Nat} {v : Int32} {j : Nat} : up2 g a i v a j = upd (g a) i v j := by
  unfold up2 upd
  by_cases h : j = i
  · rw [if_pos ⟨rfl, h⟩]; simp [h]
  · rw [if_neg (fun z => h z.2)]; simp [h]
theorem up2_rowL {g : Nat → Nat → Int64} {a i : Nat} {v : Int64} {j : Nat} : up2 g a i v a j = vp_updL (g a) i v j := by
  unfold up2 vp_updL
  by_cases h : j = i
  · rw [if_pos ⟨rfl, h⟩]; simp [h]
  · rw [if_neg (fun z => h z.2)]; simp [h]
theorem cel_int {G : GP} {g : GG} {T : TS} {a : Nat} (h : tK T a = 20) : cel G g T a = some (.inl (gA G 0, tl T a, .inl (tA T a))) := by unfold cel; rw [h]; rfl
theorem cel_byte {G : GP} {g : GG} {T : TS} {a : Nat} (h : tK T a = 21) : cel G g T a = some (.inl (gA G 1, tl T a, .inl (tA T a))) := by unfold cel; rw [h]; rfl
theorem cel_long {G : GP} {g : GG} {T : TS} {a : Nat} (h : tK T a = 22) : cel G g T a = some (.inl (gA G 2, tl T a, .inr (.inl (tJ T a)))) := by unfold cel; rw [h]; rfl
section HPS
variable {p : Program} {l : Launch} {e : Env} {R : Room} {s : State} {m : MethodId} {args : Array Value} {below : List Frame} {meth : Method} {c : Code} {H : Heap} {locs : List Loc} {cells slots : Nat} {Q : State → Prop}
variable {cc : ByteArray} {pc : Nat} {ls : Array Slot} {G : GP} {T T' : TS}
/-- what is kept of a store when a step has changed it -/
def Go (G : GP) (T T' : TS) (R : Room) (cells slots : Nat) (s : State) (k : Heap → List Loc → Prop) : Prop :=
  ∀ H' locs', Rel G T' H' → va_S (own G) s.heap H' locs' → k H' locs'
theorem getf_sound {o idx ci k : Nat} {a : Nat} {st : List Value} (hx : p.tables.exec = Jvm.exec) (hb : c.code = cc) (hown : s.vm.findClass (RN o) = some m.cls) (hts : ∀ w ∈ gw, w.before args s = true) (hG : GS G s) (hR : Rel G T H) (hf : fldOf o idx = some (ci, k)) (hK : tK T a = ci + 1) (hd : decode cc pc = .ok (.getfield idx, 3)) (kk : W p l e R s m args below meth c H locs cells slots Q (F0 m (pc + 3) ls (fvl T ci a k :: st))) : W p l e R s m args below meth c H locs cells slots Q (F0 m pc ls (.ref a :: st)) := by
  obtain ⟨-, -, -, hk, g, hl, hbk, hP⟩ := hR
  obtain ⟨f1, f2, f3, f4⟩ := fld_ok hf
  have hat := hP a _ (cel_obj hK f3)
  exact va_get hx hb hts (u_in f3) hown hG.1 (at_one hat) 0 rfl (kcl_at f3) k f2 (hts _ f1) (fun x h => by rw [(fld_facts ci f3 k f2).2.2.1 f4] at h; exact h) (flds_get f2) hd kk
theorem put_sound {o idx ci k : Nat} {a : Nat} {ini : Bool} {st : List Value} {v : Value} (hx : p.tables.exec = Jvm.exec) (hb : c.code = cc) (hown : s.vm.findClass (RN o) = some m.cls) (hts : ∀ w ∈ gw, w.before args s = true) (hini : ini = true → meth.name = "<init>") (hG : GS G s) (hR : Rel G T H) (hS : va_S (own G) s.heap H locs) (hf : fldOf o idx = some (ci, k)) (hK : tK T a = ci + 1) (hfin : fF ci k = false ∨ (ini = true ∧ ci = o)) (hv : narrow (tyN ci k) v = v ∧ fits (tyN ci k) v = true) (hKT : tK T' = tK T) (hnT : tn T' = tn T) (hAT : tA T' = tA T) (hlT : tl T' = tl T) (hJT : tJ T' = tJ T) (hLT : tL T' = tL T) (hcT : tc T' = tc T) (hI : ∀ f b, b ≠ a → tI T' f b = tI T f b) (hRf : ∀ f b, b ≠ a → tR T' f b = tR T f b) (hfl : flds T' ci a = (flds T ci a).set k v) (hd : decode cc pc = .ok (.putfield idx, 3))
    (kk : ∀ H' locs', Rel G T' H' → va_S (own G) s.heap H' locs' → W p l e R s m args below meth c H' locs' cells slots Q (F0 m (pc + 3) ls st)) : W p l e R s m args below meth c H locs cells slots Q (F0 m pc ls (v :: .ref a :: st)) := by
  obtain ⟨z1, z2, z3, hk, g, hl, hbk, hP⟩ := hR
  obtain ⟨f1, f2, f3, f4⟩ := fld_ok hf
  have hc0 := cel_obj (G := G) (g := g) hK f3
  have hat := hP a _ hc0
  have hlt := cel_lt hk hbk hc0
  obtain ⟨g1, -, g3, -⟩ := fld_facts ci f3 k f2
  refine m_put hx hb hts (u_in f3) (tyN ci) (ty_ok f3) (nm_ok f3) hown hG.1 hS (show own G a from hlt.1) hat (kcl_at f3) k f2 (hts _ f1) (fun x h => by rw [g3 f4] at h; exact h) ?_ (ty_ok f3 k f2) hv.1 hv.2 (by rw [flds_len]; exact f2) hd (fun H1 locs1 e1 e2 e3 e4 => ?_)
  · cases hq : (TN ci k).2.2.2 with
    | false => exact Or.inl rfl
    | true =>
      rw [hq] at g1
      rcases hfin with h | ⟨h, rfl⟩
      · rw [g1] at h; cases h
      · exact Or.inr ⟨rfl, hini h, g3 f4⟩
  · refine kk H1 locs1 (Rel.put (g' := g) ⟨z1, z2, z3⟩ hP hnT ?_ ?_ ?_ hlt.1 e1 e2 e3 ?_ (fun b hb => ?_)) e4
    · intro b hb
      rw [hKT] at hb ⊢
      rw [hnT, hlT, hAT]
      exact hk b hb
    · intro b hb
      rw [hKT] at hb ⊢
      rw [hLT, hcT]
      exact hl b hb
    · intro b o9 hb
      rw [hKT, hnT, hcT]
      exact hbk b o9 hb
    · rw [cel_obj (by rw [hKT]; exact hK) f3, hfl]
    · exact cel_congr (by rw [hKT]) (fun f => hI f b hb) (fun f => hRf f b hb) (by rw [hAT]) (by rw [hlT]) (by rw [hJT]) hLT hcT
/-- a row's place changed -/
theorem sA_rel {a i : Nat} {v : Int32} {e : va_E} {H1 : Heap} {g : GG} (hR : H.size = tn T ∧ (gH G).size ≤ tn T ∧ (∀ q, q < (gH G).size → H[q]? = (gH G)[q]?)) (hk : kOk G T) (hl : lsOk G g T) (hbk : bkOk G g T) (hP : ∀ b x, cel G g T b = some x → va_at (gD G) kcl (b, x) H) (hge : (gH G).size ≤ a) (hz : H1.size = H.size) (ho : ∀ q, q ≠ a → H1[q]? = H[q]?) (ha : va_at (gD G) kcl (a, e) H1) (hc : cel G g (sA a i v T) a = some e) : Rel G (sA a i v T) H1 := by
  refine Rel.put (g' := g) hR hP rfl (fun b hb => ?_) hl hbk hge hz ho ha hc (fun b hb => ?_)
  · rcases hk b hb with h | ⟨h1, h2, h3, h4, h5⟩
    · exact Or.inl h
    · refine Or.inr ⟨h1, h2, h3, ?_, h5⟩
      rw [← h4]
      funext j
      exact up2_ne' (by omega)
  · exact cel_congr rfl (fun f => rfl) (fun f => rfl) (funext fun j => up2_ne' hb) rfl rfl rfl rfl
theorem sJ_rel {a i : Nat} {v : Int64} {e : va_E} {H1 : Heap} {g : GG} (hR : H.size = tn T ∧ (gH G).size ≤ tn T ∧ (∀ q, q < (gH G).size → H[q]? = (gH G)[q]?)) (hk : kOk G T) (hl : lsOk G g T) (hbk : bkOk G g T) (hP : ∀ b x, cel G g T b = some x → va_at (gD G) kcl (b, x) H) (hge : (gH G).size ≤ a) (hz : H1.size = H.size) (ho : ∀ q, q ≠ a → H1[q]? = H[q]?) (ha : va_at (gD G) kcl (a, e) H1) (hc : cel G g (sJ a i v T) a = some e) : Rel G (sJ a i v T) H1 := by
  refine Rel.put (g' := g) hR hP rfl hk hl hbk hge hz ho ha hc (fun b hb => ?_)
  exact cel_congr rfl (fun f => rfl) (fun f => rfl) rfl rfl (funext fun j => up2_ne' hb) rfl rfl
theorem new_rel {k : Nat} {e : va_E} {H1 : Heap} {g : GG} (hk23 : k ≠ 23) (hk0 : k ≠ 0) (hkle : k ≤ 23) (hR : H.size = tn T ∧ (gH G).size ≤ tn T ∧ (∀ q, q < (gH G).size → H[q]? = (gH G)[q]?)) (hk : kOk G T) (hl : lsOk G g T) (hbk : bkOk G g T) (hP : ∀ b x, cel G g T b = some x → va_at (gD G) kcl (b, x) H) (hn : tn T' = tn T + 1) (hKT : tK T' = up1 (tK T) (tn T) k) (hAT : ∀ b, b ≠ tn T → tA T' b = tA T b) (hlT : ∀ b, b ≠ tn T → tl T' b = tl T b) (hJT : ∀ b, b ≠ tn T → tJ T' b = tJ T b) (hLT : tL T' = tL T) (hcT : tc T' = tc T) (hI : ∀ f b, b ≠ tn T → tI T' f b = tI T f b) (hRf : ∀ f b, b ≠ tn T → tR T' f b = tR T f b) (hz : H1.size = H.size + 1) (ho : ∀ q, q < H.size → H1[q]? = H[q]?) (ha : va_at (gD G) kcl (tn T, e) H1) (hc : cel G g T' (tn T) = some e) : Rel G T' H1 := by
  have hne : ∀ b, tK T b ≠ 0 → b ≠ tn T := by
    intro b hb
    rcases hk b hb with h | ⟨h1, h2, h3, h4, h5⟩
    · omega
    · omega
  have hKn : ∀ b, b ≠ tn T → tK T' b = tK T b := fun b hb => by rw [hKT, up1_ne _ _ _ hb]
  have hKa : tK T' (tn T) = k := by rw [hKT, up1_at]
  refine Rel.new (g' := g) hR hP (fun b x h => (cel_lt hk hbk h).2) hn (fun b hb => ?_) (fun b hb => ?_) (fun b o hb => ?_) hz ho ha hc (fun b x hb hx => ?_)
  · by_cases hbn : b = tn T
    · subst hbn
      refine Or.inl ⟨hR.2.1, by omega, by rw [hKa]; exact hkle⟩
    · rw [hKn b hbn] at hb
      rcases hk b hb with h | ⟨h1, h2, h3, h4, h5⟩
      · refine Or.inl ⟨h.1, by omega, by rw [hKn b hbn]; exact h.2.2⟩
      · exact Or.inr ⟨by rw [hKn b hbn]; exact h1, h2, by rw [hlT b hbn]; exact h3, by rw [hAT b hbn]; exact h4, h5⟩
  · have hbn : b ≠ tn T := by
      intro z
      subst z
      rw [hKa] at hb
      exact hk23 hb
    rw [hKn b hbn] at hb
    obtain ⟨q1, q2, q3⟩ := hl b hb
    rw [hLT, hcT]
    refine ⟨q1, fun y hy => ?_, q3⟩
    rw [hKn y (hne y (by have := (q2 y hy).1; omega))]
    exact q2 y hy
  · obtain ⟨q1, q2, q3, q4, q5, q6⟩ := hbk b o hb
    rw [hKn b (by omega), hKn o (hne o (by omega)), hcT, hn]
    exact ⟨q1, by omega, q3, q4, q5, q6⟩
  · rw [← hx]
    exact (cel_congr (hKn b hb) (fun f => hI f b hb) (fun f => hRf f b hb) (hAT b hb) (hlT b hb) (hJT b hb) hLT hcT).symm
theorem aw {w : Jvm.Cond} (hts : ∀ w ∈ gw, w.before args s = true) (h : w ∈ lw_tbl) (g : goodWord w = true) : w.before args s = true := hts w (List.mem_filter.mpr ⟨h, g⟩)
theorem hp_sound {o : Nat} {i : Instr} {ini : Bool} {st st' : List Value} (hx : p.tables.exec = Jvm.exec) (hb : c.code = cc) (hown : s.vm.findClass (RN o) = some m.cls) (hts : ∀ w ∈ gw, w.before args s = true) (hini : ini = true → meth.name = "<init>") (hG : GS G s) (hs0 : ∀ q, q < (gH G).size → s.heap[q]? = (gH G)[q]?) (hs1 : (gH G).size ≤ s.heap.size) (hR : Rel G T H) (hS : va_S (own G) s.heap H locs) (h : hpF o ini i st T = some (st', T')) (hd : decode cc pc = .ok (i, ilen i)) (hc1 : cells + (tn T' - tn T) ≤ R.cells) (hc2 : slots + (tu T' - tu T) ≤ R.slots)
    (kk : ∀ H' locs', Rel G T' H' → va_S (own G) s.heap H' locs' → W p l e R s m args below meth c H' locs' (cells + (tn T' - tn T)) (slots + (tu T' - tu T)) Q (F0 m (pc + ilen i) ls st')) : W p l e R s m args below meth c H locs cells slots Q (F0 m pc ls st) := by
  have e0 : ∀ n x : Nat, n + (x - x) = n := fun n x => by omega
  obtain ⟨z1, z2, z3, hk, g, hl, hbk, hP⟩ := id hR
  have hscr : va_X (gB G) (gS G) (gX G) s s.heap := hG.2.2.2.2.1.kept (hs0 _ hG.2.2.2.2.2.1)
  have hsl : gB G < s.heap.size := Nat.lt_of_lt_of_le hG.2.2.2.2.2.1 hs1
  have hsA : ¬ own G (gB G) := Nat.not_le.mpr hG.2.2.2.2.2.1
  unfold hpF at h
  split at h
  · -- getfield
    split at h
    · rename_i idx st a st0
      cases hf : fldOf o idx with
      | none => rw [hf] at h; cases h
      | some f =>
        obtain ⟨ci, k⟩ := f
        rw [hf] at h
        simp only [Option.bind_some] at h
        split at h
        · rename_i hK
          cases h
          rw [e0, e0] at kk
          exact getf_sound hx hb hown hts hG hR hf hK hd (kk H locs hR hS)
        · cases h
    · cases h
  · -- putfield
    split at h
    · rename_i idx st v a st0
      cases hf : fldOf o idx with
      | none => rw [hf] at h; cases h
      | some f =>
        obtain ⟨ci, k⟩ := f
        rw [hf] at h
        simp only [Option.bind_some] at h
        split at h
        · rename_i hK
          obtain ⟨f1, f2, f3, f4⟩ := fld_ok hf
          cases h
          have hty : tyN ci k = .int := by
            have := (fld_facts ci f3 k f2).2.1
            rw [if_pos hK.2.1] at this
            exact this
          rw [show tn (sI (32 * ci + k) a v T) = tn T from rfl, show tu (sI (32 * ci + k) a v T) = tu T from rfl, e0, e0] at kk
          exact put_sound (T' := sI (32 * ci + k) a v T) hx hb hown hts hini hG hR hS hf hK.1 hK.2.2 (by rw [hty]; exact ⟨rfl, rfl⟩) rfl rfl rfl rfl rfl rfl rfl (fun f b hb => up2_ne _ _ _ _ hb) (fun f b hb => rfl) (flds_sI f2 hK.2.1) hd kk
        · cases h
    · rename_i idx st v a st0
      cases hf : fldOf o idx with
      | none => rw [hf] at h; cases h
      | some f =>
        obtain ⟨ci, k⟩ := f
        rw [hf] at h
        simp only [Option.bind_some] at h
        split at h
        · rename_i hK
          obtain ⟨f1, f2, f3, f4⟩ := fld_ok hf
          cases h
          have hty := (fld_facts ci f3 k f2).2.1
          rw [if_neg (by rw [hK.2.1]; decide)] at hty
          have hr := refty hty (some v)
          rw [show tn (sR (32 * ci + k) a (some v) T) = tn T from rfl, show tu (sR (32 * ci + k) a (some v) T) = tu T from rfl, e0, e0] at kk
          exact put_sound (T' := sR (32 * ci + k) a (some v) T) hx hb hown hts hini hG hR hS hf hK.1 hK.2.2 ⟨hr.1, hr.2.1⟩ rfl rfl rfl rfl rfl rfl rfl (fun f b hb => rfl) (fun f b hb => up2_ne _ _ _ _ hb) (flds_sR f2 hK.2.1) hd kk
        · cases h
    · rename_i idx st a st0
      cases hf : fldOf o idx with
      | none => rw [hf] at h; cases h
      | some f =>
        obtain ⟨ci, k⟩ := f
        rw [hf] at h
        simp only [Option.bind_some] at h
        split at h
        · rename_i hK
          obtain ⟨f1, f2, f3, f4⟩ := fld_ok hf
          cases h
          have hty := (fld_facts ci f3 k f2).2.1
          rw [if_neg (by rw [hK.2.1]; decide)] at hty
          have hr := refty hty none
          rw [show tn (sR (32 * ci + k) a none T) = tn T from rfl, show tu (sR (32 * ci + k) a none T) = tu T from rfl, e0, e0] at kk
          exact put_sound (T' := sR (32 * ci + k) a none T) hx hb hown hts hini hG hR hS hf hK.1 hK.2.2 ⟨hr.1, hr.2.1⟩ rfl rfl rfl rfl rfl rfl rfl (fun f b hb => rfl) (fun f b hb => up2_ne _ _ _ _ hb) (flds_sR f2 hK.2.1) hd kk
        · cases h
    · cases h
  · -- arraylength
    split at h
    · rename_i st a st0
      split at h
      · rename_i hK
        cases h
        rw [e0, e0] at kk
        rcases hK with hK | hK
        · exact va_alen hx hb hG.1 (at_one (hP a _ (cel_int hK))) 0 0 rfl rfl rfl hd (kk H locs hR hS)
        · rcases hk a (by omega) with h3 | ⟨h1, h2, h3, h4, h5⟩
          · omega
          · subst h2
            refine va_slen hx hb hscr hsl hsA hS hd ?_
            have k2 := kk H locs hR hS
            rw [h3] at k2
            exact k2
      · cases h
    · cases h
  · -- iaload
    split at h
    · rename_i st i a st0
      split at h
      · rename_i hK
        cases h
        rw [e0, e0] at kk
        obtain ⟨hK, hin⟩ := hK
        rcases hK with hK | hK
        · exact va_iald hx hb hG.1 (at_one (hP a _ (cel_int hK))) 0 0 rfl rfl hin hd (kk H locs hR hS)
        · rcases hk a (by omega) with h3 | ⟨h1, h2, h3, h4, h5⟩
          · omega
          · subst h2
            rw [h3] at hin
            refine va_sld hx hb hscr hsl hsA hS hin hd ?_
            have k2 := kk H locs hR hS
            rw [h4] at k2
            exact k2
      · cases h
    · cases h
  · -- laload
    split at h
    · rename_i st i a st0
      split at h
      · rename_i hK
        cases h
        rw [e0, e0] at kk
        exact va_lald hx hb hG.1 (at_one (hP a _ (cel_long hK.1))) 0 2 rfl rfl hK.2 hd (kk H locs hR hS)
      · cases h
    · cases h
  · -- iastore
    split at h
    · rename_i st v i a st0
      split at h
      · rename_i hK
        cases h
        rw [show tn (sA a i.toNatClampNeg v T) = tn T from rfl, show tu (sA a i.toNatClampNeg v T) = tu T from rfl, e0, e0] at kk
        have hc0 := cel_int (G := G) (g := g) hK.1
        have hlt := cel_lt hk hbk hc0
        refine m_iast hx hb hG.1 hS (show own G a from hlt.1) 0 (hP a _ hc0) rfl hK.2 hd (fun H1 locs1 q1 q2 q3 q4 => kk H1 locs1 (sA_rel ⟨z1, z2, z3⟩ hk hl hbk hP hlt.1 q1 q2 q3 ?_) q4)
        rw [cel_int (show tK (sA a i.toNatClampNeg v T) a = 20 from hK.1)]
        rw [show tA (sA a i.toNatClampNeg v T) a = upd (tA T a) i.toNatClampNeg v from funext fun j => up2_row]
        rfl
      · cases h
    · cases h
  · -- lastore
    split at h
    · rename_i st v i a st0
      split at h
      · rename_i hK
        cases h
        rw [show tn (sJ a i.toNatClampNeg v T) = tn T from rfl, show tu (sJ a i.toNatClampNeg v T) = tu T from rfl, e0, e0] at kk
        have hc0 := cel_long (G := G) (g := g) hK.1
        have hlt := cel_lt hk hbk hc0
        refine m_last hx hb hG.1 hS (show own G a from hlt.1) 2 (hP a _ hc0) rfl hK.2 hd (fun H1 locs1 q1 q2 q3 q4 => kk H1 locs1 (sJ_rel ⟨z1, z2, z3⟩ hk hl hbk hP hlt.1 q1 q2 q3 ?_) q4)
        rw [cel_long (show tK (sJ a i.toNatClampNeg v T) a = 22 from hK.1)]
        rw [show tJ (sJ a i.toNatClampNeg v T) a = vp_updL (tJ T a) i.toNatClampNeg v from funext fun j => up2_rowL]
        rfl
      · cases h
    · cases h
  · -- newarray
    split at h
    · rename_i t st n st0
      split at h
      · rename_i hK
        obtain ⟨hn, hN, hk0⟩ := hK
        cases h
        have en : tn (nA (kOf t) n.toNatClampNeg T) - tn T = 1 := by show tn T + 1 - tn T = 1; omega
        have eu : tu (nA (kOf t) n.toNatClampNeg T) - tu T = n.toNatClampNeg := by show tu T + _ - tu T = _; omega
        rw [en, eu] at kk
        rw [en] at hc1
        rw [eu] at hc2
        rw [← z1] at kk
        have key : ∀ {ty : FieldType} {cA : ClassId} {a0 : vp_A} (kz : Nat), kOf t = kz → newarray.typeOf t = ty → Jvm.Cond.arrayClass ty ∈ lw_tbl → s.vm.findClass ("[" ++ ty.toString) = some cA → vp_cell cA a0 = arrV cA n.toNatClampNeg (fun _ => defaultValue ty) → componentBytes ty ≤ 8 → cel G g (nA kz n.toNatClampNeg T) (tn T) = some (.inl (cA, a0)) → kz ≠ 23 → kz ≠ 0 → kz ≤ 23 → W p l e R s m args below meth c H locs cells slots Q (F0 m pc ls (.int n :: st0)) := by
          intro ty cA a0 kz ek ety hw hcA ha hby hcel h23 h00 hle
          subst ek
          refine m_newa (D := gD G) (cl := kcl) hx hb (by rw [ety]; exact aw hts hw rfl) ety hS hcA ha hn rfl (Nat.le_trans (Nat.mul_le_mul hN hby) (by decide)) hc1 hc2 hd (fun H1 q1 q2 q3 q4 => ?_)
          refine kk H1 locs (new_rel (T' := nA (kOf t) n.toNatClampNeg T) h23 h00 hle ⟨z1, z2, z3⟩ hk hl hbk hP rfl rfl (fun b hb => up1_ne _ _ _ hb) (fun b hb => up1_ne _ _ _ hb) (fun b hb => up1_ne _ _ _ hb) rfl rfl (fun f b hb => rfl) (fun f b hb => rfl) q1 q2 (by rw [← z1]; exact q3) hcel) q4
        have hat : ∀ kz, up1 (tK T) (tn T) kz (tn T) = kz := fun kz => up1_at _ _ _
        cases t <;> first | exact absurd rfl hk0 | skip
        · refine key 20 rfl rfl (by decide +kernel) (hG.1.2 0 _ rfl).2 (a0 := (n.toNatClampNeg, .inl (fun _ => 0))) (by rw [vp_cell_i]; rfl) (by decide) ?_ (by decide) (by decide) (by decide)
          rw [cel_int (T := nA 20 n.toNatClampNeg T) (hat 20)]
          show (some (.inl (gA G 0, up1 (tl T) (tn T) n.toNatClampNeg (tn T), .inl (up1 (tA T) (tn T) (fun _ => 0) (tn T)))) : Option va_E) = _
          rw [up1_at, up1_at]
        · refine key 22 rfl rfl (by decide +kernel) (hG.1.2 2 _ rfl).2 (a0 := (n.toNatClampNeg, .inr (.inl (fun _ => 0)))) (by rw [vp_cell_l]; rfl) (by decide) ?_ (by decide) (by decide) (by decide)
          rw [cel_long (T := nA 22 n.toNatClampNeg T) (hat 22)]
          show (some (.inl (gA G 2, up1 (tl T) (tn T) n.toNatClampNeg (tn T), .inr (.inl (up1 (tJ T) (tn T) (fun _ => 0) (tn T))))) : Option va_E) = _
          rw [up1_at, up1_at]
      · cases h
    · cases h
  · -- checkcast
    split at h
    · rename_i idx st a st0
      cases hf : clOf o idx with
      | none => rw [hf] at h; cases h
      | some ci =>
        rw [hf] at h
        simp only [Option.bind_some] at h
        split at h
        · rename_i hK
          cases h
          rw [e0, e0] at kk
          obtain ⟨hK, hc1, hc8⟩ := hK
          have hc9 : ci < 9 := by omega
          have hlink := hts _ (cl_ok hf)
          have hcn : cN ci = RN ci := by unfold cN; rw [if_pos (by omega)]
          rw [hcn] at hlink
          have hrec := va_recv hG.1 (at_one (hP a _ (cel_obj hK hc9))) (kcl_at hc9) (q0 := 0) rfl
          obtain ⟨cell, r1, r2, r3⟩ := hrec
          refine va_castY hx hb (C := RN ci) hown hlink ?_ ⟨cell, r1, r2, r3⟩ hd (kk H locs hR hS)
          unfold va_Nw
          simp [Cond.before, Cond.holds, Cond.value, r3, va_asg]
        · cases h
    · cases h
  · -- new
    rename_i idx
    cases hf : clOf o idx with
    | none => rw [hf] at h; cases h
    | some ci =>
      rw [hf] at h
      simp only [Option.bind_some] at h
      split at h
      · rename_i hc8
        cases h
        have hc9 : ci < 9 := by omega
        have en : tn (nO ci T) - tn T = 1 := by show tn T + 1 - tn T = 1; omega
        have eu : tu (nO ci T) - tu T = NN ci := by show tu T + _ - tu T = _; omega
        rw [en, eu] at kk
        rw [en] at hc1
        rw [eu] at hc2
        rw [← z1] at kk
        have hlink := hts _ (cl_ok hf)
        have hcn : cN ci = RN ci := by unfold cN; rw [if_pos (by omega)]
        rw [hcn] at hlink
        obtain ⟨i1, i2⟩ := inst_all ci hc9
        refine m_new (cl := kcl) (D := gD G) (fs := flds (nO ci T) ci (tn T)) hx hb hts (u_in hc9) (tyN ci) (ty_ok hc9) hown hlink (aw hts i1 rfl) (aw hts i2 rfl) hG.1 hS (kcl_at hc9) (fun j hj => ?_) hc1 hc2 hd (fun H1 q1 q2 q3 q4 => ?_)
        · unfold vp_V
          rw [List.getD_eq_getElem?_getD, flds_get hj]
          show _ = fvl (nO ci T) ci (tn T) j
          obtain ⟨-, g2, -⟩ := fld_facts ci hc9 j hj
          unfold fvl
          cases hq : fI ci j with
          | true =>
            rw [hq, if_pos rfl] at g2
            rw [if_pos rfl, g2]
            show Value.int 0 = Value.int (if tn T = tn T then 0 else _)
            rw [if_pos rfl]
          | false =>
            rw [hq, if_neg (by decide)] at g2
            rw [if_neg (by decide), (refty g2 none).2.2]
            show Value.null = va_rf (if tn T = tn T then none else _)
            rw [if_pos rfl]
            rfl
        · refine kk H1 locs (new_rel (T' := nO ci T) (k := ci + 1) (by omega) (by omega) (by omega) ⟨z1, z2, z3⟩ hk hl hbk hP rfl rfl (fun b hb => rfl) (fun b hb => rfl) (fun b hb => rfl) rfl rfl (fun f b hb => if_neg hb) (fun f b hb => if_neg hb) q1 q2 (by rw [← z1]; rw [← z1] at q3; exact q3) (cel_obj (up1_at _ _ _) hc9)) q4
      · cases h
  · cases h
end HPS
end
section
/-! what only grows; what a state keeps under warming -/
theorem hp_mono {o : Nat} {ini : Bool} {i : Instr} {st st' : List Value} {T T' : TS} (h : hpF o ini i st T = some (st', T')) : tn T ≤ tn T' ∧ tu T ≤ tu T' := by
  have e1 : ∀ f a v, tn (sI f a v T) = tn T ∧ tu (sI f a v T) = tu T := fun _ _ _ => ⟨rfl, rfl⟩
  unfold hpF at h
  split at h
  · split at h
    · cases hf : fldOf o _ with
      | none => rw [hf] at h; cases h
      | some f => rw [hf] at h; simp only [Option.bind_some] at h; split at h <;> cases h; exact ⟨Nat.le_refl _, Nat.le_refl _⟩
    · cases h
  · split at h
    · cases hf : fldOf o _ with
      | none => rw [hf] at h; cases h
      | some f => rw [hf] at h; simp only [Option.bind_some] at h; split at h <;> cases h; exact ⟨Nat.le_refl _, Nat.le_refl _⟩
    · cases hf : fldOf o _ with
      | none => rw [hf] at h; cases h
      | some f => rw [hf] at h; simp only [Option.bind_some] at h; split at h <;> cases h; exact ⟨Nat.le_refl _, Nat.le_refl _⟩
    · cases hf : fldOf o _ with
      | none => rw [hf] at h; cases h
      | some f => rw [hf] at h; simp only [Option.bind_some] at h; split at h <;> cases h; exact ⟨Nat.le_refl _, Nat.le_refl _⟩
    · cases h
  · split at h
    · split at h <;> cases h; exact ⟨Nat.le_refl _, Nat.le_refl _⟩
    · cases h
  · split at h
    · split at h <;> cases h; exact ⟨Nat.le_refl _, Nat.le_refl _⟩
    · cases h
  · split at h
    · split at h <;> cases h; exact ⟨Nat.le_refl _, Nat.le_refl _⟩
    · cases h
  · split at h
    · split at h <;> cases h; exact ⟨Nat.le_refl _, Nat.le_refl _⟩
    · cases h
  · split at h
    · split at h <;> cases h; exact ⟨Nat.le_refl _, Nat.le_refl _⟩
    · cases h
  · split at h
    · split at h <;> cases h; exact ⟨Nat.le_succ _, Nat.le_add_right _ _⟩
    · cases h
  · split at h
    · cases hf : clOf o _ with
      | none => rw [hf] at h; cases h
      | some f => rw [hf] at h; simp only [Option.bind_some] at h; split at h <;> cases h; exact ⟨Nat.le_refl _, Nat.le_refl _⟩
    · cases h
  · cases hf : clOf o _ with
    | none => rw [hf] at h; cases h
    | some f => rw [hf] at h; simp only [Option.bind_some] at h; split at h <;> cases h; exact ⟨Nat.le_succ _, Nat.le_add_right _ _⟩
  · cases h
theorem step_cases {o nL : Nat} {ini : Bool} {i : Instr} {pc pc' : Nat} {l l' : Loc0} {st st' : List Value} {T T' : TS} (h : step o nL ini i pc l st T = some (pc', l', st', T')) : (stkF o i st = some st' ∧ pc' = pc + ilen i ∧ l' = l ∧ T' = T) ∨ (locF nL i l st = some (l', st') ∧ pc' = pc + ilen i ∧ T' = T) ∨ (braF i pc st = some (pc', st') ∧ l' = l ∧ T' = T) ∨ (hpF o ini i st T = some (st', T') ∧ pc' = pc + ilen i ∧ l' = l) := by
  unfold step at h
  cases h1 : stkF o i st with
  | some x => rw [h1] at h; cases h; exact Or.inl ⟨rfl, rfl, rfl, rfl⟩
  | none =>
    rw [h1] at h
    cases h2 : locF nL i l st with
    | some x => obtain ⟨a, b⟩ := x; rw [h2] at h; cases h; exact Or.inr (Or.inl ⟨rfl, rfl, rfl⟩)
    | none =>
      rw [h2] at h
      cases h3 : braF i pc st with
      | some x => obtain ⟨a, b⟩ := x; rw [h3] at h; cases h; exact Or.inr (Or.inr (Or.inl ⟨rfl, rfl, rfl⟩))
      | none =>
        rw [h3] at h
        cases h4 : hpF o ini i st T with
        | some x => obtain ⟨a, b⟩ := x; rw [h4] at h; cases h; exact Or.inr (Or.inr (Or.inr ⟨rfl, rfl, rfl⟩))
        | none => rw [h4] at h; cases h
theorem step_mono {o nL : Nat} {ini : Bool} {i : Instr} {pc pc' : Nat} {l l' : Loc0} {st st' : List Value} {T T' : TS} (h : step o nL ini i pc l st T = some (pc', l', st', T')) : tn T ≤ tn T' ∧ tu T ≤ tu T' := by
  rcases step_cases h with ⟨-, -, -, rfl⟩ | ⟨-, -, rfl⟩ | ⟨-, -, rfl⟩ | ⟨h, -⟩
  · exact ⟨Nat.le_refl _, Nat.le_refl _⟩
  · exact ⟨Nat.le_refl _, Nat.le_refl _⟩
  · exact ⟨Nat.le_refl _, Nat.le_refl _⟩
  · exact hp_mono h
theorem run_mono {C : Nat → List Value → TS → Out → TS → Prop} (hC : ∀ mid As T r T1, C mid As T r T1 → tn T ≤ tn T1 ∧ tu T ≤ tu T1) {M : MI} {hs : Hn} : ∀ (n pc : Nat) (l : Loc0) (st : List Value) (T : TS) (out : Out) (T' : TS), run C M hs n pc l st T out T' → tn T ≤ tn T' ∧ tu T ≤ tu T' := by
  intro n
  induction n with
  | zero => intro pc l st T out T' h; cases h
  | succ n ih =>
    intro pc l st T out T' h
    obtain ⟨i, len, -, -, h⟩ := h
    split at h
    · obtain ⟨v, -, -, rfl⟩ := h
      exact ⟨Nat.le_refl _, Nat.le_refl _⟩
    · obtain ⟨idx, k, mid, -, -, -, -, h⟩ := h
      split at h
      · obtain ⟨a, st', -, -, h⟩ := h
        exact ih _ _ _ _ _ _ h
      · obtain ⟨x, y, st', -, -, h⟩ := h
        exact ih _ _ _ _ _ _ h
      · obtain ⟨M', As, st', st2, r, T1, -, -, -, -, hc, h⟩ := h
        have h1 := hC _ _ _ _ _ hc
        cases r with
        | inl v =>
          have h2 := ih _ _ _ _ _ _ h
          exact ⟨Nat.le_trans h1.1 h2.1, Nat.le_trans h1.2 h2.2⟩
        | inr x =>
          simp only at h
          split at h
          · obtain ⟨-, rfl⟩ := h
            exact h1
          · obtain ⟨k9, -, ⟨-, h⟩ | ⟨-, h⟩⟩ := h
            · have h2 := ih _ _ _ _ _ _ h
              exact ⟨Nat.le_trans h1.1 h2.1, Nat.le_trans h1.2 h2.2⟩
            · have h2 := ih _ _ _ _ _ _ h
              exact ⟨Nat.le_trans h1.1 h2.1, Nat.le_trans h1.2 h2.2⟩
    · obtain ⟨idx, ci, -, -, ⟨-, h⟩ | ⟨-, -, -, -, -, -, -, -, -, rfl⟩⟩ := h
      · have h2 := ih _ _ _ _ _ _ h
        exact ⟨Nat.le_trans (Nat.le_succ _) h2.1, Nat.le_trans (Nat.le_add_right _ _) h2.2⟩
      · exact ⟨Nat.le_succ _, Nat.le_add_right _ _⟩
    · obtain ⟨pc', l', st', T1, h1, h⟩ := h
      have h2 := ih _ _ _ _ _ _ h
      have h3 := step_mono h1
      exact ⟨Nat.le_trans h3.1 h2.1, Nat.le_trans h3.2 h2.2⟩
theorem lst_mono {mid : Nat} {As : List Value} {T T' : TS} {r : Out} (h : lst mid As T r T') : tn T ≤ tn T' ∧ tu T ≤ tu T' := by
  have hf : ∀ a, tn T ≤ tn (fit a T) ∧ tu T ≤ tu (fit a T) := by
    intro a
    unfold fit
    split
    · exact ⟨Nat.le_succ _, Nat.le_add_right _ _⟩
    · exact ⟨Nat.le_refl _, Nat.le_refl _⟩
  unfold lst at h
  split at h
  · obtain ⟨a, -, -, -, -, -, -, rfl⟩ := h; exact ⟨Nat.le_refl _, Nat.le_refl _⟩
  · obtain ⟨a, -, -, -, rfl⟩ := h; exact ⟨Nat.le_refl _, Nat.le_refl _⟩
  · obtain ⟨a, k, b, -, -, -, -, -, rfl⟩ := h; exact ⟨Nat.le_refl _, Nat.le_refl _⟩
  · obtain ⟨a, b, -, -, -, -, -, -, rfl⟩ := h; exact hf a
  · obtain ⟨a, k, b, -, -, -, -, -, -, -, -, rfl⟩ := h; exact hf a
  · obtain ⟨a, k, b, -, -, -, -, -, rfl⟩ := h; exact ⟨Nat.le_refl _, Nat.le_refl _⟩
  · cases h
theorem Call_mono : ∀ (d mid : Nat) (As : List Value) (T : TS) (r : Out) (T1 : TS), Call d mid As T r T1 → tn T ≤ tn T1 ∧ tu T ≤ tu T1 := by
  intro d
  induction d with
  | zero => intro mid As T r T1 h; cases h
  | succ d ih =>
    intro mid As T r T1 h
    rcases h with h | ⟨-, M, n, -, -, h⟩
    · exact lst_mono h
    · exact run_mono ih _ _ _ _ _ _ _ h
theorem NW_warm {w : Jvm.Cond} (hw : w ∈ NWl) {s U : State} (hW : s.WarmedH U.vm) (h : va_Nw w s) : va_Nw w U := by
  simp only [NWl, List.mem_cons, List.not_mem_nil, or_false] at hw
  rcases hw with rfl | rfl | rfl | rfl | rfl | rfl | rfl | rfl | rfl | rfl | rfl | rfl | rfl | rfl | rfl | rfl | rfl | rfl | rfl | rfl <;> first | exact va_Nw.warmM hW h | exact va_Nw.warmC hW h | exact va_Nw.warmD hW h
theorem GS.warm {G : GP} {s U : State} (hW : s.WarmedH U.vm) (h : GS G s) : GS G U := by
  obtain ⟨h1, h2, h3, h4, h5, h6, h7, ⟨f, h8⟩, h9, mi, h10⟩ := h
  exact ⟨va_K.moved hW.alike h1, fun w hw => NW_warm hw hW (h2 w hw), vx_Zq.moved hW.alike h3, vx_Zq.moved hW.alike h4, h5.moved hW.alike, h6, va_Z.moved hW.alike h7, ⟨f, va_T.moved hW.alike h8⟩, va_AO.moved hW.alike h9, mi, va_Mi.moved hW.alike h10⟩
end
section
/-! what a run over the store says of the machine -/
/-- the room of a method, by its number -/
def rmS (k mc ms : Nat) : Room := { frames := frT k, cells := mc, slots := ms, locals := 40 * frT k + 40 }
def PcG (G : GP) (T : TS) (As : List Value) : Array Value → State → Prop := va_Pc As (fun U => Rel G T U.heap ∧ GS G U)
def QcG (G : GP) (r : Out) (T1 : TS) : Array Value → State → Outcome → State → Prop := fun _ st oc t => (∃ v, r = .inl v ∧ oc = .returned v) ∧ Rel G T1 t.heap ∧ va_F (own G) st t
def XcG (G : GP) (r : Out) (T1 : TS) : String → State → State → Prop := fun E st t => (∃ x, r = .inr x ∧ E = xN x) ∧ Rel G T1 t.heap ∧ va_F (own G) st t
/-- calls d deep are what the machine does -/
def CSound (l : Launch) (d : Nat) : Prop := ∀ (mid : Nat) (M : MI) (As : List Value) (T : TS) (r : Out) (T1 : TS) (G : GP), mth mid = some M → Call d mid As T r T1 → vx_Met l M.1 (.code M.1 M.2.1 M.2.2.1 M.2.2.2.1 :: gw) (rmS mid (tn T1 - tn T) (tu T1 - tu T)) (PcG G T As) (QcG G r T1) (XcG G r T1) (tn T1 - tn T) (tu T1 - tu T) (own G)
theorem PcG_blind {G : GP} {T : TS} {As : List Value} : FrameBlind (PcG G T As) := by
  intro a U g mk h
  obtain ⟨h1, h2, h3⟩ := h
  exact ⟨h1, h2, GS.warm (s := U) (U := U.calling g mk a) (State.WarmedH.refl U) h3⟩
theorem gw_good {w : Jvm.Cond} (h : w ∈ gw) : (w.onTables && w.keeps) = true ∨ ∃ ty, w = .arrayClass ty := good_of_word (gw_in h).2
set_option maxRecDepth 100000 in
theorem nest_in : ∀ e ∈ callT, e.2.1 = 2 → callW e ∈ NWl := by decide +kernel
section SND
variable {p : Program} {l : Launch} {e : Env} {R : Room} {s : State} {m : MethodId} {args : Array Value} {below : List Frame} {meth : Method} {c : Code} {H : Heap} {locs : List Loc} {cells slots : Nat} {Q : State → Prop}
variable {cc : ByteArray} {pc : Nat} {ls : Array Slot} {G : GP} {T T' : TS}
theorem m_call {r : Out} {T1 : TS} {st0 rest : List Value} {a : Array Value} {mc ms : Nat} (hr : vx_Run p l e R s m args below meth c H locs cells slots mc ms (F0 m pc ls st0) rest (QcG G r T1 a) (XcG G r T1) (own G)) (hS : va_S (own G) s.heap H locs)
    (kk : ∀ v H1 locs1, r = .inl v → Rel G T1 H1 → va_S (own G) s.heap H1 locs1 → W p l e R s m args below meth c H1 locs1 (cells + mc) (slots + ms) Q (F0 m (pc + 3) ls (v.toList ++ rest)))
    (kx : ∀ x H1 locs1 q ce, r = .inr x → Rel G T1 H1 → va_S (own G) s.heap H1 locs1 → H1[q]? = some ce → ce.vm = .none → s.vm.findClass (xN x) = some ce.cls → vx_W p l e R s m args below meth c H1 locs1 (cells + mc) (slots + ms) Q (F0 m pc ls rest) q) : W p l e R s m args below meth c H locs cells slots Q (F0 m pc ls st0) := by
  intro T hT X
  rcases hr T hT X with ⟨v, st₀, t, T', L, h0, X', hL, e1, e2, ⟨⟨v', hv, hv2⟩, hRel, hF⟩, st⟩ | ⟨q, st₀, t, T', L, E, ce, h0, X', hL, e1, e2, ⟨⟨x, hv, hv2⟩, hRel, hF⟩, hce, hcv, hcl, st⟩
  · cases hv2
    have hS' : va_S (own G) s.heap T'.heap (locs ++ L) := (vx_keep h0 e1 hS (fun q _ h => h) (fun q h => h) hL hF).2.2
    obtain ⟨t2, a1, b1⟩ := kk v T'.heap (locs ++ L) hv (by rw [e1]; exact hRel) hS' T' rfl X'
    exact ⟨t2, st t2 a1, b1⟩
  · subst hv2
    have hS' : va_S (own G) s.heap T'.heap (locs ++ L) := (vx_keep h0 e1 hS (fun q _ h => h) (fun q h => h) hL hF).2.2
    obtain ⟨t2, a1, b1⟩ := kx x T'.heap (locs ++ L) q ce hv (by rw [e1]; exact hRel) hS' (by rw [e1]; exact hce) hcv hcl T' rfl X'
    exact ⟨t2, Steps.trans st a1, b1⟩
/-- a step that is no call -/
theorem step_sound {o nL : Nat} {ini : Bool} {i : Instr} {len pc' : Nat} {lv lv' : Loc0} {st st' : List Value} (hx : p.tables.exec = Jvm.exec) (hb : c.code = cc) (hown : s.vm.findClass (RN o) = some m.cls) (hts : ∀ w ∈ gw, w.before args s = true) (hini : ini = true → meth.name = "<init>") (hG : GS G s) (hs0 : ∀ q, q < (gH G).size → s.heap[q]? = (gH G)[q]?) (hs1 : (gH G).size ≤ s.heap.size) (hR : Rel G T H) (hS : va_S (own G) s.heap H locs) (hl : lv_has ls nL lv) (h : step o nL ini i pc lv st T = some (pc', lv', st', T')) (hlen : lenOk i len) (hd : decode cc pc = .ok (i, len)) (hc1 : cells + (tn T' - tn T) ≤ R.cells) (hc2 : slots + (tu T' - tu T) ≤ R.slots)
    (kk : ∀ H' locs' ls', Rel G T' H' → va_S (own G) s.heap H' locs' → lv_has ls' nL lv' → W p l e R s m args below meth c H' locs' (cells + (tn T' - tn T)) (slots + (tu T' - tu T)) Q (F0 m pc' ls' st')) : W p l e R s m args below meth c H locs cells slots Q (F0 m pc ls st) := by
  have e0 : ∀ n x : Nat, n + (x - x) = n := fun n x => by omega
  have hlen2 : (∀ d lo hi os, i ≠ .tableswitch d lo hi os) → len = ilen i := by
    intro hne
    cases i <;> first | exact hlen | exact absurd rfl (hne _ _ _ _)
  rcases step_cases h with ⟨h1, rfl, rfl, rfl⟩ | ⟨h1, rfl, rfl⟩ | ⟨h1, rfl, rfl⟩ | ⟨h1, rfl, rfl⟩
  · have hl2 : len = ilen i := hlen2 (fun d lo hi os z => by subst z; cases h1)
    subst hl2
    rw [e0, e0] at kk
    exact stk_sound hx hb hown hts h1 hd (kk H locs ls hR hS hl)
  · have hl2 : len = ilen i := hlen2 (fun d lo hi os z => by subst z; cases h1)
    subst hl2
    rw [e0, e0] at kk
    exact loc_sound hx hb hl h1 hd (fun ls' hl' => kk H locs ls' hR hS hl')
  · rw [e0, e0] at kk
    exact bra_sound hx hb h1 hlen hd (kk H locs ls hR hS hl)
  · have hl2 : len = ilen i := hlen2 (fun d lo hi os z => by subst z; cases h1)
    subst hl2
    exact hp_sound hx hb hown hts hini hG hs0 hs1 hR hS h1 hd hc1 hc2 (fun H' locs' r1 r2 => kk H' locs' ls r1 r2 hl)
theorem popN_eq {n : Nat} {st As st' : List Value} (h : popN n st = some (As, st')) : As.length = n ∧ st = As.reverse ++ st' := by
  unfold popN at h
  split at h <;> cases h <;> exact ⟨rfl, rfl⟩
theorem cat_le : ∀ (st : List Value), (st.map fun v => v.category).sum ≤ 2 * st.length := by
  intro st
  induction st with
  | nil => exact Nat.le_refl _
  | cons v st ih =>
    simp only [List.map_cons, List.sum_cons, List.length_cons]
    have : v.category ≤ 2 := by cases v <;> simp [Value.category]
    omega
theorem cls_ne (k : Nat) : RN k ≠ "java/lang/invoke/MethodHandle" ∧ RN k ≠ "java/lang/invoke/VarHandle" := by
  unfold RN
  split <;> decide
theorem cs0 {i : Instr} {idx : Nat} (h : csort i 0) (h2 : cixOf i = some idx) : i = .invokevirtual idx := by
  cases i <;> first | (cases h; done) | (cases h2; rfl) | (exact absurd h (by simp [csort]))
theorem cs1 {i : Instr} {idx : Nat} (h : csort i 1) (h2 : cixOf i = some idx) : i = .invokestatic idx := by
  cases i <;> first | (cases h; done) | (cases h2; rfl) | (exact absurd h (by simp [csort]))
theorem cs2 {i : Instr} {idx : Nat} (h : csort i 2) (h2 : cixOf i = some idx) : i = .invokestatic idx := by
  cases i <;> first | (cases h; done) | (cases h2; rfl) | (exact absurd h (by simp [csort]))
theorem cs3 {i : Instr} {idx : Nat} (h : csort i 3) (h2 : cixOf i = some idx) : i = .invokespecial idx := by
  cases i <;> first | (cases h; done) | (cases h2; rfl) | (exact absurd h (by simp [csort]))
theorem cs4 {i : Instr} {idx : Nat} (h : csort i 4) (h2 : cixOf i = some idx) : i = .invokespecial idx := by
  cases i <;> first | (cases h; done) | (cases h2; rfl) | (exact absurd h (by simp [csort]))
theorem cs5 {i : Instr} {idx : Nat} (h : csort i 5) (h2 : cixOf i = some idx) : i = .invokestatic idx := by
  cases i <;> first | (cases h; done) | (cases h2; rfl) | (exact absurd h (by simp [csort]))
set_option maxRecDepth 100000 in
theorem room_l {f ml L : Nat} (h : ml ≤ 20) (h2 : 40 * f + 79 ≤ L) : 8 + (ml + 11) + (40 * f + 40) ≤ L := by
  generalize 40 * f = z at *
  omega
/-- a call of a method whose calls are sound -/
theorem call_sound {d : Nat} {o idx k mid : Nat} {i : Instr} {M' : MI} {As st' st2 st : List Value} {r : Out} {T1 : TS} (hC : CSound l d) (hx : p.tables.exec = Jvm.exec) (hb : c.code = cc) (hml : c.maxLocals = ls.size) (hown : s.vm.findClass (RN o) = some m.cls) (hts : ∀ w ∈ gw, w.before args s = true) (hG : GS G s) (hR : Rel G T H) (hS : va_S (own G) s.heap H locs) (hi : cixOf i = some idx) (hc : callOf o idx = some (k, mid)) (hs : csort i k) (hk : k ≤ 3) (hM : mth mid = some M') (hp : popN M'.2.2.2.2.2.2 st = some (As, st')) (hv : if M'.2.2.2.2.2.1 then st2 = st' else ∃ a, st' = .ref a :: st2 ∧ (k = 3 ∨ tK T a = M'.2.2.2.2.1 + 1 ∨ (tK T a = 23 ∧ M'.2.2.2.2.1 = 0))) (h4 : st2.length ≤ 4) (hcall : Call d mid (if M'.2.2.2.2.2.1 then As else st'.take 1 ++ As) T r T1) (hd : decode cc pc = .ok (i, 3)) (hRf : frT mid + 1 ≤ R.frames) (hRl : 40 * frT mid + 79 ≤ R.locals) (hc1 : cells + (tn T1 - tn T) ≤ R.cells) (hc2 : slots + (tu T1 - tu T) ≤ R.slots)
    (kk : ∀ v H1 locs1, r = .inl v → Rel G T1 H1 → va_S (own G) s.heap H1 locs1 → W p l e R s m args below meth c H1 locs1 (cells + (tn T1 - tn T)) (slots + (tu T1 - tu T)) Q (F0 m (pc + 3) ls (v.toList ++ st2)))
    (kx : ∀ x H1 locs1 q ce, r = .inr x → Rel G T1 H1 → va_S (own G) s.heap H1 locs1 → H1[q]? = some ce → ce.vm = .none → s.vm.findClass (xN x) = some ce.cls → vx_W p l e R s m args below meth c H1 locs1 (cells + (tn T1 - tn T)) (slots + (tu T1 - tu T)) Q (F0 m pc ls st2) q) : W p l e R s m args below meth c H locs cells slots Q (F0 m pc ls st) := by
  have hMet := hC mid M' _ T r T1 G hM hcall
  obtain ⟨pp, hm1, hm2, hm3, hm4⟩ := m_ok hM
  obtain ⟨pcode, hcode⟩ := m_code hM
  have hcodeW : (.code M'.1 M'.2.1 M'.2.2.1 M'.2.2.2.1) ∈ gw := gw_of hcode rfl
  have hiniW : (.initialized M'.1.cls) ∈ gw := gw_of hm1 rfl
  have hargs := m_args hM
  obtain ⟨hl20, hplain, hnh⟩ := m_ml hM
  have hws : ∀ w ∈ (.code M'.1 M'.2.1 M'.2.2.1 M'.2.2.2.1 :: gw), ∀ (a' : Array Value) (U : State), s.WarmedH U.vm → w.before a' U = true := by
    intro w hw a' U hW
    rcases List.mem_cons.mp hw with rfl | hw
    · exact word_at hW (gw_good hcodeW) (hts _ hcodeW)
    · exact word_at hW (gw_good hw) (hts _ hw)
  have hlen : ∀ sig, parseMethodDescriptor M'.1.desc = some sig → M'.2.2.2.2.2.2 = sig.parameters.length := by
    intro sig h
    rw [h] at hargs
    exact (Option.some.inj hargs).symm
  obtain ⟨hAl, hst⟩ := popN_eq hp
  have hW8 : 2 * 0 + (st2.map fun v => v.category).sum ≤ 8 := by have := cat_le st2; omega
  obtain ⟨ent, hent, hek⟩ : ∃ ent ∈ callT, ent.1 = (o, idx) ∧ ent.2.1 = k ∧ ent.2.2.1 = mid := by
    unfold callOf at hc
    cases hz : callT.lookup (o, idx) with
    | none => rw [hz] at hc; cases hc
    | some x =>
      rw [hz] at hc
      simp at hc
      exact ⟨_, lookup_mem hz, rfl, hc.1, hc.2⟩
  obtain ⟨⟨eo, ei⟩, ek, em, ep⟩ := ent
  obtain ⟨q1, q2, q3⟩ := hek
  cases q1
  have q2 : ek = k := q2
  have q3 : em = mid := q3
  subst q2
  subst q3
  obtain ⟨hw1, hw2⟩ := call_all _ hent
  have hchk := call_chk _ hent
  unfold callB at hchk
  rw [show mth ((o, idx), ek, em, ep).2.2.1 = some M' from hM] at hchk
  have hmY : mY em = M'.1 := by unfold mY; rw [hM]; rfl
  have hfix : CallFix p m c cc ls.size s args gw (RN o) := ⟨hx, hb, hml, hown, hts⟩
  have hCB : ∀ {rt : Option FieldType}, M'.2.2.2.1 = rt → (Jvm.Cond.methodLink (RN o) idx M'.1).before args s = true → CallB R s args (RN o) idx M'.1 M'.2.1 M'.2.2.1 rt (.code M'.1 M'.2.1 M'.2.2.1 M'.2.2.2.1 :: gw) (rmS em (tn T1 - tn T) (tu T1 - tu T)) (tn T1 - tn T) (tu T1 - tu T) M'.2.2.2.2.2.2 := by
    intro rt hrt hlk
    subst hrt
    refine ⟨rfl, rfl, ?_, ?_, hws, List.mem_cons_self, hts _ hcodeW, hts _ hiniW, hnh, hlen, hlk⟩
    · exact hRf
    · exact room_l hl20 hRl
  match ek, hk with
  | 0, _ =>
    simp only [Bool.and_eq_true, Bool.not_eq_true', decide_eq_true_eq] at hchk
    obtain ⟨hstat, hnin⟩ := hchk
    rw [hstat] at hv hcall hm2 hMet
    simp only [Bool.false_eq_true, if_false] at hv hcall hm2 hMet
    obtain ⟨a, rfl, hrec⟩ := hv
    have ho := m_st hM hstat
    have hlink : (Jvm.Cond.methodLink (RN o) idx M'.1).before args s = true := by
      have h9 := hts _ (gw_of hw1 (hw2 (fun z => by cases z)))
      unfold callW at h9
      simpa [hmY] using h9
    have hsel := hm3 hstat hnin
    have hcell : ∃ cellB : Cell, H[a]? = some cellB ∧ cellB.vm.isStatics = false ∧ s.vm.findClass M'.1.cls = some cellB.cls := by
      obtain ⟨-, -, -, hk9, g, hl9, hbk9, hP9⟩ := hR
      rcases hrec with h3 | h3 | ⟨h3, h5⟩
      · cases h3
      · rw [hm4]
        exact va_recv hG.1 (at_one (hP9 a _ (cel_obj h3 ho))) (kcl_at ho) (q0 := 0) rfl
      · rw [hm4, h5]
        refine va_recv hG.1 (at_one (hP9 a (.inr (0, [.int (g.2.1 a), va_rf (g.1 a), .int (nI (tL T a).length)])) ?_)) (kcl_at (by omega)) (q0 := 0) rfl
        unfold cel
        rw [h3]
        rfl
    have hi9 := cs0 hs hi
    subst hi9
    refine m_call (vx_runV (C := M'.1.cls) (b := a) (As := As) (rest := st2) hfix hMet ⟨hCB rfl hlink, hts _ (gw_of hm2 rfl), hts _ (gw_of hsel rfl)⟩ ⟨PcG_blind, hcell, fun U hU hW => ⟨rfl, by rw [hU]; exact hR, GS.warm hW hG⟩⟩ rfl hAl rfl hst hW8 hd ⟨hc1, hc2⟩) hS kk kx
  | 1, _ =>
    have hstat : M'.2.2.2.2.2.1 = true := hchk
    rw [hstat] at hv hcall hm2 hMet
    simp only [if_true] at hv hcall hm2 hMet
    subst hv
    have hlink : (Jvm.Cond.methodLink (RN o) idx M'.1).before args s = true := by
      have h9 := hts _ (gw_of hw1 (hw2 (fun z => by cases z)))
      unfold callW at h9
      simpa [hmY] using h9
    have hi9 := cs1 hs hi
    subst hi9
    refine m_call (vx_runS (As := As) (rest := st2) hfix hMet ⟨hCB rfl hlink, hts _ (gw_of hm2 rfl)⟩ ⟨PcG_blind, fun U hU hW => ⟨rfl, by rw [hU]; exact hR, GS.warm hW hG⟩⟩ rfl hAl rfl hst hW8 hd ⟨hc1, hc2⟩) hS kk kx
  | 2, _ =>
    have hstat : M'.2.2.2.2.2.1 = true := hchk
    rw [hstat] at hv hcall hm2 hMet
    simp only [if_true] at hv hcall hm2 hMet
    subst hv
    have hlink : va_Nw (.methodLinkNest (RN o) idx M'.1 "DedupVault") s := by
      have h9 := nest_in _ hent rfl
      unfold callW at h9
      rw [show mY (((o, idx), 2, em, ep) : (Nat × Nat) × Nat × Nat × Nat).2.2.1 = M'.1 from hmY] at h9
      exact hG.2.1 _ h9
    have hi9 := cs2 hs hi
    subst hi9
    refine m_call (vx_runSN (host := "DedupVault") (As := As) (rest := st2) hfix hMet ⟨⟨⟨rfl, rfl, hRf, room_l hl20 hRl, hws, List.mem_cons_self⟩, hts _ hcodeW, hts _ hiniW, hnh, hlen, va_Nw.use rfl hlink⟩, hts _ (gw_of hm2 rfl), trivial⟩ ⟨PcG_blind, fun U hU hW => ⟨rfl, by rw [hU]; exact hR, GS.warm hW hG⟩⟩ rfl hAl rfl hst hW8 hd ⟨hc1, hc2⟩) hS kk kx
  | 3, _ =>
    simp only [Bool.and_eq_true, Bool.not_eq_true', decide_eq_true_eq] at hchk
    obtain ⟨⟨hstat, hnin⟩, hret⟩ := hchk
    rw [hstat] at hv hcall hm2 hMet
    simp only [Bool.false_eq_true, if_false] at hv hcall hm2 hMet
    obtain ⟨a, rfl, -⟩ := hv
    have hret : M'.2.2.2.1 = none := Option.isNone_iff_eq_none.mp hret
    have hlink : (Jvm.Cond.methodLink (RN o) idx M'.1).before args s = true := by
      have h9 := hts _ (gw_of hw1 (hw2 (fun z => by cases z)))
      unfold callW at h9
      simpa [hmY] using h9
    have hi9 := cs3 hs hi
    subst hi9
    refine m_call (vx_runI (b := a) (As := As) (rest := st2) hfix hMet ⟨hCB hret hlink, hnin, hts _ (gw_of hm2 rfl)⟩ ⟨PcG_blind, fun U hU hW => ⟨rfl, by rw [hU]; exact hR, GS.warm hW hG⟩⟩ rfl hAl rfl hst hW8 hd ⟨hc1, hc2⟩) hS kk kx
end SND
end
section
/-! a run, whole -/
theorem pObjI_ok : lw_tbl[49]? = some (.instanceMethod Lib.objectInit) := by decide +kernel
set_option maxRecDepth 100000 in
theorem pObjC_ok : lw_tbl[50]? = some (.code Lib.objectInit ⟨#[0xb1]⟩ 1 none) := rfl
theorem pMinS_ok : lw_tbl[168]? = some (.static Lib.Math.min.name) := by decide +kernel
theorem pMinI_ok : lw_tbl[26]? = some (.initialized "java/lang/Math") := by decide +kernel
set_option maxRecDepth 100000 in
theorem pMinC_ok : lw_tbl[169]? = some (.code Lib.Math.min.name Lib.Math.min.code 2 (some .int)) := rfl
theorem call_ent {o idx k mid : Nat} (hc : callOf o idx = some (k, mid)) : ∃ ep, ((o, idx), k, mid, ep) ∈ callT := by
  unfold callOf at hc
  cases hz : callT.lookup (o, idx) with
  | none => rw [hz] at hc; cases hc
  | some x =>
    rw [hz] at hc
    simp at hc
    obtain ⟨h1, h2⟩ := hc
    refine ⟨x.2.2, ?_⟩
    rw [← h1, ← h2]
    exact lookup_mem hz
theorem obj_link {o idx mid : Nat} (hc : callOf o idx = some (4, mid)) : .methodLink (RN o) idx Lib.objectInit ∈ gw := by
  obtain ⟨ep, he⟩ := call_ent hc
  obtain ⟨h1, h2⟩ := call_all _ he
  exact gw_of h1 (h2 (fun z => by cases z))
theorem min_link {o idx mid : Nat} (hc : callOf o idx = some (5, mid)) : .methodLink (RN o) idx Lib.Math.min.name ∈ gw := by
  obtain ⟨ep, he⟩ := call_ent hc
  obtain ⟨h1, h2⟩ := call_all _ he
  exact gw_of h1 (h2 (fun z => by cases z))
section RUN
variable {p : Program} {l : Launch} {e : Env} {R : Room} {s : State} {m : MethodId} {args : Array Value} {below : List Frame} {meth : Method} {c : Code} {Q : State → Prop} {cc : ByteArray} {G : GP}
/-- calls out of a method of class o are what the machine does -/
def CallOK (p : Program) (l : Launch) (e : Env) (R : Room) (s : State) (m : MethodId) (args : Array Value) (below : List Frame) (meth : Method) (c : Code) (Q : State → Prop) (cc : ByteArray) (G : GP) (o d : Nat) : Prop :=
  ∀ (idx k mid : Nat) (i : Instr) (M' : MI) (As st' st2 st : List Value) (r : Out) (T T1 : TS) (H : Heap) (locs : List Loc) (cells slots pc : Nat) (ls : Array Slot), c.maxLocals = ls.size → Rel G T H → va_S (own G) s.heap H locs → cixOf i = some idx → callOf o idx = some (k, mid) → csort i k → k ≤ 3 → mth mid = some M' → popN M'.2.2.2.2.2.2 st = some (As, st') → (if M'.2.2.2.2.2.1 then st2 = st' else ∃ a, st' = .ref a :: st2 ∧ (k = 3 ∨ tK T a = M'.2.2.2.2.1 + 1 ∨ (tK T a = 23 ∧ M'.2.2.2.2.1 = 0))) → st2.length ≤ 4 → Call d mid (if M'.2.2.2.2.2.1 then As else st'.take 1 ++ As) T r T1 → decode cc pc = .ok (i, 3) → cells + (tn T1 - tn T) ≤ R.cells → slots + (tu T1 - tu T) ≤ R.slots →
    (∀ v H1 locs1, r = .inl v → Rel G T1 H1 → va_S (own G) s.heap H1 locs1 → W p l e R s m args below meth c H1 locs1 (cells + (tn T1 - tn T)) (slots + (tu T1 - tu T)) Q (F0 m (pc + 3) ls (v.toList ++ st2))) →
    (∀ x H1 locs1 q ce, r = .inr x → Rel G T1 H1 → va_S (own G) s.heap H1 locs1 → H1[q]? = some ce → ce.vm = .none → s.vm.findClass (xN x) = some ce.cls → vx_W p l e R s m args below meth c H1 locs1 (cells + (tn T1 - tn T)) (slots + (tu T1 - tu T)) Q (F0 m pc ls st2) q) →
    W p l e R s m args below meth c H locs cells slots Q (F0 m pc ls st)
theorem lv_tail {ls : Array Slot} {nL : Nat} {q : Nat × Value} {l : Loc0} (h : lv_has ls nL (q :: l)) : lv_has ls nL l := ⟨h.1, h.2.1, fun x hx => h.2.2 x (List.mem_cons_of_mem _ hx)⟩
theorem run_sound {d n0 u0 : Nat} {M : MI} {hs : Hn} {out : Out} {T' : TS} (hx : p.tables.exec = Jvm.exec) (hb : c.code = M.2.1) (hml : c.maxLocals = M.2.2.1) (hown : s.vm.findClass (RN M.2.2.2.2.1) = some m.cls) (hts : ∀ w ∈ gw, w.before args s = true) (hini : (M.1.name == "<init>") = true → meth.name = "<init>") (hG : GS G s) (hs0 : ∀ q, q < (gH G).size → s.heap[q]? = (gH G)[q]?) (hs1 : (gH G).size ≤ s.heap.size) (hRf : 1 ≤ R.frames) (hRl : 40 ≤ R.locals) (hc1 : tn T' - n0 ≤ R.cells) (hc2 : tu T' - u0 ≤ R.slots)
    (hcal : CallOK p l e R s m args below meth c Q M.2.1 G M.2.2.2.2.1 d)
    (hret : ∀ i v pc1 st1 H1 locs1 ls1, decode M.2.1 pc1 = .ok (i, ilen i) → endF M.2.2.2.1 i st1 = some v → out = .inl v → Rel G T' H1 → va_S (own G) s.heap H1 locs1 → W p l e R s m args below meth c H1 locs1 (tn T' - n0) (tu T' - u0) Q (F0 m pc1 ls1 st1))
    (hpx : ∀ x pc1 st1 H1 locs1 ls1 q ce, out = .inr x → hnd hs pc1 x = none → Rel G T' H1 → va_S (own G) s.heap H1 locs1 → H1[q]? = some ce → ce.vm = .none → s.vm.findClass (xN x) = some ce.cls → vx_W p l e R s m args below meth c H1 locs1 (tn T' - n0) (tu T' - u0) Q (F0 m pc1 ls1 st1) q)
    (hthrow : ∀ x idx pc1 st1 T1 H1 locs1 ls1, out = .inr x → T' = nX T1 → n0 ≤ tn T1 → u0 ≤ tu T1 → Rel G T1 H1 → va_S (own G) s.heap H1 locs1 → ls1.size = M.2.2.1 → M.2.2.2.2.1 = 7 → clOf M.2.2.2.2.1 idx = some x → 100 ≤ x → x ≤ 102 → st1.length ≤ 4 → decode M.2.1 pc1 = .ok (.new idx, 3) → decode M.2.1 (pc1 + 3) = .ok (.dup, 1) → decode M.2.1 (pc1 + 4) = .ok (.invokespecial (if x = 100 then 46 else if x = 101 then 53 else 73), 3) → decode M.2.1 (pc1 + 7) = .ok (.athrow, 1) → hs = [] → W p l e R s m args below meth c H1 locs1 (tn T1 - n0) (tu T1 - u0) Q (F0 m pc1 ls1 st1))
    (hhan : ∀ x h pc1 st1 H1 locs1 cells1 slots1 ls1 q ce, hnd hs pc1 x = some h → H1[q]? = some ce → ce.vm = .none → s.vm.findClass (xN x) = some ce.cls → W p l e R s m args below meth c H1 locs1 cells1 slots1 Q (F0 m h ls1 [.ref q]) → vx_W p l e R s m args below meth c H1 locs1 cells1 slots1 Q (F0 m pc1 ls1 st1) q) :
    ∀ (n pc : Nat) (lv : Loc0) (st : List Value) (T : TS) (H : Heap) (locs : List Loc) (ls : Array Slot), run (Call d) M hs n pc lv st T out T' → Rel G T H → va_S (own G) s.heap H locs → lv_has ls M.2.2.1 lv → n0 ≤ tn T → u0 ≤ tu T → W p l e R s m args below meth c H locs (tn T - n0) (tu T - u0) Q (F0 m pc ls st) := by
  intro n
  induction n with
  | zero => intro pc lv st T H locs ls h; cases h
  | succ n ih =>
    intro pc lv st T H locs ls h hR hS hl hn hu
    have hmo := run_mono (Call_mono d) _ _ _ _ _ _ _ h
    obtain ⟨i, len, hd, hlen, h⟩ := h
    split at h
    · rename_i hcl
      obtain ⟨v, h1, h2, rfl⟩ := h
      have hl2 : len = ilen i := by cases i <;> first | exact hlen | (cases hcl; done)
      subst hl2
      exact hret i v pc st H locs ls hd h1 h2 hR hS
    · rename_i hcl
      obtain ⟨idx, k, mid, hi, hc, hs9, hk5, h⟩ := h
      have hl3 : len = 3 := by cases i <;> first | exact hlen | (cases hcl; done)
      subst hl3
      split at h
      · obtain ⟨a, st', rfl, h4, h⟩ := h
        have hi9 := cs4 hs9 hi
        subst hi9
        have hlink := obj_link hc
        refine W.objInit hx hb hown (hts _ hlink) (hts _ (gw_of pObjI_ok rfl)) (hts _ (gw_of pObjC_ok rfl)) rfl (by rw [hml]; exact hl.1) rfl hd hRf (by have := cat_le st'; show 2 * 0 + _ + 12 ≤ _; omega) ?_
        exact ih (pc + 3) lv st' T H locs ls h hR hS hl hn hu
      · obtain ⟨x, y, st', rfl, h4, h⟩ := h
        have hi9 := cs5 hs9 hi
        subst hi9
        have hlink := min_link hc
        refine va_mmin hx hb (by rw [hml]; exact hl.1.symm) hown (hts _ hlink) (hts _ (gw_of pMinS_ok rfl)) (hts _ (gw_of pMinI_ok rfl)) (hts _ (gw_of pMinC_ok rfl)) hRf (by have := cat_le st'; omega) (by omega) (by omega) hd ?_
        exact ih (pc + 3) lv _ T H locs ls h hR hS hl hn hu
      · have hk4 : k ≠ 4 := by assumption
        have hk9 : k ≠ 5 := by assumption
        have hk3 : k ≤ 3 := by omega
        obtain ⟨M', As, st', st2, r, T1, hM, hp, hv, h4, hcall, h⟩ := h
        have hm1 := Call_mono d _ _ _ _ _ hcall
        have e1 : tn T - n0 + (tn T1 - tn T) = tn T1 - n0 := by omega
        have e2 : tu T - u0 + (tu T1 - tu T) = tu T1 - u0 := by omega
        cases r with
        | inl v =>
          have hm2 := run_mono (Call_mono d) _ _ _ _ _ _ _ h
          refine hcal idx k mid i M' As st' st2 st _ T T1 H locs _ _ pc ls (by rw [hml]; exact hl.1.symm) hR hS hi hc hs9 hk3 hM hp hv h4 hcall hd (by omega) (by omega) (fun v9 H1 locs1 q1 q2 q3 => ?_) (fun x H1 locs1 q ce q1 => by cases q1)
          cases q1
          rw [e1, e2]
          exact ih (pc + 3) lv _ T1 H1 locs1 ls h q2 q3 hl (by omega) (by omega)
        | inr x =>
          simp only at h
          have hm2 : tn T1 ≤ tn T' ∧ tu T1 ≤ tu T' := by
            split at h
            · obtain ⟨-, rfl⟩ := h
              exact ⟨Nat.le_refl _, Nat.le_refl _⟩
            · obtain ⟨k9, -, ⟨-, h⟩ | ⟨-, h⟩⟩ := h
              · exact run_mono (Call_mono d) _ _ _ _ _ _ _ h
              · exact run_mono (Call_mono d) _ _ _ _ _ _ _ h
          refine hcal idx k mid i M' As st' st2 st _ T T1 H locs _ _ pc ls (by rw [hml]; exact hl.1.symm) hR hS hi hc hs9 hk3 hM hp hv h4 hcall hd (by omega) (by omega) (fun v9 H1 locs1 q1 => by cases q1) (fun x9 H1 locs1 q ce q1 q2 q3 q4 q5 q6 => ?_)
          cases q1
          rw [e1, e2]
          split at h
          · rename_i hh
            obtain ⟨h1, rfl⟩ := h
            exact hpx x pc st2 H1 locs1 ls q ce h1 hh q2 q3 q4 q5 q6
          · rename_i hh9 hh
            refine hhan x hh9 pc st2 H1 locs1 _ _ ls q ce hh q4 q5 q6 ?_
            obtain ⟨k9, hk9, ⟨⟨qf, rfl, hdh⟩, h⟩ | ⟨hdh, h⟩⟩ := h
            · refine lv_astore_n hx hb hdh rfl hl hk9 rfl (fun ls' hl' => ?_)
              rw [ldel_eq] at hl'
              exact ih _ _ _ T1 H1 locs1 ls' h q2 q3 (lv_tail hl') (by omega) (by omega)
            · refine lv_astore hx hb hdh hl hk9 rfl (fun ls' hl' => ?_)
              rw [ldel_eq] at hl'
              exact ih _ _ _ T1 H1 locs1 ls' h q2 q3 (lv_tail hl') (by omega) (by omega)
    · obtain ⟨idx, ci, rfl, hc, h⟩ := h
      have hl3 : len = 3 := hlen
      subst hl3
      rcases h with ⟨hc8, h⟩ | ⟨h1, h2, h3, h4, h5, h6, h7, h8, h9, rfl⟩
      · have hm2 := run_mono (Call_mono d) _ _ _ _ _ _ _ h
        have hn1 : tn (nO ci T) = tn T + 1 := rfl
        have hu1 : tu (nO ci T) = tu T + NN ci := rfl
        have e1 : tn T - n0 + (tn (nO ci T) - tn T) = tn (nO ci T) - n0 := by omega
        have e2 : tu T - u0 + (tu (nO ci T) - tu T) = tu (nO ci T) - u0 := by omega
        refine hp_sound (o := M.2.2.2.2.1) (ini := false) (i := .new idx) (T' := nO ci T) (st' := .ref (tn T) :: st) hx hb hown hts (fun z => by cases z) hG hs0 hs1 hR hS ?_ hd (by omega) (by omega) (fun H' locs' r1 r2 => ?_)
        · show (clOf M.2.2.2.2.1 idx).bind _ = _
          rw [hc]
          simp [hc8]
        · rw [e1, e2]
          exact ih _ _ _ _ _ _ ls h r1 r2 hl (by omega) (by omega)
      · exact hthrow ci idx pc st T H locs ls h9 rfl hn hu hR hS hl.1 h1 hc h2 h3 h4 hd h5 h6 h7 h8
    · obtain ⟨pc', l', st', T1, h1, h⟩ := h
      have hm1 := step_mono h1
      have hm2 := run_mono (Call_mono d) _ _ _ _ _ _ _ h
      have e1 : tn T - n0 + (tn T1 - tn T) = tn T1 - n0 := by omega
      have e2 : tu T - u0 + (tu T1 - tu T) = tu T1 - u0 := by omega
      refine step_sound hx hb hown hts hini hG hs0 hs1 hR hS hl h1 hlen hd (by omega) (by omega) (fun H' locs' ls' r1 r2 r3 => ?_)
      rw [e1, e2]
      exact ih _ _ _ _ _ _ ls' h r1 r2 r3 (by omega) (by omega)
end RUN
end
section
/-! methods as contracts: calls d deep, by d -/
section Ends
variable {p : Program} {l : Launch} {e : Env} {R : Room} {s : State} {m : MethodId} {args : Array Value} {below : List Frame} {meth : Method} {c : Code} {H : Heap} {locs : List Loc} {cells slots : Nat} {Q : State → Prop}
variable {mc ms : Nat} {free : Addr → Prop} {A0 A1 : Nat → Prop} {H0 : Heap} {a : Array Value} {ls : Array Slot} {st0 rest : List Value}
variable {Qc : Array Value → State → Outcome → State → Prop} {XC : String → State → State → Prop}
theorem m_throw0 {cc : ByteArray} {pc : Nat} (hexec : p.tables.exec = Jvm.exec) (hb : c.code = cc) (hl : l.stackTraces = false) {own cls : String} {names : List String} {ik ic mc ms : Nat} {A : Nat → Prop}
    (hown : s.vm.findClass own = some m.cls) (hcls : Bundle.fit cls = true) (hnames : ∀ n ∈ names, Bundle.fit n = true)
    (hk : (Cond.classLink own ik cls).before args s = true) (hini : (Cond.initialized cls).before args s = true) (hat : ∀ w ∈ vx_at0 own ic cls names, w.before args s = true)
    (hgood : ∀ w ∈ Cond.classLink own ik cls :: Cond.initialized cls :: vx_at0 own ic cls names, vx_ot w = true)
    (hU : vx_Zq Bundle.tN "UNASSIGNED_STACK" Bundle.steD A s s.heap) (hN : vx_Zq Bundle.tN "SUPPRESSED_SENTINEL" Bundle.listD A s s.heap) (hS : va_S A s.heap H locs) (hsize : ls.size = c.maxLocals)
    (d0 : decode cc pc = .ok (.new ik, 3)) (d3 : decode cc (pc + 3) = .ok (.dup, 1)) (d4 : decode cc (pc + 4) = .ok (.invokespecial ic, 3)) (d7 : decode cc (pc + 7) = .ok (.athrow, 1))
    (hout : ∀ x ∈ c.exceptionTable.toList, covers x (pc + 7) = false)
    (hRframes : names.length + 3 < R.frames) (hRlocals : (rest.map fun v => v.category).sum + (13 * (names.length + 1) + 42) ≤ R.locals) (hRcells : cells + 1 ≤ R.cells) (hRslots : slots + 6 ≤ R.slots) (hlocks : meth.locks = false)
    (hx : ∀ t : State, s.vm.Alike t.vm → t.heap.size = H.size + 1 → (∀ q : Nat, q < H.size → t.heap[q]? = H[q]?) → XC cls s t)
    (hf : ∀ z ∈ locs, free z.base) (hc : cells + 1 ≤ mc) (hs : slots + 6 ≤ ms) :
    W p l e R s m args below meth c H locs cells slots (vx_MQ below Qc XC args s mc ms free) (F0 m pc ls rest) := by
  intro T hT X
  have htr : e.platform.stackTraces = false := (show e.platform.stackTraces = l.stackTraces by rw [X.admits.platform]).trans hl
  have Y := vx_rebase X (R' := { frames := R.frames, locals := R.locals, cells := 1, slots := 6 }) (Nat.le_refl _) (Nat.le_refl _) hRcells hRslots
  obtain ⟨s', hA⟩ : ∃ z, z = (T.setVm s.vm).setFrames (.invoking m args :: below) := ⟨_, rfl⟩
  rw [← hA] at Y
  have hvm : s'.vm = s.vm := by rw [hA]; rfl
  have hhp : s'.heap = H := by rw [hA]; exact hT
  have hW0 : s.WarmedH s'.vm := by rw [hvm]; exact State.WarmedH.refl s
  have hat' : ∀ w ∈ vx_at0 own ic cls names, w.before args s' = true := fun w hw => vx_ot_at hW0 hvm.symm (hgood w (List.mem_cons_of_mem _ (List.mem_cons_of_mem _ hw))) (hat w hw)
  have hk' : (Cond.classLink own ik cls).before args s' = true := vx_ot_at hW0 hvm.symm (hgood _ List.mem_cons_self) hk
  have hini' : (Cond.initialized cls).before args s' = true := vx_ot_at hW0 hvm.symm (hgood _ (List.mem_cons_of_mem _ List.mem_cons_self)) hini
  have hU' : vx_Zq Bundle.tN "UNASSIGNED_STACK" Bundle.steD A s' s'.heap := by rw [hhp]; exact vx_Zq.moved hW0.alike (hU.kept hS.2.1)
  have hN' : vx_Zq Bundle.tN "SUPPRESSED_SENTINEL" Bundle.listD A s' s'.heap := by rw [hhp]; exact vx_Zq.moved hW0.alike (hN.kept hS.2.1)
  have h : ∀ w ∈ Bundle.ownAtoms0 own ic cls names, w.before args s' = true := vx_own hat' (vx_isRefq hU'.1) (vx_isRefq hN'.1) hU'.2.word hN'.2.word
  have hown' : s'.vm.findClass own = some m.cls := by rw [hvm]; exact hown
  have hins : (Cond.instantiable cls 6).before args s' = true := h _ (by simp [Bundle.ownAtoms0])
  obtain ⟨vm₁, cX, kX, hfX, hkX, -, -, X₁, st1⟩ := Y.newCold hexec (own := own) (C := cls) (index := ik) (n := 6) hown' hk' hins hini'
    (g := F0 m pc ls rest) rfl (by rw [hb]; exact d0) (Nat.le_refl _) (Nat.le_refl _)
  generalize hT1 : (T.setVm vm₁).pushCell { cls := cX, slots := kX.instanceTypes.map defaultValue, vm := .none } = T1 at X₁ st1
  have hcat : (Value.ref T.heap.size).category = 1 := rfl
  have hcellA : T1.heap[T.heap.size]? = some (freshCell cX kX) := by rw [← hT1]; exact State.heap_pushCell_size _ _
  have d3' : decode c.code (pc + 3) = .ok (.dup, 1) := by rw [hb]; exact d3
  obtain ⟨U, hsteps, hrun, hend, hW, hsame, ce, hce, hO⟩ := X₁.ctorThrow0 hexec htr (own := own) (cls := cls) (names := names) (ic := ic) hown' hcls hnames h (fun x hx => nomatch hx) hfX hkX hcellA (by rw [hhp, hT]; exact Nat.le_refl _)
    (g := { method := m, pc := pc + 4, locals := ls, stack := .ref T.heap.size :: .ref T.heap.size :: rest, locked := none }) rfl hsize rfl rfl (rest := rest) rfl
    (by rw [hb]; exact d4) (by rw [hb]; exact d7) hout hRframes (by simp only [List.map_cons, List.sum_cons, hcat]; omega) hlocks
  obtain ⟨f1, f2⟩ := vx_frame hsame
  rw [hhp] at f1 f2
  have hWs : s.WarmedH U.vm := State.WarmedH.trans hW0 hW
  have hsz : U.heap.size = H.size + 1 := by
    have u1 : T.heap.size < U.heap.size := (Array.getElem?_eq_some_iff.mp hce).1
    have u2 : U.heap.size ≤ s'.heap.size + (0 + 1) := hsame.2.2.1
    rw [hhp] at u2
    rw [hT] at u1
    omega
  have hcl : s.vm.findClass cls = some ce.cls := by
    have h9 := hO.cls
    rw [hvm] at h9
    exact h9
  have hall : s.sameButNew ({ U with vm := s.vm } : State) locs mc ms := by
    subst hA
    obtain ⟨e1, e2⟩ := hsame
    rw [State.setFrames_setFrames] at e1
    have h2 : (T.setVm s.vm).sameButNew ({ U with vm := s.vm } : State) [] (0 + 1) (0 + 6) := ⟨e1, e2⟩
    have h3 := X.same.trans h2
    rw [List.append_nil] at h3
    exact h3.mono hc hs
  refine ⟨U, ?_, .threw T.heap.size, hrun, hend, Or.inr ⟨T.heap.size, rfl, cls, ce, locs, hx U hWs.alike hsz (fun q hq => f2 q hq (fun z hz => nomatch hz)), hce, hO.vm, hcl, hWs, hall, hf⟩⟩
  refine st1 _ ?_
  show Steps p.tables e below (T1.setTop { method := m, pc := pc + 3, locals := ls, stack := .ref T.heap.size :: rest, locked := none }) _
  jvm_step X₁.here [X₁.here.top, hexec, d3', Value.category]
  exact hsteps
end Ends
def xNs : List String := ["java/lang/RuntimeException", "java/lang/Exception"]
def xIc (x : Nat) : Nat := if x = 100 then 46 else if x = 101 then 53 else 73
set_option maxRecDepth 100000 in
theorem x_good : ∀ x, x < 103 → 100 ≤ x → (∀ w ∈ (vx_at0 (RN 7) (xIc x) (xN x) xNs).filter goodWord, w ∈ lw_tbl) ∧ (∀ w ∈ (vx_at0 (RN 7) (xIc x) (xN x) xNs).filter (fun w => !goodWord w), w ∈ NWl) ∧ (∀ w ∈ vx_at0 (RN 7) (xIc x) (xN x) xNs, vx_ot w = true) ∧ Bundle.fit (xN x) = true ∧ (∀ n ∈ xNs, Bundle.fit n = true) ∧ (.initialized (xN x) ∈ lw_tbl) := by
  intro x h1 h2
  have h : x = 100 ∨ x = 101 ∨ x = 102 := by omega
  rcases h with rfl | rfl | rfl
  · decide +kernel
  · decide +kernel
  · decide +kernel
set_option maxRecDepth 100000 in
theorem NW_on : ∀ w ∈ NWl, w.onTables = true := by decide +kernel
theorem nw_use {G : GP} {s : State} {args : Array Value} (hG : GS G s) : ∀ w ∈ NWl, w.before args s = true := fun w hw => va_Nw.use (NW_on w hw) (hG.2.1 w hw)
theorem room_81 {f a n : Nat} (hf : 6 ≤ f) (h : a ≤ 2 * n) (h4 : n ≤ 4) : a + (13 * (2 + 1) + 42) ≤ 40 * f + 40 := by omega
/-- an exception made changes nothing that the store tells -/
theorem nX_rel {G : GP} {T : TS} {H H1 : Heap} (hR : Rel G T H) (h1 : H1.size = H.size + 1) (h2 : ∀ q, q < H.size → H1[q]? = H[q]?) : Rel G (nX T) H1 := by
  obtain ⟨z1, z2, z3, hk, g, hl, hbk, hP⟩ := hR
  refine ⟨by rw [h1, z1]; rfl, Nat.le_succ_of_le z2, fun q hq => ?_, fun a ha => ?_, g, hl, fun e o h => ?_, fun a e h => ?_⟩
  · rw [h2 q (by omega)]
    exact z3 q hq
  · rcases hk a ha with ⟨q1, q2, q3⟩ | q
    · exact Or.inl ⟨q1, Nat.lt_succ_of_lt q2, q3⟩
    · exact Or.inr q
  · obtain ⟨q1, q2, q3, q4⟩ := hbk e o h
    exact ⟨q1, Nat.lt_succ_of_lt q2, q3, q4⟩
  · have h9 : cel G g T a = some e := h
    have hlt := (cel_lt hk hbk h9).2
    exact (hP a e h9).kept (h2 a (by omega))
end
section
/-- the list methods do what the store says -/
def LSound (l : Launch) : Prop := ∀ (mid : Nat) (M : MI) (As : List Value) (T : TS) (r : Out) (T1 : TS) (G : GP), mth mid = some M → lst mid As T r T1 → vx_Met l M.1 (.code M.1 M.2.1 M.2.2.1 M.2.2.2.1 :: gw) (rmS mid (tn T1 - tn T) (tu T1 - tu T)) (PcG G T As) (QcG G r T1) (XcG G r T1) (tn T1 - tn T) (tu T1 - tu T) (own G)
theorem lwH_nil (mid : Nat) : lwH mid = [] := rfl
theorem call_ok {p : Program} {l : Launch} {e : Env} {R : Room} {s : State} {m : MethodId} {args : Array Value} {below : List Frame} {meth : Method} {c : Code} {Q : State → Prop} {cc : ByteArray} {G : GP} {o d : Nat} (hC : CSound l d) (hx : p.tables.exec = Jvm.exec) (hb : c.code = cc) (hown : s.vm.findClass (RN o) = some m.cls) (hts : ∀ w ∈ gw, w.before args s = true) (hG : GS G s) (hF : ∀ (pc idx k mid : Nat) (i : Instr), decode cc pc = .ok (i, 3) → cixOf i = some idx → callOf o idx = some (k, mid) → k ≤ 3 → frT mid + 1 ≤ R.frames ∧ 40 * frT mid + 79 ≤ R.locals) : CallOK p l e R s m args below meth c Q cc G o d := by
  intro idx k mid i M' As st' st2 st r T T1 H locs cells slots pc ls hml hR hS hi hc hs hk hM hp hv h4 hcall hd hc1 hc2 kk kx
  obtain ⟨f1, f2⟩ := hF pc idx k mid i hd hi hc hk
  exact call_sound hC hx hb hml hown hts hG hR hS hi hc hs hk hM hp hv h4 hcall hd f1 f2 hc1 hc2 kk kx
theorem end_sound {p : Program} {l : Launch} {e : Env} {R : Room} {s : State} {m : MethodId} {args : Array Value} {below : List Frame} {meth : Method} {c : Code} {H : Heap} {locs : List Loc} {cells slots : Nat} {Qc : Array Value → State → Outcome → State → Prop} {free : Addr → Prop} {cc : ByteArray} {pc : Nat} {ls : Array Slot} {rt : Option FieldType} {i : Instr} {st : List Value} {v : Option Value} (hx : p.tables.exec = Jvm.exec) (hb : c.code = cc) (hr : meth.sig.returnType = rt) (hlocks : meth.locks = false) (h : endF rt i st = some v) (hd : decode cc pc = .ok (i, ilen i)) (hq : ∀ t : State, t.heap = H → s.WarmedH t.vm → Qc args s (.returned v) t) (hf : ∀ q ∈ locs, free q.base) : W p l e R s m args below meth c H locs cells slots (MQ below Qc args s cells slots free) (F0 m pc ls st) := by
  unfold endF at h
  split at h
  · split at h
    · split at h
      · rename_i hrt
        cases h
        rcases hrt with rfl | ⟨rfl, hz⟩
        · exact W.iret hx hb hr hq hf hd hlocks
        · refine W.zret hx hb hr ?_ hq hf hd hlocks
          rcases hz with rfl | rfl <;> rfl
      · cases h
    · cases h
  · split at h
    · split at h
      · rename_i hrt
        cases h
        obtain ⟨rt', rfl, hk⟩ : ∃ rt', rt = some rt' ∧ ((∃ n, rt' = .object n) ∨ ∃ t, rt' = .array t) := by
          unfold rtRef at hrt
          split at hrt
          · exact ⟨_, rfl, Or.inl ⟨_, rfl⟩⟩
          · exact ⟨_, rfl, Or.inr ⟨_, rfl⟩⟩
          · cases hrt
        exact W.aret hx hb hr hk (Or.inr ⟨_, rfl⟩) hq hf hd hlocks
      · cases h
    · split at h
      · rename_i hrt
        cases h
        obtain ⟨rt', rfl, hk⟩ : ∃ rt', rt = some rt' ∧ ((∃ n, rt' = .object n) ∨ ∃ t, rt' = .array t) := by
          unfold rtRef at hrt
          split at hrt
          · exact ⟨_, rfl, Or.inl ⟨_, rfl⟩⟩
          · exact ⟨_, rfl, Or.inr ⟨_, rfl⟩⟩
          · cases hrt
        exact W.aret hx hb hr hk (Or.inl rfl) hq hf hd hlocks
      · cases h
    · cases h
  · split at h
    · split at h
      · rename_i hrt
        cases h
        exact W.dret hx hb (hr.trans hrt) hq hf hd hlocks
      · cases h
    · cases h
  · split at h
    · split at h
      · rename_i hrt
        cases h
        exact W.vret hx hb (hr.trans hrt) hq hf hd hlocks
      · cases h
    · cases h
  · cases h
theorem Call_sound {l : Launch} (hst : l.stackTraces = false) (hL : LSound l) : ∀ d, CSound l d := by
  intro d
  induction d with
  | zero => intro mid M As T r T1 G hM h; cases h
  | succ d ih =>
    intro mid M As T r T1 G hM h
    rcases h with h | ⟨h12, M9, n, hM9, hlen, h⟩
    · exact hL mid M As T r T1 G hM h
    · cases hM.symm.trans hM9
      rw [lwH_nil] at h
      obtain ⟨-, -, -, -, hcls⟩ := m_ok hM
      obtain ⟨hl20, hplain, hnh⟩ := m_ml hM
      refine vx_ofW hplain rfl ?_
      intro p e s m args below meth c s₁ B hml hnt hv
      obtain ⟨rfl, hR, hG⟩ := hv
      have hx := B.exec
      have hb := B.bytes
      have hr := B.returns
      have hlocks := B.notSynchronized
      have hts0 := atoms_spec (ws := .code M.1 M.2.1 M.2.2.1 M.2.2.2.1 :: gw) B.pre
      have hts : ∀ w ∈ gw, w.before As.toArray s = true := fun w hw => hts0 w (List.mem_cons_of_mem _ hw)
      have hown : s.vm.findClass (RN M.2.2.2.2.1) = some m.cls := by rw [← hcls]; exact findClass_of_methodNamed B.named
      have hname : meth.name = M.1.name := (name_of_methodNamed B.named B.method).1
      have hsz : s.heap.size = tn T := hR.1
      have hl := lv_entry As (n := M.2.2.1) hlen
      rw [lg_entry_eq]
      generalize (lg_sl As ++ List.replicate (M.2.2.1 - (lg_sl As).length) Slot.unset).toArray = ls at hl ⊢
      have hS : va_S (own G) s.heap s.heap [] := va_S.rf
      have K := run_sound (p := p) (l := l) (e := e) (R := (headSpec (.code M.1 M.2.1 M.2.2.1 M.2.2.2.1 :: gw) (rmS mid (tn T1 - tn T) (tu T1 - tu T))).room) (s := s) (m := m) (args := As.toArray) (below := below) (meth := meth) (c := c) (Q := vx_MQ below (QcG G r T1) (XcG G r T1) As.toArray s (tn T1 - tn T) (tu T1 - tu T) (own G)) (G := G) (d := d) (n0 := tn T) (u0 := tu T) (M := M) (hs := []) (out := r) (T' := T1)
        hx hb hml hown hts (fun z => by rw [hname]; exact eq_of_beq z) hG hR.2.2.1 (by rw [hsz]; exact hR.2.1) (frT_1 mid) (by show 40 ≤ 40 * frT mid + 40; omega) (Nat.le_refl _) (Nat.le_refl _)
        (call_ok ih hx hb hown hts hG (fun pc9 idx9 k9 mid9 i9 q1 q2 q3 q4 => by
          have f9 := fr_call h12 hM q1 q2 q3 q4
          exact ⟨f9, by show 40 * frT mid9 + 79 ≤ 40 * frT mid + 40; omega⟩))
        (fun i v pc1 st1 H1 locs1 ls1 q1 q2 q3 q4 q5 => vx_ret (end_sound hx hb hr hlocks q2 q1 (fun t ht hW => ⟨⟨v, q3, rfl⟩, by rw [ht]; exact q4, q5.F ht⟩) q5.2.2))
        (fun x pc1 st1 H1 locs1 ls1 q ce q1 q2 q3 q4 q5 q6 q7 => vx_out (fun z hz => (hnt z hz).elim) hlocks q5 q6 q7 (fun t ht hW => ⟨⟨x, q1, rfl⟩, by rw [ht]; exact q3, q4.F ht⟩) q4.2.2 (Nat.le_refl _) (Nat.le_refl _))
        ?_ (fun x h9 pc1 st1 H1 locs1 cells1 slots1 ls1 q ce q1 => by cases q1) n 0 _ [] T s.heap [] ls h hR hS hl (Nat.le_refl _) (Nat.le_refl _)
      · rw [Nat.sub_self, Nat.sub_self] at K
        exact K
      · intro x idx pc1 st1 T9 H1 locs1 ls1 q1 q2 q3 q4 q5 q6 q7 q8 q9 q10 q11 q12 d0 d3 d4 d7 q13
        subst q2
        have f6 := fr_throw h12 hM d0 q9 q10
        obtain ⟨g1, g2, g3, g4, g5, g6⟩ := x_good x (by omega) q10
        have hlink := hts _ (cl_ok q9)
        have hcn : cN x = xN x := by unfold cN; rw [if_neg (by omega)]
        rw [hcn] at hlink
        have hn9 : tn (nX T9) = tn T9 + 1 := rfl
        have hu9 : tu (nX T9) = tu T9 + 6 := rfl
        rw [q8] at hlink hown
        refine m_throw0 (A := own G) (own := RN 7) (cls := xN x) (names := xNs) (ik := idx) (ic := xIc x) hx hb hst hown g4 g5 hlink (aw hts g6 rfl) (vx_hat (fun w hw => hts w (List.mem_filter.mpr ⟨g1 w hw, (List.mem_filter.mp hw).2⟩)) g2 (nw_use hG)) ?_ (vx_Zq.kept hG.2.2.1 (fun q h1 h2 => hR.2.2.1 q h1)) (vx_Zq.kept hG.2.2.2.1 (fun q h1 h2 => hR.2.2.1 q h1)) q6 (by rw [hml]; exact q7) d0 d3 d4 d7 (fun z hz => (hnt z hz).elim) (by show 2 + 3 < frT mid; omega) (by have := cat_le st1; show _ + (13 * (2 + 1) + 42) ≤ 40 * frT mid + 40; exact room_81 f6 this q12) ?_ ?_ hlocks (fun t ht1 ht2 ht3 => ⟨⟨x, q1, rfl⟩, ?_, ?_⟩) q6.2.2 (by omega) (by omega)
        · intro w hw
          rcases List.mem_cons.mp hw with rfl | hw
          · rfl
          · rcases List.mem_cons.mp hw with rfl | hw
            · rfl
            · exact g3 w hw
        · show tn T9 - tn T + 1 ≤ tn (nX T9) - tn T
          omega
        · show tu T9 - tu T + 6 ≤ tu (nX T9) - tu T
          omega
        · exact nX_rel q5 ht2 ht3
        · exact ⟨by rw [ht2]; exact Nat.le_trans q6.1 (Nat.le_succ _), fun q h1 h2 => (ht3 q (Nat.lt_of_lt_of_le h1 q6.1)).trans (q6.2.1 q h1 h2)⟩
end
section
/-! runs, said by what holds at their end; a row an instruction -/
abbrev Post : Type := Out → TS → Prop
def CallQ (d mid : Nat) (As : List Value) (T : TS) (Q : Post) : Prop := ∃ r T1, Call d mid As T r T1 ∧ Q r T1
def Ev (d : Nat) (M : MI) (hs : Hn) (pc : Nat) (l : Loc0) (st : List Value) (T : TS) (Q : Post) : Prop := ∃ n out T', run (Call d) M hs n pc l st T out T' ∧ Q out T'
/-- a method's body, from its entry -/
theorem callQ_of {d mid : Nat} {As : List Value} {T : TS} {Q : Post} (M : MI) (hM : mth mid = some M) (h12 : 12 < mid) (hl : (lg_sl As).length ≤ M.2.2.1) (h : Ev d M (lwH mid) 0 (lv_args 0 As) [] T Q) : CallQ (d + 1) mid As T Q := by
  obtain ⟨n, out, T', h, hq⟩ := h
  exact ⟨out, T', Or.inr ⟨h12, M, n, hM, hl, h⟩, hq⟩
theorem callQ_lst {d mid : Nat} {As : List Value} {T T' : TS} {r : Out} {Q : Post} (h : lst mid As T r T') (hq : Q r T') : CallQ (d + 1) mid As T Q := ⟨r, T', Or.inl h, hq⟩
theorem CallQ.mono {d mid : Nat} {As : List Value} {T : TS} {Q Q' : Post} (h : CallQ d mid As T Q) (hq : ∀ r T', Q r T' → Q' r T') : CallQ d mid As T Q' := by
  obtain ⟨r, T1, h, h2⟩ := h
  exact ⟨r, T1, h, hq _ _ h2⟩
theorem Ev.mono {d : Nat} {M : MI} {hs : Hn} {pc : Nat} {l : Loc0} {st : List Value} {T : TS} {Q Q' : Post} (h : Ev d M hs pc l st T Q) (hq : ∀ r T', Q r T' → Q' r T') : Ev d M hs pc l st T Q' := by
  obtain ⟨n, r, T1, h, h2⟩ := h
  exact ⟨n, r, T1, h, hq _ _ h2⟩
section EVS
variable {d : Nat} {M : MI} {hs : Hn} {pc pc' : Nat} {l : Loc0} {st : List Value} {T : TS} {Q : Post}
theorem ev_gen {i : Instr} {len : Nat} (hd : decode M.2.1 pc = .ok (i, len)) (hl : lenOk i len) (hi : icls i = 0) : Ev d M hs pc l st T Q ↔ ∃ pc' l' st' T', step M.2.2.2.2.1 M.2.2.1 (M.1.name == "<init>") i pc l st T = some (pc', l', st', T') ∧ Ev d M hs pc' l' st' T' Q := by
  constructor
  · rintro ⟨n, out, T', h, hq⟩
    cases n with
    | zero => cases h
    | succ n =>
      obtain ⟨i9, len9, hd9, -, h⟩ := h
      cases hd.symm.trans hd9
      rw [hi] at h
      obtain ⟨pc', l', st', T1, h1, h2⟩ := h
      exact ⟨pc', l', st', T1, h1, n, out, T', h2, hq⟩
  · rintro ⟨pc', l', st', T1, h1, n, out, T', h2, hq⟩
    refine ⟨n + 1, out, T', ⟨i, len, hd, hl, ?_⟩, hq⟩
    rw [hi]
    exact ⟨pc', l', st', T1, h1, h2⟩
def evO (d : Nat) (M : MI) (hs : Hn) (Q : Post) (o : Option Cfg) : Prop := match o with
  | some c => Ev d M hs c.1 c.2.1 c.2.2.1 c.2.2.2 Q
  | none => False
theorem ev_o {i : Instr} {len : Nat} (hd : decode M.2.1 pc = .ok (i, len)) (hl : lenOk i len) (hi : icls i = 0) : Ev d M hs pc l st T Q ↔ evO d M hs Q (step M.2.2.2.2.1 M.2.2.1 (M.1.name == "<init>") i pc l st T) := by
  rw [ev_gen hd hl hi]
  cases step M.2.2.2.2.1 M.2.2.1 (M.1.name == "<init>") i pc l st T with
  | none => exact ⟨fun ⟨_, _, _, _, h, _⟩ => (by cases h), fun h => h.elim⟩
  | some c => exact ⟨fun ⟨_, _, _, _, h, h2⟩ => by cases h; exact h2, fun h => ⟨_, _, _, _, rfl, h⟩⟩
/-- a step that the store determines -/
theorem ev_one {i : Instr} {len : Nat} {l' : Loc0} {st' : List Value} {T' : TS} (hd : decode M.2.1 pc = .ok (i, len)) (hl : lenOk i len) (hi : icls i = 0) (h : step M.2.2.2.2.1 M.2.2.1 (M.1.name == "<init>") i pc l st T = some (pc', l', st', T')) : Ev d M hs pc l st T Q ↔ Ev d M hs pc' l' st' T' Q := by
  rw [ev_gen hd hl hi, h]
  constructor
  · rintro ⟨a, b, c, e, h1, h2⟩
    cases h1
    exact h2
  · intro h2
    exact ⟨_, _, _, _, rfl, h2⟩
/-- a step that wants a condition -/
theorem ev_if {i : Instr} {len : Nat} {l' : Loc0} {st' : List Value} {T' : TS} {c : Prop} [Decidable c] (hd : decode M.2.1 pc = .ok (i, len)) (hl : lenOk i len) (hi : icls i = 0) (h : step M.2.2.2.2.1 M.2.2.1 (M.1.name == "<init>") i pc l st T = if c then some (pc', l', st', T') else none) : Ev d M hs pc l st T Q ↔ c ∧ Ev d M hs pc' l' st' T' Q := by
  rw [ev_gen hd hl hi, h]
  constructor
  · rintro ⟨a, b, c, e, h1, h2⟩
    split at h1
    · rename_i hc
      cases h1
      exact ⟨hc, h2⟩
    · cases h1
  · rintro ⟨hc, h2⟩
    exact ⟨_, _, _, _, if_pos hc, h2⟩
theorem ev_iconst {n : Int} {v : Int32} (hv : Int32.ofInt n = v) (hd : decode M.2.1 pc = .ok (.iconst n, 1)) (hp : pc + 1 = pc') : Ev d M hs pc l (st) T Q ↔ Ev d M hs pc' l (.int v :: st) T Q := by
  subst hp; subst hv
  exact ev_one hd rfl rfl rfl
theorem ev_bipush {n : Int} {v : Int32} (hv : (Int8.ofInt n).toInt32 = v) (hd : decode M.2.1 pc = .ok (.bipush n, 2)) (hp : pc + 2 = pc') : Ev d M hs pc l (st) T Q ↔ Ev d M hs pc' l (.int v :: st) T Q := by
  subst hp; subst hv
  exact ev_one hd rfl rfl rfl
theorem ev_sipush {n : Int} {v : Int32} (hv : (Int16.ofInt n).toInt32 = v) (hd : decode M.2.1 pc = .ok (.sipush n, 3)) (hp : pc + 3 = pc') : Ev d M hs pc l (st) T Q ↔ Ev d M hs pc' l (.int v :: st) T Q := by
  subst hp; subst hv
  exact ev_one hd rfl rfl rfl
theorem ev_lconst {n : Fin 2} {v : Int64} (hv : Int64.ofNat n = v) (hd : decode M.2.1 pc = .ok (.lconst n, 1)) (hp : pc + 1 = pc') : Ev d M hs pc l (st) T Q ↔ Ev d M hs pc' l (.long v :: st) T Q := by
  subst hp; subst hv
  exact ev_one hd rfl rfl rfl
theorem ev_dconst0 (hd : decode M.2.1 pc = .ok (.dconst 0, 1)) (hp : pc + 1 = pc') : Ev d M hs pc l (st) T Q ↔ Ev d M hs pc' l (.double FP.dconst0 :: st) T Q := by
  subst hp
  exact ev_one hd rfl rfl rfl
theorem ev_null (hd : decode M.2.1 pc = .ok (.aconst_null, 1)) (hp : pc + 1 = pc') : Ev d M hs pc l (st) T Q ↔ Ev d M hs pc' l (.null :: st) T Q := by
  subst hp
  exact ev_one hd rfl rfl rfl
theorem ev_iadd {x y : Int32} (hd : decode M.2.1 pc = .ok (.iadd, 1)) (hp : pc + 1 = pc') : Ev d M hs pc l (.int y :: .int x :: st) T Q ↔ Ev d M hs pc' l (.int (x + y) :: st) T Q := by
  subst hp
  exact ev_one hd rfl rfl rfl
theorem ev_isub {x y : Int32} (hd : decode M.2.1 pc = .ok (.isub, 1)) (hp : pc + 1 = pc') : Ev d M hs pc l (.int y :: .int x :: st) T Q ↔ Ev d M hs pc' l (.int (x - y) :: st) T Q := by
  subst hp
  exact ev_one hd rfl rfl rfl
theorem ev_imul {x y : Int32} (hd : decode M.2.1 pc = .ok (.imul, 1)) (hp : pc + 1 = pc') : Ev d M hs pc l (.int y :: .int x :: st) T Q ↔ Ev d M hs pc' l (.int (x * y) :: st) T Q := by
  subst hp
  exact ev_one hd rfl rfl rfl
theorem ev_iand {x y : Int32} (hd : decode M.2.1 pc = .ok (.iand, 1)) (hp : pc + 1 = pc') : Ev d M hs pc l (.int y :: .int x :: st) T Q ↔ Ev d M hs pc' l (.int (x &&& y) :: st) T Q := by
  subst hp
  exact ev_one hd rfl rfl rfl
theorem ev_i2l {x : Int32} (hd : decode M.2.1 pc = .ok (.i2l, 1)) (hp : pc + 1 = pc') : Ev d M hs pc l (.int x :: st) T Q ↔ Ev d M hs pc' l (.long x.toInt64 :: st) T Q := by
  subst hp
  exact ev_one hd rfl rfl rfl
theorem ev_i2b {x : Int32} (hd : decode M.2.1 pc = .ok (.i2b, 1)) (hp : pc + 1 = pc') : Ev d M hs pc l (.int x :: st) T Q ↔ Ev d M hs pc' l (.int x.toInt8.toInt32 :: st) T Q := by
  subst hp
  exact ev_one hd rfl rfl rfl
theorem ev_i2d {x : Int32} (hd : decode M.2.1 pc = .ok (.i2d, 1)) (hp : pc + 1 = pc') : Ev d M hs pc l (.int x :: st) T Q ↔ Ev d M hs pc' l (.double (FP.i2d x) :: st) T Q := by
  subst hp
  exact ev_one hd rfl rfl rfl
theorem ev_lcmp {x y : Int64} (hd : decode M.2.1 pc = .ok (.lcmp, 1)) (hp : pc + 1 = pc') : Ev d M hs pc l (.long y :: .long x :: st) T Q ↔ Ev d M hs pc' l (.int (lg_cmp x y) :: st) T Q := by
  subst hp
  exact ev_one hd rfl rfl rfl
theorem ev_dcmp {x y : UInt64} {op : CmpOp} (hd : decode M.2.1 pc = .ok (.dcmp op, 1)) (hp : pc + 1 = pc') : Ev d M hs pc l (.double y :: .double x :: st) T Q ↔ Ev d M hs pc' l (.int (Op.cmpValue (FP.dcmp x y) op) :: st) T Q := by
  subst hp
  exact ev_one hd rfl rfl rfl
theorem ev_dupI {x : Int32} (hd : decode M.2.1 pc = .ok (.dup, 1)) (hp : pc + 1 = pc') : Ev d M hs pc l (.int x :: st) T Q ↔ Ev d M hs pc' l (.int x :: .int x :: st) T Q := by
  subst hp
  exact ev_one hd rfl rfl rfl
theorem ev_dupR {x : Nat} (hd : decode M.2.1 pc = .ok (.dup, 1)) (hp : pc + 1 = pc') : Ev d M hs pc l (.ref x :: st) T Q ↔ Ev d M hs pc' l (.ref x :: .ref x :: st) T Q := by
  subst hp
  exact ev_one hd rfl rfl rfl
theorem ev_dup2 {y : Int32} {x : Nat} (hd : decode M.2.1 pc = .ok (.dup2, 1)) (hp : pc + 1 = pc') : Ev d M hs pc l (.int y :: .ref x :: st) T Q ↔ Ev d M hs pc' l (.int y :: .ref x :: .int y :: .ref x :: st) T Q := by
  subst hp
  exact ev_one hd rfl rfl rfl
theorem ev_popI {x : Int32} (hd : decode M.2.1 pc = .ok (.pop, 1)) (hp : pc + 1 = pc') : Ev d M hs pc l (.int x :: st) T Q ↔ Ev d M hs pc' l (st) T Q := by
  subst hp
  exact ev_one hd rfl rfl rfl
theorem ev_popR {x : Nat} (hd : decode M.2.1 pc = .ok (.pop, 1)) (hp : pc + 1 = pc') : Ev d M hs pc l (.ref x :: st) T Q ↔ Ev d M hs pc' l (st) T Q := by
  subst hp
  exact ev_one hd rfl rfl rfl
theorem ev_irem {x y : Int32} (hd : decode M.2.1 pc = .ok (.irem, 1)) (hp : pc + 1 = pc') : Ev d M hs pc l (.int y :: .int x :: st) T Q ↔ (¬ y = 0) ∧ Ev d M hs pc' l (.int (x - x / y * y) :: st) T Q := by
  subst hp
  refine ev_if hd rfl rfl ?_
  by_cases hy : y = 0
  · simp [step, stkF, hy, locF, braF, hpF]
  · simp [step, stkF, hy, ilen]
theorem ev_ddiv {x y : UInt64} (hd : decode M.2.1 pc = .ok (.ddiv, 1)) (hp : pc + 1 = pc') : Ev d M hs pc l (.double y :: .double x :: st) T Q ↔ ((FP.ddiv x y) &&& 0x7fffffffffffffff ≤ 0x7ff0000000000000) ∧ Ev d M hs pc' l (.double (FP.ddiv x y) :: st) T Q := by
  subst hp
  refine ev_if hd rfl rfl ?_
  by_cases hy : (FP.ddiv x y) &&& 0x7fffffffffffffff ≤ 0x7ff0000000000000
  · simp [step, stkF, hy, ilen]
  · simp [step, stkF, hy, locF, braF, hpF]
theorem ev_ldc {n : Nat} {v : Int32} (ho : ldcT M.2.2.2.2.1 n = some v) (hd : decode M.2.1 pc = .ok (.ldc n, 2)) (hp : pc + 2 = pc') : Ev d M hs pc l st T Q ↔ Ev d M hs pc' l (.int v :: st) T Q := by
  subst hp
  refine ev_one hd rfl rfl ?_
  simp [step, stkF, ho, ilen]
theorem ev_ldc2 (ho : M.2.2.2.2.1 = 9) (hd : decode M.2.1 pc = .ok (.ldc2_w 135, 3)) (hp : pc + 3 = pc') : Ev d M hs pc l st T Q ↔ Ev d M hs pc' l (.long (-1) :: st) T Q := by
  subst hp
  refine ev_one hd rfl rfl ?_
  simp [step, stkF, ho, ilen]
theorem ev_idiv {x y : Int32} (hd : decode M.2.1 pc = .ok (.idiv, 1)) (hp : pc + 1 = pc') : Ev d M hs pc l (.int y :: .int x :: st) T Q ↔ (¬ y = 0) ∧ Ev d M hs pc' l (.int (x / y) :: st) T Q := by
  subst hp
  refine ev_if hd rfl rfl ?_
  by_cases hy : y = 0
  · simp [step, stkF, hy, locF, braF, hpF]
  · simp [step, stkF, hy, ilen]
theorem ev_land {x y : Int64} (hd : decode M.2.1 pc = .ok (.land, 1)) (hp : pc + 1 = pc') : Ev d M hs pc l (.long y :: .long x :: st) T Q ↔ Ev d M hs pc' l (.long (x &&& y) :: st) T Q := by
  subst hp
  exact ev_one hd rfl rfl rfl
theorem ev_lor {x y : Int64} (hd : decode M.2.1 pc = .ok (.lor, 1)) (hp : pc + 1 = pc') : Ev d M hs pc l (.long y :: .long x :: st) T Q ↔ Ev d M hs pc' l (.long (x ||| y) :: st) T Q := by
  subst hp
  exact ev_one hd rfl rfl rfl
theorem ev_lxor {x y : Int64} (hd : decode M.2.1 pc = .ok (.lxor, 1)) (hp : pc + 1 = pc') : Ev d M hs pc l (.long y :: .long x :: st) T Q ↔ Ev d M hs pc' l (.long (x ^^^ y) :: st) T Q := by
  subst hp
  exact ev_one hd rfl rfl rfl
theorem ev_lshl {x : Int64} {y : Int32} (hd : decode M.2.1 pc = .ok (.lshl, 1)) (hp : pc + 1 = pc') : Ev d M hs pc l (.int y :: .long x :: st) T Q ↔ Ev d M hs pc' l (.long (x <<< (y.toInt64 &&& 63)) :: st) T Q := by
  subst hp
  exact ev_one hd rfl rfl rfl
theorem ev_lshr {x : Int64} {y : Int32} (hd : decode M.2.1 pc = .ok (.lshr, 1)) (hp : pc + 1 = pc') : Ev d M hs pc l (.int y :: .long x :: st) T Q ↔ Ev d M hs pc' l (.long (x >>> (y.toInt64 &&& 63)) :: st) T Q := by
  subst hp
  exact ev_one hd rfl rfl rfl
theorem ev_l2i {x : Int64} (hd : decode M.2.1 pc = .ok (.l2i, 1)) (hp : pc + 1 = pc') : Ev d M hs pc l (.long x :: st) T Q ↔ Ev d M hs pc' l (.int x.toInt32 :: st) T Q := by
  subst hp
  exact ev_one hd rfl rfl rfl
/-- what stands in a local place -/
def lI (o : Option Value) (f : Int32 → Prop) : Prop := match o with
  | some (.int x) => f x
  | _ => False
def lR (o : Option Value) (f : Value → Prop) : Prop := match o with
  | some (.ref x) => f (.ref x)
  | some .null => f .null
  | _ => False
def lD (o : Option Value) (f : UInt64 → Prop) : Prop := match o with
  | some (.double x) => f x
  | _ => False
def lJ (o : Option Value) (f : Int64 → Prop) : Prop := match o with
  | some (.long x) => f x
  | _ => False
theorem lJ_some {x : Int64} {f : Int64 → Prop} : lJ (some (.long x)) f ↔ f x := Iff.rfl
theorem lI_some {x : Int32} {f : Int32 → Prop} : lI (some (.int x)) f ↔ f x := Iff.rfl
theorem lR_ref {x : Nat} {f : Value → Prop} : lR (some (.ref x)) f ↔ f (.ref x) := Iff.rfl
theorem lR_null {f : Value → Prop} : lR (some .null) f ↔ f .null := Iff.rfl
theorem lD_some {x : UInt64} {f : UInt64 → Prop} : lD (some (.double x)) f ↔ f x := Iff.rfl
theorem lget_cons {j k : Nat} {v : Value} {l : Loc0} : lget ((j, v) :: l) k = if j = k then some v else lget l k := rfl
theorem ldel_cons {j k : Nat} {v : Value} {l : Loc0} : ldel ((j, v) :: l) k = if j = k ∨ (j + 1 = k ∧ v.category = 2) then ldel l k else (j, v) :: ldel l k := rfl
theorem ldel_nil {k : Nat} : ldel [] k = [] := rfl
theorem ldel2_cons {j k : Nat} {v : Value} {l : Loc0} : ldel2 ((j, v) :: l) k = if j = k ∨ j = k + 1 ∨ (j + 1 = k ∧ v.category = 2) then ldel2 l k else (j, v) :: ldel2 l k := rfl
theorem ldel2_nil {k : Nat} : ldel2 [] k = [] := rfl

theorem ev_iload {k : Nat} (hd : decode M.2.1 pc = .ok (.iload k, 2)) (hp : pc + 2 = pc') : Ev d M hs pc l st T Q ↔ lI (lget l k) (fun x => Ev d M hs pc' l (.int x :: st) T Q) := by
  subst hp
  rw [ev_o hd rfl rfl]
  cases hg : lget l k with
  | none => simp [step, stkF, locF, hg, braF, hpF, lI, evO]
  | some v => cases v <;> simp [step, stkF, locF, hg, braF, hpF, lI, ilen, evO]
theorem ev_aload {k : Nat} (hd : decode M.2.1 pc = .ok (.aload k, 2)) (hp : pc + 2 = pc') : Ev d M hs pc l st T Q ↔ lR (lget l k) (fun x => Ev d M hs pc' l (x :: st) T Q) := by
  subst hp
  rw [ev_o hd rfl rfl]
  cases hg : lget l k with
  | none => simp [step, stkF, locF, hg, braF, hpF, lR, evO]
  | some v => cases v <;> simp [step, stkF, locF, hg, braF, hpF, lR, ilen, evO]
theorem ev_dload {k : Nat} (hd : decode M.2.1 pc = .ok (.dload k, 2)) (hp : pc + 2 = pc') : Ev d M hs pc l st T Q ↔ lD (lget l k) (fun x => Ev d M hs pc' l (.double x :: st) T Q) := by
  subst hp
  rw [ev_o hd rfl rfl]
  cases hg : lget l k with
  | none => simp [step, stkF, locF, hg, braF, hpF, lD, evO]
  | some v => cases v <;> simp [step, stkF, locF, hg, braF, hpF, lD, ilen, evO]
theorem ev_lload_n {q : Fin 4} {k : Nat} (hk : (q : Nat) = k) (hd : decode M.2.1 pc = .ok (.lload_n q, 1)) (hp : pc + 1 = pc') : Ev d M hs pc l st T Q ↔ lJ (lget l k) (fun x => Ev d M hs pc' l (.long x :: st) T Q) := by
  subst hp; subst hk
  rw [ev_o hd rfl rfl]
  cases hg : lget l q with
  | none => simp [step, stkF, locF, hg, braF, hpF, lJ, evO]
  | some v => cases v <;> simp [step, stkF, locF, hg, braF, hpF, lJ, ilen, evO]
theorem ev_iload_n {q : Fin 4} {k : Nat} (hk : (q : Nat) = k) (hd : decode M.2.1 pc = .ok (.iload_n q, 1)) (hp : pc + 1 = pc') : Ev d M hs pc l st T Q ↔ lI (lget l k) (fun x => Ev d M hs pc' l (.int x :: st) T Q) := by
  subst hp; subst hk
  rw [ev_o hd rfl rfl]
  cases hg : lget l q with
  | none => simp [step, stkF, locF, hg, braF, hpF, lI, evO]
  | some v => cases v <;> simp [step, stkF, locF, hg, braF, hpF, lI, ilen, evO]
theorem ev_aload_n {q : Fin 4} {k : Nat} (hk : (q : Nat) = k) (hd : decode M.2.1 pc = .ok (.aload_n q, 1)) (hp : pc + 1 = pc') : Ev d M hs pc l st T Q ↔ lR (lget l k) (fun x => Ev d M hs pc' l (x :: st) T Q) := by
  subst hp; subst hk
  rw [ev_o hd rfl rfl]
  cases hg : lget l q with
  | none => simp [step, stkF, locF, hg, braF, hpF, lR, evO]
  | some v => cases v <;> simp [step, stkF, locF, hg, braF, hpF, lR, ilen, evO]
theorem ev_istore {k : Nat} {x : Int32} (hd : decode M.2.1 pc = .ok (.istore k, 2)) (hn : k < M.2.2.1) (hp : pc + 2 = pc') : Ev d M hs pc l (.int x :: st) T Q ↔ Ev d M hs pc' ((k, .int x) :: ldel l k) st T Q := by
  subst hp
  refine ev_one hd rfl rfl ?_
  simp [step, stkF, locF, hn, ilen]
theorem ev_astore {k : Nat} {x : Nat} (hd : decode M.2.1 pc = .ok (.astore k, 2)) (hn : k < M.2.2.1) (hp : pc + 2 = pc') : Ev d M hs pc l (.ref x :: st) T Q ↔ Ev d M hs pc' ((k, .ref x) :: ldel l k) st T Q := by
  subst hp
  refine ev_one hd rfl rfl ?_
  simp [step, stkF, locF, hn, ilen]
theorem ev_astoreN {k : Nat} (hd : decode M.2.1 pc = .ok (.astore k, 2)) (hn : k < M.2.2.1) (hp : pc + 2 = pc') : Ev d M hs pc l (.null :: st) T Q ↔ Ev d M hs pc' ((k, .null) :: ldel l k) st T Q := by
  subst hp
  refine ev_one hd rfl rfl ?_
  simp [step, stkF, locF, hn, ilen]
theorem ev_istore_n {q : Fin 4} {k : Nat} {x : Int32} (hk : (q : Nat) = k) (hd : decode M.2.1 pc = .ok (.istore_n q, 1)) (hn : k < M.2.2.1) (hp : pc + 1 = pc') : Ev d M hs pc l (.int x :: st) T Q ↔ Ev d M hs pc' ((k, .int x) :: ldel l k) st T Q := by
  subst hp; subst hk
  refine ev_one hd rfl rfl ?_
  simp [step, stkF, locF, hn, ilen]
theorem ev_astore_n {q : Fin 4} {k : Nat} {x : Nat} (hk : (q : Nat) = k) (hd : decode M.2.1 pc = .ok (.astore_n q, 1)) (hn : k < M.2.2.1) (hp : pc + 1 = pc') : Ev d M hs pc l (.ref x :: st) T Q ↔ Ev d M hs pc' ((k, .ref x) :: ldel l k) st T Q := by
  subst hp; subst hk
  refine ev_one hd rfl rfl ?_
  simp [step, stkF, locF, hn, ilen]
theorem ev_astore_nN {q : Fin 4} {k : Nat} (hk : (q : Nat) = k) (hd : decode M.2.1 pc = .ok (.astore_n q, 1)) (hn : k < M.2.2.1) (hp : pc + 1 = pc') : Ev d M hs pc l (.null :: st) T Q ↔ Ev d M hs pc' ((k, .null) :: ldel l k) st T Q := by
  subst hp; subst hk
  refine ev_one hd rfl rfl ?_
  simp [step, stkF, locF, hn, ilen]
theorem ev_dstore {k : Nat} {x : UInt64} (hd : decode M.2.1 pc = .ok (.dstore k, 2)) (hn : k + 1 < M.2.2.1) (hp : pc + 2 = pc') : Ev d M hs pc l (.double x :: st) T Q ↔ Ev d M hs pc' ((k, .double x) :: ldel2 l k) st T Q := by
  subst hp
  refine ev_one hd rfl rfl ?_
  simp [step, stkF, locF, hn, ilen]
theorem ev_iinc {k : Nat} {n : Int} {v : Int32} (hv : Int32.ofInt n = v) (hd : decode M.2.1 pc = .ok (.iinc k n, 3)) (hn : k < M.2.2.1) (hp : pc + 3 = pc') : Ev d M hs pc l st T Q ↔ lI (lget l k) (fun x => Ev d M hs pc' ((k, .int (x + v)) :: ldel l k) st T Q) := by
  subst hp; subst hv
  rw [ev_o hd rfl rfl]
  cases hg : lget l k with
  | none => simp [step, stkF, locF, hg, braF, hpF, lI, evO]
  | some w => cases w <;> simp [step, stkF, locF, hg, braF, hpF, lI, ilen, hn, evO]
theorem ev_goto {off : Int} (hd : decode M.2.1 pc = .ok (.goto off, 3)) (hp : (pc : Int) + off = (pc' : Int)) : Ev d M hs pc l st T Q ↔ Ev d M hs pc' l st T Q := by
  refine ev_one hd rfl rfl ?_
  have h0 : 0 ≤ (pc : Int) + off := by omega
  have h1 : ((pc : Int) + off).toNat = pc' := by omega
  simp [step, stkF, locF, braF, jmp, h0, h1]
theorem ev_br {i : Instr} {st' : List Value} {t f : Nat} {c : Prop} [Decidable c] (hd : decode M.2.1 pc = .ok (i, 3)) (hl : lenOk i 3) (hi : icls i = 0) (h1 : stkF M.2.2.2.2.1 i st = none) (h2 : locF M.2.2.1 i l st = none) (h3 : braF i pc st = some (if c then t else f, st')) : Ev d M hs pc l st T Q ↔ if c then Ev d M hs t l st' T Q else Ev d M hs f l st' T Q := by
  rw [ev_gen hd hl hi]
  simp only [step, h1, h2, h3]
  split
  · constructor
    · rintro ⟨a, b, c, e, q1, q2⟩; cases q1; exact q2
    · intro q; exact ⟨_, _, _, _, rfl, q⟩
  · constructor
    · rintro ⟨a, b, c, e, q1, q2⟩; cases q1; exact q2
    · intro q; exact ⟨_, _, _, _, rfl, q⟩
theorem ev_icmp_eq {x y : Int32} {off : Int} {t : Nat} (hd : decode M.2.1 pc = .ok (.if_icmp .eq off, 3)) (ht : (pc : Int) + off = (t : Int)) (hp : pc + 3 = pc') : Ev d M hs pc l (.int y :: .int x :: st) T Q ↔ if x = y then Ev d M hs t l st T Q else Ev d M hs pc' l st T Q := by
  subst hp
  refine ev_br hd rfl rfl rfl rfl ?_
  have h0 : 0 ≤ (pc : Int) + off := by omega
  have h1 : ((pc : Int) + off).toNat = t := by omega
  simp [braF, cmpB, h0, h1]
theorem ev_if_eq {x : Int32} {off : Int} {t : Nat} (hd : decode M.2.1 pc = .ok (.ifCond .eq off, 3)) (ht : (pc : Int) + off = (t : Int)) (hp : pc + 3 = pc') : Ev d M hs pc l (.int x :: st) T Q ↔ if x = 0 then Ev d M hs t l st T Q else Ev d M hs pc' l st T Q := by
  subst hp
  refine ev_br hd rfl rfl rfl rfl ?_
  have h0 : 0 ≤ (pc : Int) + off := by omega
  have h1 : ((pc : Int) + off).toNat = t := by omega
  simp [braF, cmpB, h0, h1]
theorem ev_icmp_ne {x y : Int32} {off : Int} {t : Nat} (hd : decode M.2.1 pc = .ok (.if_icmp .ne off, 3)) (ht : (pc : Int) + off = (t : Int)) (hp : pc + 3 = pc') : Ev d M hs pc l (.int y :: .int x :: st) T Q ↔ if ¬ x = y then Ev d M hs t l st T Q else Ev d M hs pc' l st T Q := by
  subst hp
  refine ev_br hd rfl rfl rfl rfl ?_
  have h0 : 0 ≤ (pc : Int) + off := by omega
  have h1 : ((pc : Int) + off).toNat = t := by omega
  simp [braF, cmpB, h0, h1]
theorem ev_if_ne {x : Int32} {off : Int} {t : Nat} (hd : decode M.2.1 pc = .ok (.ifCond .ne off, 3)) (ht : (pc : Int) + off = (t : Int)) (hp : pc + 3 = pc') : Ev d M hs pc l (.int x :: st) T Q ↔ if ¬ x = 0 then Ev d M hs t l st T Q else Ev d M hs pc' l st T Q := by
  subst hp
  refine ev_br hd rfl rfl rfl rfl ?_
  have h0 : 0 ≤ (pc : Int) + off := by omega
  have h1 : ((pc : Int) + off).toNat = t := by omega
  simp [braF, cmpB, h0, h1]
theorem ev_icmp_lt {x y : Int32} {off : Int} {t : Nat} (hd : decode M.2.1 pc = .ok (.if_icmp .lt off, 3)) (ht : (pc : Int) + off = (t : Int)) (hp : pc + 3 = pc') : Ev d M hs pc l (.int y :: .int x :: st) T Q ↔ if x < y then Ev d M hs t l st T Q else Ev d M hs pc' l st T Q := by
  subst hp
  refine ev_br hd rfl rfl rfl rfl ?_
  have h0 : 0 ≤ (pc : Int) + off := by omega
  have h1 : ((pc : Int) + off).toNat = t := by omega
  simp [braF, cmpB, h0, h1]
theorem ev_if_lt {x : Int32} {off : Int} {t : Nat} (hd : decode M.2.1 pc = .ok (.ifCond .lt off, 3)) (ht : (pc : Int) + off = (t : Int)) (hp : pc + 3 = pc') : Ev d M hs pc l (.int x :: st) T Q ↔ if x < 0 then Ev d M hs t l st T Q else Ev d M hs pc' l st T Q := by
  subst hp
  refine ev_br hd rfl rfl rfl rfl ?_
  have h0 : 0 ≤ (pc : Int) + off := by omega
  have h1 : ((pc : Int) + off).toNat = t := by omega
  simp [braF, cmpB, h0, h1]
theorem ev_icmp_ge {x y : Int32} {off : Int} {t : Nat} (hd : decode M.2.1 pc = .ok (.if_icmp .ge off, 3)) (ht : (pc : Int) + off = (t : Int)) (hp : pc + 3 = pc') : Ev d M hs pc l (.int y :: .int x :: st) T Q ↔ if y ≤ x then Ev d M hs t l st T Q else Ev d M hs pc' l st T Q := by
  subst hp
  refine ev_br hd rfl rfl rfl rfl ?_
  have h0 : 0 ≤ (pc : Int) + off := by omega
  have h1 : ((pc : Int) + off).toNat = t := by omega
  simp [braF, cmpB, h0, h1]
theorem ev_if_ge {x : Int32} {off : Int} {t : Nat} (hd : decode M.2.1 pc = .ok (.ifCond .ge off, 3)) (ht : (pc : Int) + off = (t : Int)) (hp : pc + 3 = pc') : Ev d M hs pc l (.int x :: st) T Q ↔ if 0 ≤ x then Ev d M hs t l st T Q else Ev d M hs pc' l st T Q := by
  subst hp
  refine ev_br hd rfl rfl rfl rfl ?_
  have h0 : 0 ≤ (pc : Int) + off := by omega
  have h1 : ((pc : Int) + off).toNat = t := by omega
  simp [braF, cmpB, h0, h1]
theorem ev_icmp_gt {x y : Int32} {off : Int} {t : Nat} (hd : decode M.2.1 pc = .ok (.if_icmp .gt off, 3)) (ht : (pc : Int) + off = (t : Int)) (hp : pc + 3 = pc') : Ev d M hs pc l (.int y :: .int x :: st) T Q ↔ if y < x then Ev d M hs t l st T Q else Ev d M hs pc' l st T Q := by
  subst hp
  refine ev_br hd rfl rfl rfl rfl ?_
  have h0 : 0 ≤ (pc : Int) + off := by omega
  have h1 : ((pc : Int) + off).toNat = t := by omega
  simp [braF, cmpB, h0, h1]
theorem ev_if_gt {x : Int32} {off : Int} {t : Nat} (hd : decode M.2.1 pc = .ok (.ifCond .gt off, 3)) (ht : (pc : Int) + off = (t : Int)) (hp : pc + 3 = pc') : Ev d M hs pc l (.int x :: st) T Q ↔ if 0 < x then Ev d M hs t l st T Q else Ev d M hs pc' l st T Q := by
  subst hp
  refine ev_br hd rfl rfl rfl rfl ?_
  have h0 : 0 ≤ (pc : Int) + off := by omega
  have h1 : ((pc : Int) + off).toNat = t := by omega
  simp [braF, cmpB, h0, h1]
theorem ev_icmp_le {x y : Int32} {off : Int} {t : Nat} (hd : decode M.2.1 pc = .ok (.if_icmp .le off, 3)) (ht : (pc : Int) + off = (t : Int)) (hp : pc + 3 = pc') : Ev d M hs pc l (.int y :: .int x :: st) T Q ↔ if x ≤ y then Ev d M hs t l st T Q else Ev d M hs pc' l st T Q := by
  subst hp
  refine ev_br hd rfl rfl rfl rfl ?_
  have h0 : 0 ≤ (pc : Int) + off := by omega
  have h1 : ((pc : Int) + off).toNat = t := by omega
  simp [braF, cmpB, h0, h1]
theorem ev_if_le {x : Int32} {off : Int} {t : Nat} (hd : decode M.2.1 pc = .ok (.ifCond .le off, 3)) (ht : (pc : Int) + off = (t : Int)) (hp : pc + 3 = pc') : Ev d M hs pc l (.int x :: st) T Q ↔ if x ≤ 0 then Ev d M hs t l st T Q else Ev d M hs pc' l st T Q := by
  subst hp
  refine ev_br hd rfl rfl rfl rfl ?_
  have h0 : 0 ≤ (pc : Int) + off := by omega
  have h1 : ((pc : Int) + off).toNat = t := by omega
  simp [braF, cmpB, h0, h1]
theorem ev_acmp_ne {x y : Nat} {off : Int} {t : Nat} (hd : decode M.2.1 pc = .ok (.if_acmp .ne off, 3)) (ht : (pc : Int) + off = (t : Int)) (hp : pc + 3 = pc') : Ev d M hs pc l (.ref y :: .ref x :: st) T Q ↔ if x = y then Ev d M hs pc' l st T Q else Ev d M hs t l st T Q := by
  subst hp
  refine ev_br hd rfl rfl rfl rfl ?_
  have h0 : 0 ≤ (pc : Int) + off := by omega
  have h1 : ((pc : Int) + off).toNat = t := by omega
  simp [braF, h0, h1]
theorem ev_ifnull {x : Nat} {off : Int} (hd : decode M.2.1 pc = .ok (.ifnull off, 3)) (hp : pc + 3 = pc') : Ev d M hs pc l (.ref x :: st) T Q ↔ Ev d M hs pc' l st T Q := by
  subst hp
  exact ev_one hd rfl rfl rfl
theorem ev_ifnullN {off : Int} (hd : decode M.2.1 pc = .ok (.ifnull off, 3)) (hp : (pc : Int) + off = (pc' : Int)) : Ev d M hs pc l (.null :: st) T Q ↔ Ev d M hs pc' l st T Q := by
  refine ev_one hd rfl rfl ?_
  have h0 : 0 ≤ (pc : Int) + off := by omega
  have h1 : ((pc : Int) + off).toNat = pc' := by omega
  simp [step, stkF, locF, braF, jmp, h0, h1]
theorem ev_ifnonnull {x : Nat} {off : Int} (hd : decode M.2.1 pc = .ok (.ifnonnull off, 3)) (hp : (pc : Int) + off = (pc' : Int)) : Ev d M hs pc l (.ref x :: st) T Q ↔ Ev d M hs pc' l st T Q := by
  refine ev_one hd rfl rfl ?_
  have h0 : 0 ≤ (pc : Int) + off := by omega
  have h1 : ((pc : Int) + off).toNat = pc' := by omega
  simp [step, stkF, locF, braF, jmp, h0, h1]
theorem ev_ifnonnullN {off : Int} (hd : decode M.2.1 pc = .ok (.ifnonnull off, 3)) (hp : pc + 3 = pc') : Ev d M hs pc l (.null :: st) T Q ↔ Ev d M hs pc' l st T Q := by
  subst hp
  exact ev_one hd rfl rfl rfl

theorem ev_getI {a : Nat} {idx c k f kk : Nat} (hf : fldOf M.2.2.2.2.1 idx = some (c, k)) (he : 32 * c + k = f) (hk : c + 1 = kk) (hi : fI c k = true) (hd : decode M.2.1 pc = .ok (.getfield idx, 3)) (hp : pc + 3 = pc') : Ev d M hs pc l (.ref a :: st) T Q ↔ (tK T a = kk) ∧ Ev d M hs pc' l (.int (tI T f a) :: st) (T) Q := by
  subst hp; subst he; subst hk
  refine ev_if hd rfl rfl ?_
  by_cases h9 : tK T a = c + 1
  · rw [if_pos h9]
    simp only [step, stkF, locF, braF, hpF, ilen, hf, Option.bind_some, if_pos h9, hi, if_true, Bool.false_eq_true, if_false]
  · rw [if_neg h9]
    simp only [step, stkF, locF, braF, hpF, ilen, hf, Option.bind_some, if_neg h9]
theorem ev_getR {a : Nat} {idx c k f kk : Nat} (hf : fldOf M.2.2.2.2.1 idx = some (c, k)) (he : 32 * c + k = f) (hk : c + 1 = kk) (hi : fI c k = false) (hd : decode M.2.1 pc = .ok (.getfield idx, 3)) (hp : pc + 3 = pc') : Ev d M hs pc l (.ref a :: st) T Q ↔ (tK T a = kk) ∧ Ev d M hs pc' l (va_rf (tR T f a) :: st) (T) Q := by
  subst hp; subst he; subst hk
  refine ev_if hd rfl rfl ?_
  by_cases h9 : tK T a = c + 1
  · rw [if_pos h9]
    simp only [step, stkF, locF, braF, hpF, ilen, hf, Option.bind_some, if_pos h9, hi, if_true, Bool.false_eq_true, if_false]
  · rw [if_neg h9]
    simp only [step, stkF, locF, braF, hpF, ilen, hf, Option.bind_some, if_neg h9]
theorem ev_putI {a : Nat} {v : Int32} {idx c k f kk : Nat} (hf : fldOf M.2.2.2.2.1 idx = some (c, k)) (he : 32 * c + k = f) (hk : c + 1 = kk) (hi : fI c k = true) (hw : (fF c k == false || ((M.1.name == "<init>") && decide (c = M.2.2.2.2.1))) = true) (hd : decode M.2.1 pc = .ok (.putfield idx, 3)) (hp : pc + 3 = pc') : Ev d M hs pc l (.int v :: .ref a :: st) T Q ↔ (tK T a = kk) ∧ Ev d M hs pc' l st (sI f a v T) Q := by
  subst hp; subst he; subst hk
  refine ev_if hd rfl rfl ?_
  have hw2 : fF c k = false ∨ ((M.1.name == "<init>") = true ∧ c = M.2.2.2.2.1) := by
    rcases Bool.or_eq_true _ _ |>.mp hw with h | h
    · exact Or.inl (eq_of_beq h)
    · rw [Bool.and_eq_true, decide_eq_true_eq] at h
      exact Or.inr h
  have key : ∀ (A : Prop), (A ∧ (fI c k = true) ∧ (fF c k = false ∨ ((M.1.name == "<init>") = true ∧ c = M.2.2.2.2.1))) ↔ A := fun A => ⟨fun h => h.1, fun h => ⟨h, hi, hw2⟩⟩
  simp only [step, stkF, locF, braF, hpF, ilen, hf, Option.bind_some, key]
  by_cases h9 : tK T a = c + 1
  · rw [if_pos h9, if_pos h9]
  · rw [if_neg h9, if_neg h9]
theorem ev_putR {a : Nat} {v : Nat} {idx c k f kk : Nat} (hf : fldOf M.2.2.2.2.1 idx = some (c, k)) (he : 32 * c + k = f) (hk : c + 1 = kk) (hi : fI c k = false) (hw : (fF c k == false || ((M.1.name == "<init>") && decide (c = M.2.2.2.2.1))) = true) (hd : decode M.2.1 pc = .ok (.putfield idx, 3)) (hp : pc + 3 = pc') : Ev d M hs pc l (.ref v :: .ref a :: st) T Q ↔ (tK T a = kk) ∧ Ev d M hs pc' l st (sR f a (some v) T) Q := by
  subst hp; subst he; subst hk
  refine ev_if hd rfl rfl ?_
  have hw2 : fF c k = false ∨ ((M.1.name == "<init>") = true ∧ c = M.2.2.2.2.1) := by
    rcases Bool.or_eq_true _ _ |>.mp hw with h | h
    · exact Or.inl (eq_of_beq h)
    · rw [Bool.and_eq_true, decide_eq_true_eq] at h
      exact Or.inr h
  have key : ∀ (A : Prop), (A ∧ (fI c k = false) ∧ (fF c k = false ∨ ((M.1.name == "<init>") = true ∧ c = M.2.2.2.2.1))) ↔ A := fun A => ⟨fun h => h.1, fun h => ⟨h, hi, hw2⟩⟩
  simp only [step, stkF, locF, braF, hpF, ilen, hf, Option.bind_some, key]
  by_cases h9 : tK T a = c + 1
  · rw [if_pos h9, if_pos h9]
  · rw [if_neg h9, if_neg h9]
theorem ev_putN {a : Nat} {idx c k f kk : Nat} (hf : fldOf M.2.2.2.2.1 idx = some (c, k)) (he : 32 * c + k = f) (hk : c + 1 = kk) (hi : fI c k = false) (hw : (fF c k == false || ((M.1.name == "<init>") && decide (c = M.2.2.2.2.1))) = true) (hd : decode M.2.1 pc = .ok (.putfield idx, 3)) (hp : pc + 3 = pc') : Ev d M hs pc l (.null :: .ref a :: st) T Q ↔ (tK T a = kk) ∧ Ev d M hs pc' l st (sR f a none T) Q := by
  subst hp; subst he; subst hk
  refine ev_if hd rfl rfl ?_
  have hw2 : fF c k = false ∨ ((M.1.name == "<init>") = true ∧ c = M.2.2.2.2.1) := by
    rcases Bool.or_eq_true _ _ |>.mp hw with h | h
    · exact Or.inl (eq_of_beq h)
    · rw [Bool.and_eq_true, decide_eq_true_eq] at h
      exact Or.inr h
  have key : ∀ (A : Prop), (A ∧ (fI c k = false) ∧ (fF c k = false ∨ ((M.1.name == "<init>") = true ∧ c = M.2.2.2.2.1))) ↔ A := fun A => ⟨fun h => h.1, fun h => ⟨h, hi, hw2⟩⟩
  simp only [step, stkF, locF, braF, hpF, ilen, hf, Option.bind_some, key]
  by_cases h9 : tK T a = c + 1
  · rw [if_pos h9, if_pos h9]
  · rw [if_neg h9, if_neg h9]
theorem ev_alen {a : Nat} (hd : decode M.2.1 pc = .ok (.arraylength, 1)) (hp : pc + 1 = pc') : Ev d M hs pc l (.ref a :: st) T Q ↔ (tK T a = 20 ∨ tK T a = 26) ∧ Ev d M hs pc' l (.int (nI (tl T a)) :: st) (T) Q := by
  subst hp
  refine ev_if hd rfl rfl ?_
  by_cases h9 : tK T a = 20 ∨ tK T a = 26
  · rw [if_pos h9]
    simp only [step, stkF, locF, braF, hpF, ilen, if_pos h9]
  · rw [if_neg h9]
    simp only [step, stkF, locF, braF, hpF, ilen, if_neg h9]
theorem ev_iald {a : Nat} {i : Int32} (hd : decode M.2.1 pc = .ok (.iaload, 1)) (hp : pc + 1 = pc') : Ev d M hs pc l (.int i :: .ref a :: st) T Q ↔ ((tK T a = 20 ∨ tK T a = 26) ∧ (¬ (i < 0 ∨ tl T a ≤ i.toNatClampNeg))) ∧ Ev d M hs pc' l (.int (tA T a i.toNatClampNeg) :: st) (T) Q := by
  subst hp
  refine ev_if hd rfl rfl ?_
  by_cases h9 : (tK T a = 20 ∨ tK T a = 26) ∧ (¬ (i < 0 ∨ tl T a ≤ i.toNatClampNeg))
  · rw [if_pos h9]
    simp only [step, stkF, locF, braF, hpF, ilen, if_pos h9]
  · rw [if_neg h9]
    simp only [step, stkF, locF, braF, hpF, ilen, if_neg h9]
theorem ev_lald {a : Nat} {i : Int32} (hd : decode M.2.1 pc = .ok (.laload, 1)) (hp : pc + 1 = pc') : Ev d M hs pc l (.int i :: .ref a :: st) T Q ↔ (tK T a = 22 ∧ (¬ (i < 0 ∨ tl T a ≤ i.toNatClampNeg))) ∧ Ev d M hs pc' l (.long (tJ T a i.toNatClampNeg) :: st) (T) Q := by
  subst hp
  refine ev_if hd rfl rfl ?_
  by_cases h9 : tK T a = 22 ∧ (¬ (i < 0 ∨ tl T a ≤ i.toNatClampNeg))
  · rw [if_pos h9]
    simp only [step, stkF, locF, braF, hpF, ilen, if_pos h9]
  · rw [if_neg h9]
    simp only [step, stkF, locF, braF, hpF, ilen, if_neg h9]
theorem ev_iast {a : Nat} {i v : Int32} (hd : decode M.2.1 pc = .ok (.iastore, 1)) (hp : pc + 1 = pc') : Ev d M hs pc l (.int v :: .int i :: .ref a :: st) T Q ↔ (tK T a = 20 ∧ (¬ (i < 0 ∨ tl T a ≤ i.toNatClampNeg))) ∧ Ev d M hs pc' l (st) (sA a i.toNatClampNeg v T) Q := by
  subst hp
  refine ev_if hd rfl rfl ?_
  by_cases h9 : tK T a = 20 ∧ (¬ (i < 0 ∨ tl T a ≤ i.toNatClampNeg))
  · rw [if_pos h9]
    simp only [step, stkF, locF, braF, hpF, ilen, if_pos h9]
  · rw [if_neg h9]
    simp only [step, stkF, locF, braF, hpF, ilen, if_neg h9]
theorem ev_last {a : Nat} {i : Int32} {v : Int64} (hd : decode M.2.1 pc = .ok (.lastore, 1)) (hp : pc + 1 = pc') : Ev d M hs pc l (.long v :: .int i :: .ref a :: st) T Q ↔ (tK T a = 22 ∧ (¬ (i < 0 ∨ tl T a ≤ i.toNatClampNeg))) ∧ Ev d M hs pc' l (st) (sJ a i.toNatClampNeg v T) Q := by
  subst hp
  refine ev_if hd rfl rfl ?_
  by_cases h9 : tK T a = 22 ∧ (¬ (i < 0 ∨ tl T a ≤ i.toNatClampNeg))
  · rw [if_pos h9]
    simp only [step, stkF, locF, braF, hpF, ilen, if_pos h9]
  · rw [if_neg h9]
    simp only [step, stkF, locF, braF, hpF, ilen, if_neg h9]
theorem ev_newa {n : Int32} {t : ArrayType} {k : Nat} (hk : kOf t = k) (hk0 : ¬ k = 0) (hd : decode M.2.1 pc = .ok (.newarray t, 2)) (hp : pc + 2 = pc') : Ev d M hs pc l (.int n :: st) T Q ↔ (¬ n < 0 ∧ n.toNatClampNeg ≤ 1000000) ∧ Ev d M hs pc' l (.ref (tn T) :: st) (nA k n.toNatClampNeg T) Q := by
  subst hp; subst hk
  refine ev_if hd rfl rfl ?_
  have key : (¬ n < 0 ∧ n.toNatClampNeg ≤ 1000000 ∧ kOf t ≠ 0) ↔ (¬ n < 0 ∧ n.toNatClampNeg ≤ 1000000) := ⟨fun h => ⟨h.1, h.2.1⟩, fun h => ⟨h.1, h.2, hk0⟩⟩
  simp only [step, stkF, locF, braF, hpF, ilen, key]
  by_cases h9 : ¬ n < 0 ∧ n.toNatClampNeg ≤ 1000000
  · rw [if_pos h9, if_pos h9]
  · rw [if_neg h9, if_neg h9]
theorem ev_cast {a idx c kk : Nat} (hc : clOf M.2.2.2.2.1 idx = some c) (h1 : 1 ≤ c) (h8 : c ≤ 8) (hk : c + 1 = kk) (hd : decode M.2.1 pc = .ok (.checkcast idx, 3)) (hp : pc + 3 = pc') : Ev d M hs pc l (.ref a :: st) T Q ↔ (tK T a = kk) ∧ Ev d M hs pc' l (.ref a :: st) T Q := by
  subst hp; subst hk
  refine ev_if hd rfl rfl ?_
  have key : (tK T a = c + 1 ∧ 1 ≤ c ∧ c ≤ 8) ↔ tK T a = c + 1 := ⟨fun h => h.1, fun h => ⟨h, h1, h8⟩⟩
  simp only [step, stkF, locF, braF, hpF, ilen, hc, Option.bind_some, key]
  by_cases h9 : tK T a = c + 1
  · rw [if_pos h9, if_pos h9]
  · rw [if_neg h9, if_neg h9]
/-- calls, new objects, ends -/
theorem ev_new {idx c : Nat} (hc : clOf M.2.2.2.2.1 idx = some c) (h8 : c ≤ 8) (hd : decode M.2.1 pc = .ok (.new idx, 3)) (hp : pc + 3 = pc') : Ev d M hs pc l st T Q ↔ Ev d M hs pc' l (.ref (tn T) :: st) (nO c T) Q := by
  subst hp
  constructor
  · rintro ⟨n, out, T', h, hq⟩
    cases n with
    | zero => cases h
    | succ n =>
      obtain ⟨i9, len9, hd9, -, h⟩ := h
      cases hd.symm.trans hd9
      obtain ⟨idx9, ci, hi9, hc9, h⟩ := h
      cases hi9
      cases hc.symm.trans hc9
      rcases h with ⟨-, h⟩ | ⟨-, h1, -⟩
      · exact ⟨n, out, T', h, hq⟩
      · omega
  · rintro ⟨n, out, T', h, hq⟩
    exact ⟨n + 1, out, T', ⟨_, _, hd, rfl, idx, c, rfl, hc, Or.inl ⟨h8, h⟩⟩, hq⟩
theorem ev_throw {idx c ic : Nat} (ho : M.2.2.2.2.1 = 7) (hc : clOf M.2.2.2.2.1 idx = some c) (h1 : 100 ≤ c) (h2 : c ≤ 102) (hic : (if c = 100 then 46 else if c = 101 then 53 else 73) = ic) (hd : decode M.2.1 pc = .ok (.new idx, 3)) (d3 : decode M.2.1 (pc + 3) = .ok (.dup, 1)) (d4 : decode M.2.1 (pc + 4) = .ok (.invokespecial ic, 3)) (d7 : decode M.2.1 (pc + 7) = .ok (.athrow, 1)) : Ev d M [] pc l [] T Q ↔ Q (.inr c) (nX T) := by
  constructor
  · rintro ⟨n, out, T', h, hq⟩
    cases n with
    | zero => cases h
    | succ n =>
      obtain ⟨i9, len9, hd9, -, h⟩ := h
      cases hd.symm.trans hd9
      obtain ⟨idx9, ci, hi9, hc9, h⟩ := h
      cases hi9
      cases hc.symm.trans hc9
      rcases h with ⟨h8, -⟩ | ⟨-, -, -, -, -, -, -, -, rfl, rfl⟩
      · omega
      · exact hq
  · intro hq
    exact ⟨1, _, _, ⟨_, _, hd, rfl, idx, c, rfl, hc, Or.inr ⟨ho, h1, h2, by show 0 ≤ 4; omega, d3, by rw [hic]; exact d4, d7, rfl, rfl, rfl⟩⟩, hq⟩
theorem ev_end {i : Instr} {v : Option Value} (hd : decode M.2.1 pc = .ok (i, 1)) (hl : lenOk i 1) (hi : icls i = 1) (h : endF M.2.2.2.1 i st = some v) : Ev d M hs pc l st T Q ↔ Q (.inl v) T := by
  constructor
  · rintro ⟨n, out, T', h9, hq⟩
    cases n with
    | zero => cases h9
    | succ n =>
      obtain ⟨i9, len9, hd9, -, h9⟩ := h9
      cases hd.symm.trans hd9
      rw [hi] at h9
      obtain ⟨v9, h1, rfl, rfl⟩ := h9
      cases h.symm.trans h1
      exact hq
  · intro hq
    refine ⟨1, _, _, ⟨_, _, hd, hl, ?_⟩, hq⟩
    rw [hi]
    exact ⟨v, h, rfl, rfl⟩
theorem ev_iret {x : Int32} (hr : M.2.2.2.1 = some .int) (hd : decode M.2.1 pc = .ok (.ireturn, 1)) : Ev d M hs pc l [.int x] T Q ↔ Q (.inl (some (.int x))) T := ev_end hd rfl rfl (by simp [endF, hr])
theorem ev_zret {x : Int32} (hr : M.2.2.2.1 = some .boolean) (hx : x = 0 ∨ x = 1) (hd : decode M.2.1 pc = .ok (.ireturn, 1)) : Ev d M hs pc l [.int x] T Q ↔ Q (.inl (some (.int x))) T := ev_end hd rfl rfl (by simp [endF, hr, hx])
theorem ev_aret {x : Nat} (hr : rtRef M.2.2.2.1 = true) (hd : decode M.2.1 pc = .ok (.areturn, 1)) : Ev d M hs pc l [.ref x] T Q ↔ Q (.inl (some (.ref x))) T := ev_end hd rfl rfl (by simp [endF, hr])
theorem ev_aretN (hr : rtRef M.2.2.2.1 = true) (hd : decode M.2.1 pc = .ok (.areturn, 1)) : Ev d M hs pc l [.null] T Q ↔ Q (.inl (some .null)) T := ev_end hd rfl rfl (by simp [endF, hr])
theorem ev_dret {x : UInt64} (hr : M.2.2.2.1 = some .double) (hd : decode M.2.1 pc = .ok (.dreturn, 1)) : Ev d M hs pc l [.double x] T Q ↔ Q (.inl (some (.double x))) T := ev_end hd rfl rfl (by simp [endF, hr])
theorem ev_vret (hr : M.2.2.2.1 = none) (hd : decode M.2.1 pc = .ok (.return_, 1)) : Ev d M hs pc l [] T Q ↔ Q (.inl none) T := ev_end hd rfl rfl (by simp [endF, hr])
theorem ev_objInit {a idx mid : Nat} (hc : callOf M.2.2.2.2.1 idx = some (4, mid)) (hd : decode M.2.1 pc = .ok (.invokespecial idx, 3)) (hp : pc + 3 = pc') : Ev d M hs pc l [.ref a] T Q ↔ Ev d M hs pc' l [] T Q := by
  subst hp
  constructor
  · rintro ⟨n, out, T', h, hq⟩
    cases n with
    | zero => cases h
    | succ n =>
      obtain ⟨i9, len9, hd9, -, h⟩ := h
      cases hd.symm.trans hd9
      obtain ⟨idx9, k9, mid9, hi9, hc9, -, -, h⟩ := h
      cases hi9
      cases hc.symm.trans hc9
      obtain ⟨a9, st9, e9, -, h⟩ := h
      cases e9
      exact ⟨n, out, T', h, hq⟩
  · rintro ⟨n, out, T', h, hq⟩
    exact ⟨n + 1, out, T', ⟨_, _, hd, rfl, idx, 4, mid, rfl, hc, Or.inr rfl, by omega, a, [], rfl, by show 0 ≤ 4; omega, h⟩, hq⟩
theorem ev_min {x y : Int32} {idx mid : Nat} (h4 : st.length ≤ 4) (hc : callOf M.2.2.2.2.1 idx = some (5, mid)) (hd : decode M.2.1 pc = .ok (.invokestatic idx, 3)) (hp : pc + 3 = pc') : Ev d M hs pc l (.int y :: .int x :: st) T Q ↔ Ev d M hs pc' l (.int (if y < x then y else x) :: st) T Q := by
  subst hp
  constructor
  · rintro ⟨n, out, T', h, hq⟩
    cases n with
    | zero => cases h
    | succ n =>
      obtain ⟨i9, len9, hd9, -, h⟩ := h
      cases hd.symm.trans hd9
      obtain ⟨idx9, k9, mid9, hi9, hc9, -, -, h⟩ := h
      cases hi9
      cases hc.symm.trans hc9
      obtain ⟨x9, y9, st9, e9, -, h⟩ := h
      cases e9
      exact ⟨n, out, T', h, hq⟩
  · rintro ⟨n, out, T', h, hq⟩
    exact ⟨n + 1, out, T', ⟨_, _, hd, rfl, idx, 5, mid, rfl, hc, Or.inr (Or.inr rfl), by omega, x, y, st, rfl, h4, h⟩, hq⟩
/-- behind a call -/
def evR (d : Nat) (M : MI) (hs : Hn) (pc pc' : Nat) (l : Loc0) (st : List Value) (Q : Post) : Post := fun r T1 => match r with
  | .inl (some v) => Ev d M hs pc' l (v :: st) T1 Q
  | .inl none => Ev d M hs pc' l st T1 Q
  | .inr x => match hnd hs pc x with
    | none => Q (.inr x) T1
    | some h => ∃ k9 : Nat, k9 < M.2.2.1 ∧ (((∃ q : Fin 4, k9 = q ∧ decode M.2.1 h = .ok (.astore_n q, 1)) ∧ Ev d M hs (h + 1) (ldel l k9) [] T1 Q) ∨ (decode M.2.1 h = .ok (.astore k9, 2) ∧ Ev d M hs (h + 2) (ldel l k9) [] T1 Q))
theorem ev_call {i : Instr} {idx k mid : Nat} {M' : MI} {As st' st2 : List Value} (hd : decode M.2.1 pc = .ok (i, 3)) (hl : lenOk i 3) (hi : icls i = 2) (hx : cixOf i = some idx) (hc : callOf M.2.2.2.2.1 idx = some (k, mid)) (hs9 : csort i k) (hk : k ≤ 3) (hM : mth mid = some M') (hp : popN M'.2.2.2.2.2.2 st = some (As, st')) (hv : if M'.2.2.2.2.2.1 then st2 = st' else ∃ a, st' = .ref a :: st2 ∧ (k = 3 ∨ tK T a = M'.2.2.2.2.1 + 1 ∨ (tK T a = 23 ∧ M'.2.2.2.2.1 = 0))) (h4 : st2.length ≤ 4) (h : CallQ d mid (if M'.2.2.2.2.2.1 then As else st'.take 1 ++ As) T (evR d M hs pc (pc + 3) l st2 Q)) : Ev d M hs pc l st T Q := by
  have key : ∀ (r : Out) (T1 : TS), Call d mid (if M'.2.2.2.2.2.1 then As else st'.take 1 ++ As) T r T1 → ∀ (n : Nat) (out : Out) (T' : TS), (match r with
            | .inl v => run (Call d) M hs n (pc + 3) l (v.toList ++ st2) T1 out T'
            | .inr x => match hnd hs pc x with
              | none => out = .inr x ∧ T' = T1
              | some h => ∃ k9 : Nat, k9 < M.2.2.1 ∧ (((∃ q : Fin 4, k9 = q ∧ decode M.2.1 h = .ok (.astore_n q, 1)) ∧ run (Call d) M hs n (h + 1) (ldel l k9) [] T1 out T') ∨ (decode M.2.1 h = .ok (.astore k9, 2) ∧ run (Call d) M hs n (h + 2) (ldel l k9) [] T1 out T'))) → Q out T' → Ev d M hs pc l st T Q := by
    intro r T1 hcall n out T' h hq
    refine ⟨n + 1, out, T', ⟨i, 3, hd, hl, ?_⟩, hq⟩
    rw [hi]
    refine ⟨idx, k, mid, hx, hc, hs9, by omega, ?_⟩
    match k, hk with
    | 0, _ => exact ⟨M', As, st', st2, r, T1, hM, hp, hv, h4, hcall, h⟩
    | 1, _ => exact ⟨M', As, st', st2, r, T1, hM, hp, hv, h4, hcall, h⟩
    | 2, _ => exact ⟨M', As, st', st2, r, T1, hM, hp, hv, h4, hcall, h⟩
    | 3, _ => exact ⟨M', As, st', st2, r, T1, hM, hp, hv, h4, hcall, h⟩
  obtain ⟨r, T1, hcall, hr⟩ := h
  have key := key r T1 hcall
  cases r with
  | inl v =>
    cases v with
    | none =>
      obtain ⟨n, out, T', h, hq⟩ := hr
      exact key n out T' h hq
    | some v =>
      obtain ⟨n, out, T', h, hq⟩ := hr
      exact key n out T' h hq
  | inr x =>
    unfold evR at hr
    simp only at hr key
    split at hr
    · rename_i hh
      exact key 0 (.inr x) T1 (by rw [hh]; exact ⟨rfl, rfl⟩) hr
    · rename_i h9 hh
      obtain ⟨k9, hk9, ⟨ha, n, out, T', h, hq⟩ | ⟨ha, n, out, T', h, hq⟩⟩ := hr
      · exact key n out T' (by rw [hh]; exact ⟨k9, hk9, Or.inl ⟨ha, h⟩⟩) hq
      · exact key n out T' (by rw [hh]; exact ⟨k9, hk9, Or.inr ⟨ha, h⟩⟩) hq
/-- what a call wants of its receiver -/
theorem ev_call_iff {i : Instr} {idx k mid : Nat} {M' : MI} {As st' : List Value} (hd : decode M.2.1 pc = .ok (i, 3)) (hl : lenOk i 3) (hi : icls i = 2) (hx : cixOf i = some idx) (hc : callOf M.2.2.2.2.1 idx = some (k, mid)) (hs9 : csort i k) (hk : k ≤ 3) (hM : mth mid = some M') (hp : popN M'.2.2.2.2.2.2 st = some (As, st')) : Ev d M hs pc l st T Q ↔ ∃ st2, (if M'.2.2.2.2.2.1 then st2 = st' else ∃ a, st' = .ref a :: st2 ∧ (k = 3 ∨ tK T a = M'.2.2.2.2.1 + 1 ∨ (tK T a = 23 ∧ M'.2.2.2.2.1 = 0))) ∧ st2.length ≤ 4 ∧ CallQ d mid (if M'.2.2.2.2.2.1 then As else st'.take 1 ++ As) T (evR d M hs pc (pc + 3) l st2 Q) := by
  constructor
  · rintro ⟨n, out, T', h, hq⟩
    cases n with
    | zero => cases h
    | succ n =>
      obtain ⟨i9, len9, hd9, -, h⟩ := h
      cases hd.symm.trans hd9
      rw [hi] at h
      obtain ⟨idx9, k9, mid9, hi9, hc9, -, -, h⟩ := h
      cases hx.symm.trans hi9
      cases hc.symm.trans hc9
      have h : ∃ M' As st' st2 r T1, mth mid = some M' ∧ popN M'.2.2.2.2.2.2 st = some (As, st') ∧
            (if M'.2.2.2.2.2.1 then st2 = st' else ∃ a, st' = .ref a :: st2 ∧ (k = 3 ∨ tK T a = M'.2.2.2.2.1 + 1 ∨ (tK T a = 23 ∧ M'.2.2.2.2.1 = 0))) ∧ st2.length ≤ 4 ∧
            Call d mid (if M'.2.2.2.2.2.1 then As else st'.take 1 ++ As) T r T1 ∧
            match r with
            | .inl v => run (Call d) M hs n (pc + 3) l (v.toList ++ st2) T1 out T'
            | .inr x => match hnd hs pc x with
              | none => out = .inr x ∧ T' = T1
              | some h => ∃ k9 : Nat, k9 < M.2.2.1 ∧ (((∃ q : Fin 4, k9 = q ∧ decode M.2.1 h = .ok (.astore_n q, 1)) ∧ run (Call d) M hs n (h + 1) (ldel l k9) [] T1 out T') ∨ (decode M.2.1 h = .ok (.astore k9, 2) ∧ run (Call d) M hs n (h + 2) (ldel l k9) [] T1 out T')) := by
        match k, hk, h with
        | 0, _, h => exact h
        | 1, _, h => exact h
        | 2, _, h => exact h
        | 3, _, h => exact h
      obtain ⟨M9, As9, st9, st2, r, T1, hM9, hp9, hv, h4, hcall, h⟩ := h
      cases hM.symm.trans hM9
      cases hp.symm.trans hp9
      refine ⟨st2, hv, h4, r, T1, hcall, ?_⟩
      cases r with
      | inl v =>
        cases v with
        | none => exact ⟨n, out, T', h, hq⟩
        | some v => exact ⟨n, out, T', h, hq⟩
      | inr x =>
        unfold evR
        simp only at h ⊢
        split at h
        · rename_i hh
          obtain ⟨rfl, rfl⟩ := h
          exact hq
        · rename_i h9 hh
          obtain ⟨k9, hk9, ⟨ha, h⟩ | ⟨ha, h⟩⟩ := h
          · exact ⟨k9, hk9, Or.inl ⟨ha, n, out, T', h, hq⟩⟩
          · exact ⟨k9, hk9, Or.inr ⟨ha, n, out, T', h, hq⟩⟩
  · rintro ⟨st2, hv, h4, h⟩
    exact ev_call hd hl hi hx hc hs9 hk hM hp hv h4 h
theorem ev_cV {idx mid kk : Nat} {M' : MI} {As st2 : List Value} {a : Nat} (hd : decode M.2.1 pc = .ok (.invokevirtual idx, 3)) (hc : callOf M.2.2.2.2.1 idx = some (0, mid)) (hM : mth mid = some M') (hst : M'.2.2.2.2.2.1 = false) (ho : M'.2.2.2.2.1 + 1 = kk) (h1 : 1 < kk) (hp : popN M'.2.2.2.2.2.2 st = some (As, .ref a :: st2)) (h4 : st2.length ≤ 4) (hp' : pc + 3 = pc') : Ev d M hs pc l st T Q ↔ (tK T a = kk) ∧ CallQ d mid (.ref a :: As) T (evR d M hs pc pc' l st2 Q) := by
  subst hp'; subst ho
  rw [ev_call_iff hd rfl rfl rfl hc rfl (by omega) hM hp, hst]
  simp only [Bool.false_eq_true, if_false]
  constructor
  · rintro ⟨st3, ⟨a9, e9, hz⟩, h4, h⟩
    cases e9
    rcases hz with hz | hz | ⟨-, hz⟩
    · cases hz
    · exact ⟨hz, h⟩
    · omega
  · rintro ⟨hz, h⟩
    exact ⟨st2, ⟨a, rfl, Or.inr (Or.inl hz)⟩, h4, h⟩
theorem ev_cL {idx mid : Nat} {M' : MI} {As st2 : List Value} {a : Nat} (hd : decode M.2.1 pc = .ok (.invokevirtual idx, 3)) (hc : callOf M.2.2.2.2.1 idx = some (0, mid)) (hM : mth mid = some M') (hst : M'.2.2.2.2.2.1 = false) (ho : M'.2.2.2.2.1 = 0) (hp : popN M'.2.2.2.2.2.2 st = some (As, .ref a :: st2)) (h4 : st2.length ≤ 4) (hp' : pc + 3 = pc') : Ev d M hs pc l st T Q ↔ (tK T a = 1 ∨ tK T a = 23) ∧ CallQ d mid (.ref a :: As) T (evR d M hs pc pc' l st2 Q) := by
  subst hp'
  rw [ev_call_iff hd rfl rfl rfl hc rfl (by omega) hM hp, hst, ho]
  simp only [Bool.false_eq_true, if_false]
  constructor
  · rintro ⟨st3, ⟨a9, e9, hz⟩, h4, h⟩
    cases e9
    rcases hz with hz | hz | ⟨hz, -⟩
    · cases hz
    · exact ⟨Or.inl hz, h⟩
    · exact ⟨Or.inr hz, h⟩
  · rintro ⟨hz, h⟩
    refine ⟨st2, ⟨a, rfl, Or.inr ?_⟩, h4, h⟩
    rcases hz with hz | hz
    · exact Or.inl hz
    · exact Or.inr ⟨hz, by trivial⟩
theorem ev_cI {idx mid : Nat} {M' : MI} {As st2 : List Value} {a : Nat} (hd : decode M.2.1 pc = .ok (.invokespecial idx, 3)) (hc : callOf M.2.2.2.2.1 idx = some (3, mid)) (hM : mth mid = some M') (hst : M'.2.2.2.2.2.1 = false) (hp : popN M'.2.2.2.2.2.2 st = some (As, .ref a :: st2)) (h4 : st2.length ≤ 4) (hp' : pc + 3 = pc') : Ev d M hs pc l st T Q ↔ CallQ d mid (.ref a :: As) T (evR d M hs pc pc' l st2 Q) := by
  subst hp'
  rw [ev_call_iff hd rfl rfl rfl hc (Or.inl rfl) (by omega) hM hp, hst]
  simp only [Bool.false_eq_true, if_false]
  constructor
  · rintro ⟨st3, ⟨a9, e9, hz⟩, h4, h⟩
    cases e9
    exact h
  · intro h
    exact ⟨st2, ⟨a, rfl, Or.inl trivial⟩, h4, h⟩
theorem ev_cS {idx k mid : Nat} {M' : MI} {As st2 : List Value} (hd : decode M.2.1 pc = .ok (.invokestatic idx, 3)) (hc : callOf M.2.2.2.2.1 idx = some (k, mid)) (hk : k = 1 ∨ k = 2) (hM : mth mid = some M') (hst : M'.2.2.2.2.2.1 = true) (hp : popN M'.2.2.2.2.2.2 st = some (As, st2)) (h4 : st2.length ≤ 4) (hp' : pc + 3 = pc') : Ev d M hs pc l st T Q ↔ CallQ d mid As T (evR d M hs pc pc' l st2 Q) := by
  subst hp'
  rw [ev_call_iff hd rfl rfl rfl hc (hk.elim Or.inl (fun h => Or.inr (Or.inl h))) (by omega) hM hp, hst]
  simp only [if_true]
  constructor
  · rintro ⟨st3, rfl, h4, h⟩
    exact h
  · intro h
    exact ⟨st2, rfl, h4, h⟩
theorem evR_v {v : Value} {T1 : TS} : evR d M hs pc pc' l st Q (.inl (some v)) T1 ↔ Ev d M hs pc' l (v :: st) T1 Q := Iff.rfl
theorem evR_0 {T1 : TS} : evR d M hs pc pc' l st Q (.inl none) T1 ↔ Ev d M hs pc' l st T1 Q := Iff.rfl
theorem evR_x {x : Nat} {T1 : TS} : evR d M [] pc pc' l st Q (.inr x) T1 ↔ Q (.inr x) T1 := Iff.rfl
theorem ev_len {i : Instr} {idx k mid a : Nat} {M' : MI} {As st' st2 : List Value} (hd : decode M.2.1 pc = .ok (i, 3)) (hl : lenOk i 3) (hi : icls i = 2) (hx : cixOf i = some idx) (hc : callOf M.2.2.2.2.1 idx = some (k, mid)) (hs9 : csort i k) (hk : k ≤ 3) (hM : mth mid = some M') (hp : popN M'.2.2.2.2.2.2 st = some (As, st')) (hst : M'.2.2.2.2.2.1 = false ∧ st' = .ref a :: st2) (h : Ev d M hs pc l st T Q) : st2.length ≤ 4 := by
  obtain ⟨st3, hv, h4, -⟩ := (ev_call_iff hd hl hi hx hc hs9 hk hM hp).mp h
  obtain ⟨hst, rfl⟩ := hst
  rw [hst] at hv
  simp only [Bool.false_eq_true, if_false] at hv
  obtain ⟨a9, e9, -⟩ := hv
  cases e9
  exact h4
theorem ev_lenS {i : Instr} {idx k mid : Nat} {M' : MI} {As st' : List Value} (hd : decode M.2.1 pc = .ok (i, 3)) (hl : lenOk i 3) (hi : icls i = 2) (hx : cixOf i = some idx) (hc : callOf M.2.2.2.2.1 idx = some (k, mid)) (hs9 : csort i k) (hk : k ≤ 3) (hM : mth mid = some M') (hp : popN M'.2.2.2.2.2.2 st = some (As, st')) (hst : M'.2.2.2.2.2.1 = true) (h : Ev d M hs pc l st T Q) : st'.length ≤ 4 := by
  obtain ⟨st3, hv, h4, -⟩ := (ev_call_iff hd hl hi hx hc hs9 hk hM hp).mp h
  rw [hst] at hv
  simp only [if_true] at hv
  subst hv
  exact h4
theorem ev_cV0 {idx mid kk : Nat} {M' : MI} {st2 : List Value} {a : Nat} (hd : decode M.2.1 pc = .ok (.invokevirtual idx, 3)) (hc : callOf M.2.2.2.2.1 idx = some (0, mid)) (hM : mth mid = some M') (hst : M'.2.2.2.2.2.1 = false) (ho : M'.2.2.2.2.1 + 1 = kk) (h1 : 1 < kk) (hn : M'.2.2.2.2.2.2 = 0) (hp' : pc + 3 = pc') : Ev d M hs pc l (.ref a :: st2) T Q ↔ (tK T a = kk) ∧ st2.length ≤ 4 ∧ CallQ d mid (.ref a :: []) T (evR d M hs pc pc' l st2 Q) := by
  constructor
  · intro h
    have h4 := ev_len hd rfl rfl rfl hc rfl (by omega) hM (As := []) (st' := .ref a :: st2) (by rw [hn]; rfl) ⟨hst, rfl⟩ h
    have h9 := (ev_cV hd hc hM hst ho h1 (As := []) (by rw [hn]; rfl) h4 hp').mp h
    exact ⟨h9.1, h4, h9.2⟩
  · rintro ⟨h2, h4, h3⟩
    exact (ev_cV hd hc hM hst ho h1 (by rw [hn]; rfl) h4 hp').mpr ⟨h2, h3⟩
theorem ev_cL0 {idx mid : Nat} {M' : MI} {st2 : List Value} {a : Nat} (hd : decode M.2.1 pc = .ok (.invokevirtual idx, 3)) (hc : callOf M.2.2.2.2.1 idx = some (0, mid)) (hM : mth mid = some M') (hst : M'.2.2.2.2.2.1 = false) (ho : M'.2.2.2.2.1 = 0) (hn : M'.2.2.2.2.2.2 = 0) (hp' : pc + 3 = pc') : Ev d M hs pc l (.ref a :: st2) T Q ↔ (tK T a = 1 ∨ tK T a = 23) ∧ st2.length ≤ 4 ∧ CallQ d mid (.ref a :: []) T (evR d M hs pc pc' l st2 Q) := by
  constructor
  · intro h
    have h4 := ev_len hd rfl rfl rfl hc rfl (by omega) hM (As := []) (st' := .ref a :: st2) (by rw [hn]; rfl) ⟨hst, rfl⟩ h
    have h9 := (ev_cL hd hc hM hst ho (As := []) (by rw [hn]; rfl) h4 hp').mp h
    exact ⟨h9.1, h4, h9.2⟩
  · rintro ⟨h2, h4, h3⟩
    exact (ev_cL hd hc hM hst ho (by rw [hn]; rfl) h4 hp').mpr ⟨h2, h3⟩
theorem ev_cI0 {idx mid : Nat} {M' : MI} {st2 : List Value} {a : Nat} (hd : decode M.2.1 pc = .ok (.invokespecial idx, 3)) (hc : callOf M.2.2.2.2.1 idx = some (3, mid)) (hM : mth mid = some M') (hst : M'.2.2.2.2.2.1 = false) (hn : M'.2.2.2.2.2.2 = 0) (hp' : pc + 3 = pc') : Ev d M hs pc l (.ref a :: st2) T Q ↔ st2.length ≤ 4 ∧ CallQ d mid (.ref a :: []) T (evR d M hs pc pc' l st2 Q) := by
  constructor
  · intro h
    have h4 := ev_len hd rfl rfl rfl hc (Or.inl rfl) (by omega) hM (As := []) (st' := .ref a :: st2) (by rw [hn]; rfl) ⟨hst, rfl⟩ h
    exact ⟨h4, (ev_cI hd hc hM hst (As := []) (by rw [hn]; rfl) h4 hp').mp h⟩
  · rintro ⟨h4, h3⟩
    exact (ev_cI hd hc hM hst (by rw [hn]; rfl) h4 hp').mpr h3
theorem ev_cV1 {idx mid kk : Nat} {M' : MI} {st2 : List Value} {a : Nat} {w1 : Value} (hd : decode M.2.1 pc = .ok (.invokevirtual idx, 3)) (hc : callOf M.2.2.2.2.1 idx = some (0, mid)) (hM : mth mid = some M') (hst : M'.2.2.2.2.2.1 = false) (ho : M'.2.2.2.2.1 + 1 = kk) (h1 : 1 < kk) (hn : M'.2.2.2.2.2.2 = 1) (hp' : pc + 3 = pc') : Ev d M hs pc l (w1 :: .ref a :: st2) T Q ↔ (tK T a = kk) ∧ st2.length ≤ 4 ∧ CallQ d mid (.ref a :: [w1]) T (evR d M hs pc pc' l st2 Q) := by
  constructor
  · intro h
    have h4 := ev_len hd rfl rfl rfl hc rfl (by omega) hM (As := [w1]) (st' := .ref a :: st2) (by rw [hn]; rfl) ⟨hst, rfl⟩ h
    have h9 := (ev_cV hd hc hM hst ho h1 (As := [w1]) (by rw [hn]; rfl) h4 hp').mp h
    exact ⟨h9.1, h4, h9.2⟩
  · rintro ⟨h2, h4, h3⟩
    exact (ev_cV hd hc hM hst ho h1 (by rw [hn]; rfl) h4 hp').mpr ⟨h2, h3⟩
theorem ev_cL1 {idx mid : Nat} {M' : MI} {st2 : List Value} {a : Nat} {w1 : Value} (hd : decode M.2.1 pc = .ok (.invokevirtual idx, 3)) (hc : callOf M.2.2.2.2.1 idx = some (0, mid)) (hM : mth mid = some M') (hst : M'.2.2.2.2.2.1 = false) (ho : M'.2.2.2.2.1 = 0) (hn : M'.2.2.2.2.2.2 = 1) (hp' : pc + 3 = pc') : Ev d M hs pc l (w1 :: .ref a :: st2) T Q ↔ (tK T a = 1 ∨ tK T a = 23) ∧ st2.length ≤ 4 ∧ CallQ d mid (.ref a :: [w1]) T (evR d M hs pc pc' l st2 Q) := by
  constructor
  · intro h
    have h4 := ev_len hd rfl rfl rfl hc rfl (by omega) hM (As := [w1]) (st' := .ref a :: st2) (by rw [hn]; rfl) ⟨hst, rfl⟩ h
    have h9 := (ev_cL hd hc hM hst ho (As := [w1]) (by rw [hn]; rfl) h4 hp').mp h
    exact ⟨h9.1, h4, h9.2⟩
  · rintro ⟨h2, h4, h3⟩
    exact (ev_cL hd hc hM hst ho (by rw [hn]; rfl) h4 hp').mpr ⟨h2, h3⟩
theorem ev_cI1 {idx mid : Nat} {M' : MI} {st2 : List Value} {a : Nat} {w1 : Value} (hd : decode M.2.1 pc = .ok (.invokespecial idx, 3)) (hc : callOf M.2.2.2.2.1 idx = some (3, mid)) (hM : mth mid = some M') (hst : M'.2.2.2.2.2.1 = false) (hn : M'.2.2.2.2.2.2 = 1) (hp' : pc + 3 = pc') : Ev d M hs pc l (w1 :: .ref a :: st2) T Q ↔ st2.length ≤ 4 ∧ CallQ d mid (.ref a :: [w1]) T (evR d M hs pc pc' l st2 Q) := by
  constructor
  · intro h
    have h4 := ev_len hd rfl rfl rfl hc (Or.inl rfl) (by omega) hM (As := [w1]) (st' := .ref a :: st2) (by rw [hn]; rfl) ⟨hst, rfl⟩ h
    exact ⟨h4, (ev_cI hd hc hM hst (As := [w1]) (by rw [hn]; rfl) h4 hp').mp h⟩
  · rintro ⟨h4, h3⟩
    exact (ev_cI hd hc hM hst (by rw [hn]; rfl) h4 hp').mpr h3
theorem ev_cS1 {idx k mid : Nat} {M' : MI} {st2 : List Value} {w1 : Value} (hd : decode M.2.1 pc = .ok (.invokestatic idx, 3)) (hc : callOf M.2.2.2.2.1 idx = some (k, mid)) (hk : k = 1 ∨ k = 2) (hM : mth mid = some M') (hst : M'.2.2.2.2.2.1 = true) (hn : M'.2.2.2.2.2.2 = 1) (hp' : pc + 3 = pc') : Ev d M hs pc l (w1 :: st2) T Q ↔ st2.length ≤ 4 ∧ CallQ d mid [w1] T (evR d M hs pc pc' l st2 Q) := by
  constructor
  · intro h
    have h4 := ev_lenS hd rfl rfl rfl hc (hk.elim Or.inl (fun h => Or.inr (Or.inl h))) (by omega) hM (As := [w1]) (st' := st2) (by rw [hn]; rfl) hst h
    exact ⟨h4, (ev_cS hd hc hk hM hst (As := [w1]) (by rw [hn]; rfl) h4 hp').mp h⟩
  · rintro ⟨h4, h3⟩
    exact (ev_cS hd hc hk hM hst (by rw [hn]; rfl) h4 hp').mpr h3
theorem ev_cV2 {idx mid kk : Nat} {M' : MI} {st2 : List Value} {a : Nat} {w1 w2 : Value} (hd : decode M.2.1 pc = .ok (.invokevirtual idx, 3)) (hc : callOf M.2.2.2.2.1 idx = some (0, mid)) (hM : mth mid = some M') (hst : M'.2.2.2.2.2.1 = false) (ho : M'.2.2.2.2.1 + 1 = kk) (h1 : 1 < kk) (hn : M'.2.2.2.2.2.2 = 2) (hp' : pc + 3 = pc') : Ev d M hs pc l (w2 :: w1 :: .ref a :: st2) T Q ↔ (tK T a = kk) ∧ st2.length ≤ 4 ∧ CallQ d mid (.ref a :: [w1, w2]) T (evR d M hs pc pc' l st2 Q) := by
  constructor
  · intro h
    have h4 := ev_len hd rfl rfl rfl hc rfl (by omega) hM (As := [w1, w2]) (st' := .ref a :: st2) (by rw [hn]; rfl) ⟨hst, rfl⟩ h
    have h9 := (ev_cV hd hc hM hst ho h1 (As := [w1, w2]) (by rw [hn]; rfl) h4 hp').mp h
    exact ⟨h9.1, h4, h9.2⟩
  · rintro ⟨h2, h4, h3⟩
    exact (ev_cV hd hc hM hst ho h1 (by rw [hn]; rfl) h4 hp').mpr ⟨h2, h3⟩
theorem ev_cL2 {idx mid : Nat} {M' : MI} {st2 : List Value} {a : Nat} {w1 w2 : Value} (hd : decode M.2.1 pc = .ok (.invokevirtual idx, 3)) (hc : callOf M.2.2.2.2.1 idx = some (0, mid)) (hM : mth mid = some M') (hst : M'.2.2.2.2.2.1 = false) (ho : M'.2.2.2.2.1 = 0) (hn : M'.2.2.2.2.2.2 = 2) (hp' : pc + 3 = pc') : Ev d M hs pc l (w2 :: w1 :: .ref a :: st2) T Q ↔ (tK T a = 1 ∨ tK T a = 23) ∧ st2.length ≤ 4 ∧ CallQ d mid (.ref a :: [w1, w2]) T (evR d M hs pc pc' l st2 Q) := by
  constructor
  · intro h
    have h4 := ev_len hd rfl rfl rfl hc rfl (by omega) hM (As := [w1, w2]) (st' := .ref a :: st2) (by rw [hn]; rfl) ⟨hst, rfl⟩ h
    have h9 := (ev_cL hd hc hM hst ho (As := [w1, w2]) (by rw [hn]; rfl) h4 hp').mp h
    exact ⟨h9.1, h4, h9.2⟩
  · rintro ⟨h2, h4, h3⟩
    exact (ev_cL hd hc hM hst ho (by rw [hn]; rfl) h4 hp').mpr ⟨h2, h3⟩
theorem ev_cI2 {idx mid : Nat} {M' : MI} {st2 : List Value} {a : Nat} {w1 w2 : Value} (hd : decode M.2.1 pc = .ok (.invokespecial idx, 3)) (hc : callOf M.2.2.2.2.1 idx = some (3, mid)) (hM : mth mid = some M') (hst : M'.2.2.2.2.2.1 = false) (hn : M'.2.2.2.2.2.2 = 2) (hp' : pc + 3 = pc') : Ev d M hs pc l (w2 :: w1 :: .ref a :: st2) T Q ↔ st2.length ≤ 4 ∧ CallQ d mid (.ref a :: [w1, w2]) T (evR d M hs pc pc' l st2 Q) := by
  constructor
  · intro h
    have h4 := ev_len hd rfl rfl rfl hc (Or.inl rfl) (by omega) hM (As := [w1, w2]) (st' := .ref a :: st2) (by rw [hn]; rfl) ⟨hst, rfl⟩ h
    exact ⟨h4, (ev_cI hd hc hM hst (As := [w1, w2]) (by rw [hn]; rfl) h4 hp').mp h⟩
  · rintro ⟨h4, h3⟩
    exact (ev_cI hd hc hM hst (by rw [hn]; rfl) h4 hp').mpr h3
theorem ev_cS2 {idx k mid : Nat} {M' : MI} {st2 : List Value} {w1 w2 : Value} (hd : decode M.2.1 pc = .ok (.invokestatic idx, 3)) (hc : callOf M.2.2.2.2.1 idx = some (k, mid)) (hk : k = 1 ∨ k = 2) (hM : mth mid = some M') (hst : M'.2.2.2.2.2.1 = true) (hn : M'.2.2.2.2.2.2 = 2) (hp' : pc + 3 = pc') : Ev d M hs pc l (w2 :: w1 :: st2) T Q ↔ st2.length ≤ 4 ∧ CallQ d mid [w1, w2] T (evR d M hs pc pc' l st2 Q) := by
  constructor
  · intro h
    have h4 := ev_lenS hd rfl rfl rfl hc (hk.elim Or.inl (fun h => Or.inr (Or.inl h))) (by omega) hM (As := [w1, w2]) (st' := st2) (by rw [hn]; rfl) hst h
    exact ⟨h4, (ev_cS hd hc hk hM hst (As := [w1, w2]) (by rw [hn]; rfl) h4 hp').mp h⟩
  · rintro ⟨h4, h3⟩
    exact (ev_cS hd hc hk hM hst (by rw [hn]; rfl) h4 hp').mpr h3
theorem ev_cV3 {idx mid kk : Nat} {M' : MI} {st2 : List Value} {a : Nat} {w1 w2 w3 : Value} (hd : decode M.2.1 pc = .ok (.invokevirtual idx, 3)) (hc : callOf M.2.2.2.2.1 idx = some (0, mid)) (hM : mth mid = some M') (hst : M'.2.2.2.2.2.1 = false) (ho : M'.2.2.2.2.1 + 1 = kk) (h1 : 1 < kk) (hn : M'.2.2.2.2.2.2 = 3) (hp' : pc + 3 = pc') : Ev d M hs pc l (w3 :: w2 :: w1 :: .ref a :: st2) T Q ↔ (tK T a = kk) ∧ st2.length ≤ 4 ∧ CallQ d mid (.ref a :: [w1, w2, w3]) T (evR d M hs pc pc' l st2 Q) := by
  constructor
  · intro h
    have h4 := ev_len hd rfl rfl rfl hc rfl (by omega) hM (As := [w1, w2, w3]) (st' := .ref a :: st2) (by rw [hn]; rfl) ⟨hst, rfl⟩ h
    have h9 := (ev_cV hd hc hM hst ho h1 (As := [w1, w2, w3]) (by rw [hn]; rfl) h4 hp').mp h
    exact ⟨h9.1, h4, h9.2⟩
  · rintro ⟨h2, h4, h3⟩
    exact (ev_cV hd hc hM hst ho h1 (by rw [hn]; rfl) h4 hp').mpr ⟨h2, h3⟩
theorem ev_cL3 {idx mid : Nat} {M' : MI} {st2 : List Value} {a : Nat} {w1 w2 w3 : Value} (hd : decode M.2.1 pc = .ok (.invokevirtual idx, 3)) (hc : callOf M.2.2.2.2.1 idx = some (0, mid)) (hM : mth mid = some M') (hst : M'.2.2.2.2.2.1 = false) (ho : M'.2.2.2.2.1 = 0) (hn : M'.2.2.2.2.2.2 = 3) (hp' : pc + 3 = pc') : Ev d M hs pc l (w3 :: w2 :: w1 :: .ref a :: st2) T Q ↔ (tK T a = 1 ∨ tK T a = 23) ∧ st2.length ≤ 4 ∧ CallQ d mid (.ref a :: [w1, w2, w3]) T (evR d M hs pc pc' l st2 Q) := by
  constructor
  · intro h
    have h4 := ev_len hd rfl rfl rfl hc rfl (by omega) hM (As := [w1, w2, w3]) (st' := .ref a :: st2) (by rw [hn]; rfl) ⟨hst, rfl⟩ h
    have h9 := (ev_cL hd hc hM hst ho (As := [w1, w2, w3]) (by rw [hn]; rfl) h4 hp').mp h
    exact ⟨h9.1, h4, h9.2⟩
  · rintro ⟨h2, h4, h3⟩
    exact (ev_cL hd hc hM hst ho (by rw [hn]; rfl) h4 hp').mpr ⟨h2, h3⟩
theorem ev_cI3 {idx mid : Nat} {M' : MI} {st2 : List Value} {a : Nat} {w1 w2 w3 : Value} (hd : decode M.2.1 pc = .ok (.invokespecial idx, 3)) (hc : callOf M.2.2.2.2.1 idx = some (3, mid)) (hM : mth mid = some M') (hst : M'.2.2.2.2.2.1 = false) (hn : M'.2.2.2.2.2.2 = 3) (hp' : pc + 3 = pc') : Ev d M hs pc l (w3 :: w2 :: w1 :: .ref a :: st2) T Q ↔ st2.length ≤ 4 ∧ CallQ d mid (.ref a :: [w1, w2, w3]) T (evR d M hs pc pc' l st2 Q) := by
  constructor
  · intro h
    have h4 := ev_len hd rfl rfl rfl hc (Or.inl rfl) (by omega) hM (As := [w1, w2, w3]) (st' := .ref a :: st2) (by rw [hn]; rfl) ⟨hst, rfl⟩ h
    exact ⟨h4, (ev_cI hd hc hM hst (As := [w1, w2, w3]) (by rw [hn]; rfl) h4 hp').mp h⟩
  · rintro ⟨h4, h3⟩
    exact (ev_cI hd hc hM hst (by rw [hn]; rfl) h4 hp').mpr h3
theorem ev_cS3 {idx k mid : Nat} {M' : MI} {st2 : List Value} {w1 w2 w3 : Value} (hd : decode M.2.1 pc = .ok (.invokestatic idx, 3)) (hc : callOf M.2.2.2.2.1 idx = some (k, mid)) (hk : k = 1 ∨ k = 2) (hM : mth mid = some M') (hst : M'.2.2.2.2.2.1 = true) (hn : M'.2.2.2.2.2.2 = 3) (hp' : pc + 3 = pc') : Ev d M hs pc l (w3 :: w2 :: w1 :: st2) T Q ↔ st2.length ≤ 4 ∧ CallQ d mid [w1, w2, w3] T (evR d M hs pc pc' l st2 Q) := by
  constructor
  · intro h
    have h4 := ev_lenS hd rfl rfl rfl hc (hk.elim Or.inl (fun h => Or.inr (Or.inl h))) (by omega) hM (As := [w1, w2, w3]) (st' := st2) (by rw [hn]; rfl) hst h
    exact ⟨h4, (ev_cS hd hc hk hM hst (As := [w1, w2, w3]) (by rw [hn]; rfl) h4 hp').mp h⟩
  · rintro ⟨h4, h3⟩
    exact (ev_cS hd hc hk hM hst (by rw [hn]; rfl) h4 hp').mpr h3
theorem ev_cV4 {idx mid kk : Nat} {M' : MI} {st2 : List Value} {a : Nat} {w1 w2 w3 w4 : Value} (hd : decode M.2.1 pc = .ok (.invokevirtual idx, 3)) (hc : callOf M.2.2.2.2.1 idx = some (0, mid)) (hM : mth mid = some M') (hst : M'.2.2.2.2.2.1 = false) (ho : M'.2.2.2.2.1 + 1 = kk) (h1 : 1 < kk) (hn : M'.2.2.2.2.2.2 = 4) (hp' : pc + 3 = pc') : Ev d M hs pc l (w4 :: w3 :: w2 :: w1 :: .ref a :: st2) T Q ↔ (tK T a = kk) ∧ st2.length ≤ 4 ∧ CallQ d mid (.ref a :: [w1, w2, w3, w4]) T (evR d M hs pc pc' l st2 Q) := by
  constructor
  · intro h
    have h4 := ev_len hd rfl rfl rfl hc rfl (by omega) hM (As := [w1, w2, w3, w4]) (st' := .ref a :: st2) (by rw [hn]; rfl) ⟨hst, rfl⟩ h
    have h9 := (ev_cV hd hc hM hst ho h1 (As := [w1, w2, w3, w4]) (by rw [hn]; rfl) h4 hp').mp h
    exact ⟨h9.1, h4, h9.2⟩
  · rintro ⟨h2, h4, h3⟩
    exact (ev_cV hd hc hM hst ho h1 (by rw [hn]; rfl) h4 hp').mpr ⟨h2, h3⟩
theorem ev_cL4 {idx mid : Nat} {M' : MI} {st2 : List Value} {a : Nat} {w1 w2 w3 w4 : Value} (hd : decode M.2.1 pc = .ok (.invokevirtual idx, 3)) (hc : callOf M.2.2.2.2.1 idx = some (0, mid)) (hM : mth mid = some M') (hst : M'.2.2.2.2.2.1 = false) (ho : M'.2.2.2.2.1 = 0) (hn : M'.2.2.2.2.2.2 = 4) (hp' : pc + 3 = pc') : Ev d M hs pc l (w4 :: w3 :: w2 :: w1 :: .ref a :: st2) T Q ↔ (tK T a = 1 ∨ tK T a = 23) ∧ st2.length ≤ 4 ∧ CallQ d mid (.ref a :: [w1, w2, w3, w4]) T (evR d M hs pc pc' l st2 Q) := by
  constructor
  · intro h
    have h4 := ev_len hd rfl rfl rfl hc rfl (by omega) hM (As := [w1, w2, w3, w4]) (st' := .ref a :: st2) (by rw [hn]; rfl) ⟨hst, rfl⟩ h
    have h9 := (ev_cL hd hc hM hst ho (As := [w1, w2, w3, w4]) (by rw [hn]; rfl) h4 hp').mp h
    exact ⟨h9.1, h4, h9.2⟩
  · rintro ⟨h2, h4, h3⟩
    exact (ev_cL hd hc hM hst ho (by rw [hn]; rfl) h4 hp').mpr ⟨h2, h3⟩
theorem ev_cI4 {idx mid : Nat} {M' : MI} {st2 : List Value} {a : Nat} {w1 w2 w3 w4 : Value} (hd : decode M.2.1 pc = .ok (.invokespecial idx, 3)) (hc : callOf M.2.2.2.2.1 idx = some (3, mid)) (hM : mth mid = some M') (hst : M'.2.2.2.2.2.1 = false) (hn : M'.2.2.2.2.2.2 = 4) (hp' : pc + 3 = pc') : Ev d M hs pc l (w4 :: w3 :: w2 :: w1 :: .ref a :: st2) T Q ↔ st2.length ≤ 4 ∧ CallQ d mid (.ref a :: [w1, w2, w3, w4]) T (evR d M hs pc pc' l st2 Q) := by
  constructor
  · intro h
    have h4 := ev_len hd rfl rfl rfl hc (Or.inl rfl) (by omega) hM (As := [w1, w2, w3, w4]) (st' := .ref a :: st2) (by rw [hn]; rfl) ⟨hst, rfl⟩ h
    exact ⟨h4, (ev_cI hd hc hM hst (As := [w1, w2, w3, w4]) (by rw [hn]; rfl) h4 hp').mp h⟩
  · rintro ⟨h4, h3⟩
    exact (ev_cI hd hc hM hst (by rw [hn]; rfl) h4 hp').mpr h3
theorem ev_cS4 {idx k mid : Nat} {M' : MI} {st2 : List Value} {w1 w2 w3 w4 : Value} (hd : decode M.2.1 pc = .ok (.invokestatic idx, 3)) (hc : callOf M.2.2.2.2.1 idx = some (k, mid)) (hk : k = 1 ∨ k = 2) (hM : mth mid = some M') (hst : M'.2.2.2.2.2.1 = true) (hn : M'.2.2.2.2.2.2 = 4) (hp' : pc + 3 = pc') : Ev d M hs pc l (w4 :: w3 :: w2 :: w1 :: st2) T Q ↔ st2.length ≤ 4 ∧ CallQ d mid [w1, w2, w3, w4] T (evR d M hs pc pc' l st2 Q) := by
  constructor
  · intro h
    have h4 := ev_lenS hd rfl rfl rfl hc (hk.elim Or.inl (fun h => Or.inr (Or.inl h))) (by omega) hM (As := [w1, w2, w3, w4]) (st' := st2) (by rw [hn]; rfl) hst h
    exact ⟨h4, (ev_cS hd hc hk hM hst (As := [w1, w2, w3, w4]) (by rw [hn]; rfl) h4 hp').mp h⟩
  · rintro ⟨h4, h3⟩
    exact (ev_cS hd hc hk hM hst (by rw [hn]; rfl) h4 hp').mpr h3
theorem ev_cV5 {idx mid kk : Nat} {M' : MI} {st2 : List Value} {a : Nat} {w1 w2 w3 w4 w5 : Value} (hd : decode M.2.1 pc = .ok (.invokevirtual idx, 3)) (hc : callOf M.2.2.2.2.1 idx = some (0, mid)) (hM : mth mid = some M') (hst : M'.2.2.2.2.2.1 = false) (ho : M'.2.2.2.2.1 + 1 = kk) (h1 : 1 < kk) (hn : M'.2.2.2.2.2.2 = 5) (hp' : pc + 3 = pc') : Ev d M hs pc l (w5 :: w4 :: w3 :: w2 :: w1 :: .ref a :: st2) T Q ↔ (tK T a = kk) ∧ st2.length ≤ 4 ∧ CallQ d mid (.ref a :: [w1, w2, w3, w4, w5]) T (evR d M hs pc pc' l st2 Q) := by
  constructor
  · intro h
    have h4 := ev_len hd rfl rfl rfl hc rfl (by omega) hM (As := [w1, w2, w3, w4, w5]) (st' := .ref a :: st2) (by rw [hn]; rfl) ⟨hst, rfl⟩ h
    have h9 := (ev_cV hd hc hM hst ho h1 (As := [w1, w2, w3, w4, w5]) (by rw [hn]; rfl) h4 hp').mp h
    exact ⟨h9.1, h4, h9.2⟩
  · rintro ⟨h2, h4, h3⟩
    exact (ev_cV hd hc hM hst ho h1 (by rw [hn]; rfl) h4 hp').mpr ⟨h2, h3⟩
theorem ev_cL5 {idx mid : Nat} {M' : MI} {st2 : List Value} {a : Nat} {w1 w2 w3 w4 w5 : Value} (hd : decode M.2.1 pc = .ok (.invokevirtual idx, 3)) (hc : callOf M.2.2.2.2.1 idx = some (0, mid)) (hM : mth mid = some M') (hst : M'.2.2.2.2.2.1 = false) (ho : M'.2.2.2.2.1 = 0) (hn : M'.2.2.2.2.2.2 = 5) (hp' : pc + 3 = pc') : Ev d M hs pc l (w5 :: w4 :: w3 :: w2 :: w1 :: .ref a :: st2) T Q ↔ (tK T a = 1 ∨ tK T a = 23) ∧ st2.length ≤ 4 ∧ CallQ d mid (.ref a :: [w1, w2, w3, w4, w5]) T (evR d M hs pc pc' l st2 Q) := by
  constructor
  · intro h
    have h4 := ev_len hd rfl rfl rfl hc rfl (by omega) hM (As := [w1, w2, w3, w4, w5]) (st' := .ref a :: st2) (by rw [hn]; rfl) ⟨hst, rfl⟩ h
    have h9 := (ev_cL hd hc hM hst ho (As := [w1, w2, w3, w4, w5]) (by rw [hn]; rfl) h4 hp').mp h
    exact ⟨h9.1, h4, h9.2⟩
  · rintro ⟨h2, h4, h3⟩
    exact (ev_cL hd hc hM hst ho (by rw [hn]; rfl) h4 hp').mpr ⟨h2, h3⟩
theorem ev_cI5 {idx mid : Nat} {M' : MI} {st2 : List Value} {a : Nat} {w1 w2 w3 w4 w5 : Value} (hd : decode M.2.1 pc = .ok (.invokespecial idx, 3)) (hc : callOf M.2.2.2.2.1 idx = some (3, mid)) (hM : mth mid = some M') (hst : M'.2.2.2.2.2.1 = false) (hn : M'.2.2.2.2.2.2 = 5) (hp' : pc + 3 = pc') : Ev d M hs pc l (w5 :: w4 :: w3 :: w2 :: w1 :: .ref a :: st2) T Q ↔ st2.length ≤ 4 ∧ CallQ d mid (.ref a :: [w1, w2, w3, w4, w5]) T (evR d M hs pc pc' l st2 Q) := by
  constructor
  · intro h
    have h4 := ev_len hd rfl rfl rfl hc (Or.inl rfl) (by omega) hM (As := [w1, w2, w3, w4, w5]) (st' := .ref a :: st2) (by rw [hn]; rfl) ⟨hst, rfl⟩ h
    exact ⟨h4, (ev_cI hd hc hM hst (As := [w1, w2, w3, w4, w5]) (by rw [hn]; rfl) h4 hp').mp h⟩
  · rintro ⟨h4, h3⟩
    exact (ev_cI hd hc hM hst (by rw [hn]; rfl) h4 hp').mpr h3
theorem ev_cS5 {idx k mid : Nat} {M' : MI} {st2 : List Value} {w1 w2 w3 w4 w5 : Value} (hd : decode M.2.1 pc = .ok (.invokestatic idx, 3)) (hc : callOf M.2.2.2.2.1 idx = some (k, mid)) (hk : k = 1 ∨ k = 2) (hM : mth mid = some M') (hst : M'.2.2.2.2.2.1 = true) (hn : M'.2.2.2.2.2.2 = 5) (hp' : pc + 3 = pc') : Ev d M hs pc l (w5 :: w4 :: w3 :: w2 :: w1 :: st2) T Q ↔ st2.length ≤ 4 ∧ CallQ d mid [w1, w2, w3, w4, w5] T (evR d M hs pc pc' l st2 Q) := by
  constructor
  · intro h
    have h4 := ev_lenS hd rfl rfl rfl hc (hk.elim Or.inl (fun h => Or.inr (Or.inl h))) (by omega) hM (As := [w1, w2, w3, w4, w5]) (st' := st2) (by rw [hn]; rfl) hst h
    exact ⟨h4, (ev_cS hd hc hk hM hst (As := [w1, w2, w3, w4, w5]) (by rw [hn]; rfl) h4 hp').mp h⟩
  · rintro ⟨h4, h3⟩
    exact (ev_cS hd hc hk hM hst (by rw [hn]; rfl) h4 hp').mpr h3
theorem ev_cS6 {idx k mid : Nat} {M' : MI} {st2 : List Value} {w1 w2 w3 w4 w5 w6 : Value} (hd : decode M.2.1 pc = .ok (.invokestatic idx, 3)) (hc : callOf M.2.2.2.2.1 idx = some (k, mid)) (hk : k = 1 ∨ k = 2) (hM : mth mid = some M') (hst : M'.2.2.2.2.2.1 = true) (hn : M'.2.2.2.2.2.2 = 6) (hp' : pc + 3 = pc') : Ev d M hs pc l (w6 :: w5 :: w4 :: w3 :: w2 :: w1 :: st2) T Q ↔ st2.length ≤ 4 ∧ CallQ d mid [w1, w2, w3, w4, w5, w6] T (evR d M hs pc pc' l st2 Q) := by
  constructor
  · intro h
    have h4 := ev_lenS hd rfl rfl rfl hc (hk.elim Or.inl (fun h => Or.inr (Or.inl h))) (by omega) hM (As := [w1, w2, w3, w4, w5, w6]) (st' := st2) (by rw [hn]; rfl) hst h
    exact ⟨h4, (ev_cS hd hc hk hM hst (As := [w1, w2, w3, w4, w5, w6]) (by rw [hn]; rfl) h4 hp').mp h⟩
  · rintro ⟨h4, h3⟩
    exact (ev_cS hd hc hk hM hst (by rw [hn]; rfl) h4 hp').mpr h3
theorem ev_cS7 {idx k mid : Nat} {M' : MI} {st2 : List Value} {w1 w2 w3 w4 w5 w6 w7 : Value} (hd : decode M.2.1 pc = .ok (.invokestatic idx, 3)) (hc : callOf M.2.2.2.2.1 idx = some (k, mid)) (hk : k = 1 ∨ k = 2) (hM : mth mid = some M') (hst : M'.2.2.2.2.2.1 = true) (hn : M'.2.2.2.2.2.2 = 7) (hp' : pc + 3 = pc') : Ev d M hs pc l (w7 :: w6 :: w5 :: w4 :: w3 :: w2 :: w1 :: st2) T Q ↔ st2.length ≤ 4 ∧ CallQ d mid [w1, w2, w3, w4, w5, w6, w7] T (evR d M hs pc pc' l st2 Q) := by
  constructor
  · intro h
    have h4 := ev_lenS hd rfl rfl rfl hc (hk.elim Or.inl (fun h => Or.inr (Or.inl h))) (by omega) hM (As := [w1, w2, w3, w4, w5, w6, w7]) (st' := st2) (by rw [hn]; rfl) hst h
    exact ⟨h4, (ev_cS hd hc hk hM hst (As := [w1, w2, w3, w4, w5, w6, w7]) (by rw [hn]; rfl) h4 hp').mp h⟩
  · rintro ⟨h4, h3⟩
    exact (ev_cS hd hc hk hM hst (by rw [hn]; rfl) h4 hp').mpr h3
theorem ev_min1 {x y : Int32} {idx mid : Nat} (hc : callOf M.2.2.2.2.1 idx = some (5, mid)) (hd : decode M.2.1 pc = .ok (.invokestatic idx, 3)) (hp : pc + 3 = pc') : Ev d M hs pc l [.int y, .int x] T Q ↔ Ev d M hs pc' l [.int (if y < x then y else x)] T Q := ev_min (by show 0 ≤ 4; omega) hc hd hp
theorem ev_zret0 (hr : M.2.2.2.1 = some .boolean) (hd : decode M.2.1 pc = .ok (.ireturn, 1)) : Ev d M hs pc l [.int 0] T Q ↔ Q (.inl (some (.int 0))) T := ev_zret hr (Or.inl rfl) hd
theorem ev_zret1 (hr : M.2.2.2.1 = some .boolean) (hd : decode M.2.1 pc = .ok (.ireturn, 1)) : Ev d M hs pc l [.int 1] T Q ↔ Q (.inl (some (.int 1))) T := ev_zret hr (Or.inr rfl) hd
end EVS
theorem lst_no {mid : Nat} {As : List Value} {T T1 : TS} {r : Out} (h : 12 < mid) : ¬ lst mid As T r T1 := by
  intro h9
  unfold lst at h9
  split at h9 <;> first | omega | exact h9
theorem callQ_iff {d mid : Nat} {As : List Value} {T : TS} {Q : Post} (M : MI) (hM : mth mid = some M) (h12 : 12 < mid) (hl : (lg_sl As).length ≤ M.2.2.1) : CallQ (d + 1) mid As T Q ↔ Ev d M (lwH mid) 0 (lv_args 0 As) [] T Q := by
  constructor
  · rintro ⟨r, T1, h | ⟨-, M9, n, hM9, -, h⟩, hq⟩
    · exact (lst_no h12 h).elim
    · cases hM.symm.trans hM9
      exact ⟨n, r, T1, h, hq⟩
  · exact callQ_of M hM h12 hl
theorem callQ_size {d a : Nat} {T : TS} {Q : Post} : CallQ (d + 1) 3 [.ref a] T Q ↔ tK T a = 23 ∧ Q (.inl (some (.int (nI (tL T a).length)))) T := by
  constructor
  · rintro ⟨r, T1, h | ⟨h, -⟩, hq⟩
    · obtain ⟨a9, e, h1, rfl, rfl⟩ := h
      cases e
      exact ⟨h1, hq⟩
    · omega
  · rintro ⟨h1, hq⟩
    exact ⟨_, _, Or.inl ⟨a, rfl, h1, rfl, rfl⟩, hq⟩
theorem callQ_get {d a k b : Nat} {T : TS} {Q : Post} (h1 : tK T a = 23) (hk : k < 2 ^ 31) (hb : (tL T a)[k]? = some b) (hq : Q (.inl (some (.ref b))) T) : CallQ (d + 1) 5 [.ref a, .int (nI k)] T Q := ⟨_, _, Or.inl ⟨a, k, b, rfl, h1, hk, hb, rfl, rfl⟩, hq⟩
theorem callQ_add {d a b : Nat} {T : TS} {Q : Post} (h1 : tK T a = 23) (hb : 2 ≤ tK T b) (hb9 : tK T b ≤ 9) (hc : tc T a ≤ 100000) (hq : Q (.inl (some (.int 1))) (sL a (tL T a ++ [b]) (fit a T))) : CallQ (d + 1) 7 [.ref a, .ref b] T Q := ⟨_, _, Or.inl ⟨a, b, rfl, h1, hb, hb9, hc, rfl, rfl⟩, hq⟩
theorem callQ_addAt {d a k b : Nat} {T : TS} {Q : Post} (h1 : tK T a = 23) (hb : 2 ≤ tK T b) (hb9 : tK T b ≤ 9) (hc : tc T a ≤ 100000) (hk : k ≤ (tL T a).length) (hk2 : k < 2 ^ 31) (hq : Q (.inl none) (sL a ((tL T a).insertIdx k b) (fit a T))) : CallQ (d + 1) 8 [.ref a, .int (nI k), .ref b] T Q := ⟨_, _, Or.inl ⟨a, k, b, rfl, h1, hb, hb9, hc, hk, hk2, rfl, rfl⟩, hq⟩
theorem callQ_rem {d a k b : Nat} {T : TS} {Q : Post} (h1 : tK T a = 23) (hk : k < 2 ^ 31) (hb : (tL T a)[k]? = some b) (hq : Q (.inl (some (.ref b))) (sL a ((tL T a).eraseIdx k) T)) : CallQ (d + 1) 9 [.ref a, .int (nI k)] T Q := ⟨_, _, Or.inl ⟨a, k, b, rfl, h1, hk, hb, rfl, rfl⟩, hq⟩
theorem callQ_nl {d a : Nat} {T : TS} {Q : Post} (h1 : tK T a = 1) (h2 : tI T 0 a = 0) (h3 : tR T 1 a = none) (h4 : tI T 2 a = 0) (hq : Q (.inl none) (nL a T)) : CallQ (d + 1) 0 [.ref a] T Q := ⟨_, _, Or.inl ⟨a, rfl, h1, h2, h3, h4, rfl, rfl⟩, hq⟩
end
section
/-! a run's outcome is one: calls are functions -/
theorem lst_det {mid : Nat} {As : List Value} {T T1 T2 : TS} {r r' : Out} (h : lst mid As T r T1) (h' : lst mid As T r' T2) : r = r' ∧ T1 = T2 := by
  unfold lst at h h'
  split at h
  · obtain ⟨a, rfl, -, -, -, -, rfl, rfl⟩ := h
    obtain ⟨a', e, -, -, -, -, rfl, rfl⟩ := h'
    cases e
    exact ⟨rfl, rfl⟩
  · obtain ⟨a, rfl, -, rfl, rfl⟩ := h
    obtain ⟨a', e, -, rfl, rfl⟩ := h'
    cases e
    exact ⟨rfl, rfl⟩
  · obtain ⟨a, k, b, rfl, -, h2, h3, rfl, rfl⟩ := h
    obtain ⟨a', k', b', e, -, h2', h3', rfl, rfl⟩ := h'
    simp only [List.cons.injEq, Value.ref.injEq, Value.int.injEq, and_true] at e
    obtain ⟨rfl, e⟩ := e
    have := (nI_eq h2 h2').mp e
    subst this
    cases h3.symm.trans h3'
    exact ⟨rfl, rfl⟩
  · obtain ⟨a, b, rfl, -, -, -, -, rfl, rfl⟩ := h
    obtain ⟨a', b', e, -, -, -, -, rfl, rfl⟩ := h'
    cases e
    exact ⟨rfl, rfl⟩
  · obtain ⟨a, k, b, rfl, -, -, -, -, -, h2, rfl, rfl⟩ := h
    obtain ⟨a', k', b', e, -, -, -, -, -, h2', rfl, rfl⟩ := h'
    simp only [List.cons.injEq, Value.ref.injEq, Value.int.injEq, and_true] at e
    obtain ⟨rfl, e, rfl⟩ := e
    have := (nI_eq h2 h2').mp e
    subst this
    exact ⟨rfl, rfl⟩
  · obtain ⟨a, k, b, rfl, -, h2, h3, rfl, rfl⟩ := h
    obtain ⟨a', k', b', e, -, h2', h3', rfl, rfl⟩ := h'
    simp only [List.cons.injEq, Value.ref.injEq, Value.int.injEq, and_true] at e
    obtain ⟨rfl, e⟩ := e
    have := (nI_eq h2 h2').mp e
    subst this
    cases h3.symm.trans h3'
    exact ⟨rfl, rfl⟩
  · cases h
theorem run_det {C : Nat → List Value → TS → Out → TS → Prop} (hC : ∀ mid As T r T1 r' T2, C mid As T r T1 → C mid As T r' T2 → r = r' ∧ T1 = T2) {M : MI} {hs : Hn} : ∀ (n n' pc : Nat) (l : Loc0) (st : List Value) (T : TS) (out out' : Out) (T1 T2 : TS), run C M hs n pc l st T out T1 → run C M hs n' pc l st T out' T2 → out = out' ∧ T1 = T2 := by
  intro n
  induction n with
  | zero => intro n' pc l st T out out' T1 T2 h; cases h
  | succ n ih =>
    intro n' pc l st T out out' T1 T2 h h'
    cases n' with
    | zero => cases h'
    | succ n' =>
      obtain ⟨i, len, hd, -, h⟩ := h
      obtain ⟨i', len', hd', -, h'⟩ := h'
      cases hd.symm.trans hd'
      split at h
      · rename_i hcl
        rw [hcl] at h'
        obtain ⟨v, h1, rfl, rfl⟩ := h
        obtain ⟨v', h1', rfl, rfl⟩ := h'
        cases h1.symm.trans h1'
        exact ⟨rfl, rfl⟩
      · rename_i hcl
        rw [hcl] at h'
        obtain ⟨idx, k, mid, hi, hc, -, -, h⟩ := h
        obtain ⟨idx', k', mid', hi', hc', -, -, h'⟩ := h'
        cases hi.symm.trans hi'
        cases hc.symm.trans hc'
        split at h
        · obtain ⟨a, st1, rfl, -, h⟩ := h
          obtain ⟨a', st1', e, -, h'⟩ := h'
          cases e
          exact ih _ _ _ _ _ _ _ _ _ h h'
        · obtain ⟨x, y, st1, rfl, -, h⟩ := h
          obtain ⟨x', y', st1', e, -, h'⟩ := h'
          cases e
          exact ih _ _ _ _ _ _ _ _ _ h h'
        · split at h'
          · rename_i q1 q2; exact absurd rfl q1
          · rename_i q1 q2; exact absurd rfl q2
          · obtain ⟨M', As, st', st2, r, T3, hM, hp, hv, -, hcall, h⟩ := h
            obtain ⟨M9, As9, st9, st29, r9, T39, hM9, hp9, hv9, -, hcall9, h9⟩ := h'
            cases hM.symm.trans hM9
            cases hp.symm.trans hp9
            obtain ⟨rfl, rfl⟩ := hC _ _ _ _ _ _ _ hcall hcall9
            have hst : st2 = st29 := by
              split at hv
              · rename_i hb
                rw [if_pos hb] at hv9
                rw [hv, hv9]
              · rename_i hb
                rw [if_neg hb] at hv9
                obtain ⟨a, e, -⟩ := hv
                obtain ⟨a9, e9, -⟩ := hv9
                rw [e] at e9
                cases e9
                rfl
            subst hst
            cases r with
            | inl v => exact ih _ _ _ _ _ _ _ _ _ h h9
            | inr x =>
              simp only at h h9
              split at h
              · rename_i hh
                rw [hh] at h9
                obtain ⟨rfl, rfl⟩ := h
                obtain ⟨rfl, rfl⟩ := h9
                exact ⟨rfl, rfl⟩
              · rename_i hq hh
                rw [hh] at h9
                obtain ⟨k9, -, ⟨⟨q, rfl, ha⟩, h⟩ | ⟨ha, h⟩⟩ := h
                · obtain ⟨k8, -, ⟨⟨q8, rfl, ha8⟩, h8⟩ | ⟨ha8, h8⟩⟩ := h9
                  · cases ha.symm.trans ha8
                    exact ih _ _ _ _ _ _ _ _ _ h h8
                  · cases ha.symm.trans ha8
                · obtain ⟨k8, -, ⟨⟨q8, rfl, ha8⟩, h8⟩ | ⟨ha8, h8⟩⟩ := h9
                  · cases ha.symm.trans ha8
                  · cases ha.symm.trans ha8
                    exact ih _ _ _ _ _ _ _ _ _ h h8
      · rename_i hcl
        rw [hcl] at h'
        obtain ⟨idx, ci, rfl, hc, h⟩ := h
        obtain ⟨idx', ci', e, hc', h'⟩ := h'
        cases e
        cases hc.symm.trans hc'
        rcases h with ⟨h8, h⟩ | ⟨-, h1, -, -, -, -, -, -, rfl, rfl⟩
        · rcases h' with ⟨-, h'⟩ | ⟨-, h1, -⟩
          · exact ih _ _ _ _ _ _ _ _ _ h h'
          · omega
        · rcases h' with ⟨h8, h'⟩ | ⟨-, -, -, -, -, -, -, -, rfl, rfl⟩
          · omega
          · exact ⟨rfl, rfl⟩
      · rename_i q1 q2 q3
        split at h'
        · rename_i q; exact absurd q q1
        · rename_i q; exact absurd q q2
        · rename_i q; exact absurd q q3
        · obtain ⟨pc', l', st', T3, h1, h⟩ := h
          obtain ⟨pc9, l9, st9, T39, h19, h9⟩ := h'
          cases h1.symm.trans h19
          exact ih _ _ _ _ _ _ _ _ _ h h9
theorem Call_det : ∀ (d mid : Nat) (As : List Value) (T : TS) (r : Out) (T1 : TS) (r' : Out) (T2 : TS), Call d mid As T r T1 → Call d mid As T r' T2 → r = r' ∧ T1 = T2 := by
  intro d
  induction d with
  | zero => intro mid As T r T1 r' T2 h; cases h
  | succ d ih =>
    intro mid As T r T1 r' T2 h h'
    rcases h with h | ⟨h12, M, n, hM, -, h⟩
    · rcases h' with h' | ⟨h12, -⟩
      · exact lst_det h h'
      · exact (lst_no h12 h).elim
    · rcases h' with h' | ⟨-, M9, n9, hM9, -, h'⟩
      · exact (lst_no h12 h').elim
      · cases hM.symm.trans hM9
        exact run_det ih _ _ _ _ _ _ _ _ _ _ h h'
theorem cq {d mid : Nat} {As : List Value} {T T1 : TS} {r : Out} (h : Call d mid As T r T1) (Q : Post) : CallQ d mid As T Q ↔ Q r T1 := by
  constructor
  · rintro ⟨r', T2, h', hq⟩
    obtain ⟨rfl, rfl⟩ := Call_det _ _ _ _ _ _ _ _ h h'
    exact hq
  · intro hq
    exact ⟨r, T1, h, hq⟩
theorem Call_of {d mid : Nat} {As : List Value} {T T1 : TS} {r : Out} (h : CallQ d mid As T (fun r' T' => r' = r ∧ T' = T1)) : Call d mid As T r T1 := by
  obtain ⟨r', T', h, rfl, rfl⟩ := h
  exact h
/-- deeper calls do no harm -/
theorem run_up {C C' : Nat → List Value → TS → Out → TS → Prop} (hC : ∀ mid As T r T1, C mid As T r T1 → C' mid As T r T1) {M : MI} {hs : Hn} : ∀ (n pc : Nat) (l : Loc0) (st : List Value) (T : TS) (out : Out) (T1 : TS), run C M hs n pc l st T out T1 → run C' M hs n pc l st T out T1 := by
  intro n
  induction n with
  | zero => intro pc l st T out T1 h; cases h
  | succ n ih =>
    intro pc l st T out T1 h
    obtain ⟨i, len, hd, hl, h⟩ := h
    refine ⟨i, len, hd, hl, ?_⟩
    split at h
    · exact h
    · obtain ⟨idx, k, mid, hi, hc, hs9, hk, h⟩ := h
      refine ⟨idx, k, mid, hi, hc, hs9, hk, ?_⟩
      split at h
      · obtain ⟨a, st1, e, h4, h⟩ := h
        exact ⟨a, st1, e, h4, ih _ _ _ _ _ _ h⟩
      · obtain ⟨x, y, st1, e, h4, h⟩ := h
        exact ⟨x, y, st1, e, h4, ih _ _ _ _ _ _ h⟩
      · obtain ⟨M', As, st', st2, r, T3, hM, hp, hv, h4, hcall, h⟩ := h
        refine ⟨M', As, st', st2, r, T3, hM, hp, hv, h4, hC _ _ _ _ _ hcall, ?_⟩
        cases r with
        | inl v => exact ih _ _ _ _ _ _ h
        | inr x =>
          simp only at h ⊢
          split at h
          · exact h
          · obtain ⟨k9, h9, ⟨ha, h⟩ | ⟨ha, h⟩⟩ := h
            · exact ⟨k9, h9, Or.inl ⟨ha, ih _ _ _ _ _ _ h⟩⟩
            · exact ⟨k9, h9, Or.inr ⟨ha, ih _ _ _ _ _ _ h⟩⟩
    · obtain ⟨idx, ci, e, hc, h⟩ := h
      refine ⟨idx, ci, e, hc, ?_⟩
      rcases h with ⟨h8, h⟩ | h
      · exact Or.inl ⟨h8, ih _ _ _ _ _ _ h⟩
      · exact Or.inr h
    · obtain ⟨pc', l', st', T3, h1, h⟩ := h
      exact ⟨pc', l', st', T3, h1, ih _ _ _ _ _ _ h⟩
theorem Call_up1 : ∀ (d mid : Nat) (As : List Value) (T : TS) (r : Out) (T1 : TS), Call d mid As T r T1 → Call (d + 1) mid As T r T1 := by
  intro d
  induction d with
  | zero => intro mid As T r T1 h; cases h
  | succ d ih =>
    intro mid As T r T1 h
    rcases h with h | ⟨h12, M, n, hM, hl, h⟩
    · exact Or.inl h
    · exact Or.inr ⟨h12, M, n, hM, hl, run_up ih _ _ _ _ _ _ _ h⟩
theorem Call_up {d d' mid : Nat} {As : List Value} {T : TS} {r : Out} {T1 : TS} (h : Call d mid As T r T1) (hd : d ≤ d') : Call d' mid As T r T1 := by
  obtain ⟨k, rfl⟩ := Nat.exists_eq_add_of_le hd
  induction k with
  | zero => exact h
  | succ k ih => exact Call_up1 _ _ _ _ _ _ (ih (Nat.le_add_right _ _))
/-! more locals do no harm -/
def ndB : List Nat → Bool
  | [] => true
  | k :: l => !(l.elem k) && ndB l
def nd (l : Loc0) : Prop := ndB (l.map Prod.fst) = true
/-- each of the first is in the second -/
def lsub : Loc0 → Loc0 → Prop
  | [], _ => True
  | (j, v) :: r, l => lget l j = some v ∧ lsub r l
theorem lsub_get {r l : Loc0} (h : lsub r l) {k : Nat} {v : Value} (hv : lget r k = some v) : lget l k = some v := by
  induction r with
  | nil => cases hv
  | cons q r ih =>
    obtain ⟨j, w⟩ := q
    rw [lget_cons] at hv
    split at hv
    · rename_i e
      cases hv
      subst e
      exact h.1
    · exact ih h.2 hv
theorem nd_cons {j : Nat} {v : Value} {l : Loc0} : nd ((j, v) :: l) ↔ lget l j = none ∧ nd l := by
  have h : ∀ l : Loc0, (l.map Prod.fst).elem j = false ↔ lget l j = none := by
    intro l
    induction l with
    | nil => simp [lget]
    | cons q l ih =>
      obtain ⟨i, w⟩ := q
      rw [lget_cons, List.map_cons, List.elem_cons]
      by_cases e : i = j
      · subst e; simp
      · rw [if_neg e]
        have : (j == i) = false := by simpa using fun h => e h.symm
        simp only [this, Bool.false_or]
        exact ih
  unfold nd
  rw [List.map_cons]
  show (!((l.map Prod.fst).elem j) && ndB (l.map Prod.fst)) = true ↔ _
  rw [Bool.and_eq_true, Bool.not_eq_true', h]
theorem ldel_none {l : Loc0} {k j : Nat} (h : lget l j = none) : lget (ldel l k) j = none := by
  induction l with
  | nil => rfl
  | cons q l ih =>
    obtain ⟨i, w⟩ := q
    rw [lget_cons] at h
    split at h
    · cases h
    · rename_i e
      rw [ldel_cons]
      split
      · exact ih h
      · rw [lget_cons, if_neg e]
        exact ih h
theorem ldel2_none {l : Loc0} {k j : Nat} (h : lget l j = none) : lget (ldel2 l k) j = none := by
  induction l with
  | nil => rfl
  | cons q l ih =>
    obtain ⟨i, w⟩ := q
    rw [lget_cons] at h
    split at h
    · cases h
    · rename_i e
      rw [ldel2_cons]
      split
      · exact ih h
      · rw [lget_cons, if_neg e]
        exact ih h
theorem ldel_get {l : Loc0} (hn : nd l) {k j : Nat} {v : Value} : lget (ldel l k) j = some v ↔ lget l j = some v ∧ j ≠ k ∧ ¬ (j + 1 = k ∧ v.category = 2) := by
  induction l with
  | nil => simp [lget, ldel]
  | cons q l ih =>
    obtain ⟨i, w⟩ := q
    rw [nd_cons] at hn
    rw [ldel_cons]
    by_cases hij : i = j
    · subst hij
      split
      · rename_i hc
        rw [ldel_none hn.1, lget_cons, if_pos rfl]
        constructor
        · intro h; cases h
        · rintro ⟨h, h1, h2⟩
          cases h
          rcases hc with hc | hc
          · exact absurd hc h1
          · exact absurd hc h2
      · rename_i hc
        rw [lget_cons, if_pos rfl, lget_cons, if_pos rfl]
        constructor
        · intro h
          cases h
          exact ⟨rfl, fun e => hc (Or.inl e), fun e => hc (Or.inr e)⟩
        · intro h; exact h.1
    · split
      · rw [ih hn.2, lget_cons, if_neg hij]
      · rw [lget_cons, if_neg hij, ih hn.2, lget_cons, if_neg hij]
theorem ldel2_get {l : Loc0} (hn : nd l) {k j : Nat} {v : Value} : lget (ldel2 l k) j = some v ↔ lget l j = some v ∧ j ≠ k ∧ j ≠ k + 1 ∧ ¬ (j + 1 = k ∧ v.category = 2) := by
  induction l with
  | nil => simp [lget, ldel2]
  | cons q l ih =>
    obtain ⟨i, w⟩ := q
    rw [nd_cons] at hn
    rw [ldel2_cons]
    by_cases hij : i = j
    · subst hij
      split
      · rename_i hc
        rw [ldel2_none hn.1, lget_cons, if_pos rfl]
        constructor
        · intro h; cases h
        · rintro ⟨h, h1, h2, h3⟩
          cases h
          rcases hc with hc | hc | hc
          · exact absurd hc h1
          · exact absurd hc h2
          · exact absurd hc h3
      · rename_i hc
        rw [lget_cons, if_pos rfl, lget_cons, if_pos rfl]
        constructor
        · intro h
          cases h
          exact ⟨rfl, fun e => hc (Or.inl e), fun e => hc (Or.inr (Or.inl e)), fun e => hc (Or.inr (Or.inr e))⟩
        · intro h; exact h.1
    · split
      · rw [ih hn.2, lget_cons, if_neg hij]
      · rw [lget_cons, if_neg hij, ih hn.2, lget_cons, if_neg hij]
theorem nd_ldel {l : Loc0} (hn : nd l) (k : Nat) : nd (ldel l k) := by
  induction l with
  | nil => exact hn
  | cons q l ih =>
    obtain ⟨i, w⟩ := q
    rw [nd_cons] at hn
    rw [ldel_cons]
    split
    · exact ih hn.2
    · rw [nd_cons]
      exact ⟨ldel_none hn.1, ih hn.2⟩
theorem nd_ldel2 {l : Loc0} (hn : nd l) (k : Nat) : nd (ldel2 l k) := by
  induction l with
  | nil => exact hn
  | cons q l ih =>
    obtain ⟨i, w⟩ := q
    rw [nd_cons] at hn
    rw [ldel2_cons]
    split
    · exact ih hn.2
    · rw [nd_cons]
      exact ⟨ldel2_none hn.1, ih hn.2⟩
def lmore (r l : Loc0) : Prop := nd r ∧ nd l ∧ ∀ k v, lget r k = some v → lget l k = some v
theorem lmore_st {r l : Loc0} (h : lmore r l) (k : Nat) (v : Value) : lmore ((k, v) :: ldel r k) ((k, v) :: ldel l k) := by
  have hz : ∀ l : Loc0, nd l → lget (ldel l k) k = none := by
    intro l hl
    cases hz : lget (ldel l k) k with
    | none => rfl
    | some w => exact absurd rfl ((ldel_get hl).mp hz).2.1
  refine ⟨nd_cons.mpr ⟨hz _ h.1, nd_ldel h.1 k⟩, nd_cons.mpr ⟨hz _ h.2.1, nd_ldel h.2.1 k⟩, fun j w hw => ?_⟩
  rw [lget_cons] at hw ⊢
  split at hw
  · rename_i e; rw [if_pos e]; exact hw
  · rename_i e
    rw [if_neg e, ldel_get h.2.1]
    rw [ldel_get h.1] at hw
    exact ⟨h.2.2 _ _ hw.1, hw.2⟩
theorem lmore_st2 {r l : Loc0} (h : lmore r l) (k : Nat) (v : Value) : lmore ((k, v) :: ldel2 r k) ((k, v) :: ldel2 l k) := by
  have hz : ∀ l : Loc0, nd l → lget (ldel2 l k) k = none := by
    intro l hl
    cases hz : lget (ldel2 l k) k with
    | none => rfl
    | some w => exact absurd rfl ((ldel2_get hl).mp hz).2.1
  refine ⟨nd_cons.mpr ⟨hz _ h.1, nd_ldel2 h.1 k⟩, nd_cons.mpr ⟨hz _ h.2.1, nd_ldel2 h.2.1 k⟩, fun j w hw => ?_⟩
  rw [lget_cons] at hw ⊢
  split at hw
  · rename_i e; rw [if_pos e]; exact hw
  · rename_i e
    rw [if_neg e, ldel2_get h.2.1]
    rw [ldel2_get h.1] at hw
    exact ⟨h.2.2 _ _ hw.1, hw.2⟩
theorem lmore_del {r l : Loc0} (h : lmore r l) (k : Nat) : lmore (ldel r k) (ldel l k) := by
  refine ⟨nd_ldel h.1 k, nd_ldel h.2.1 k, fun j w hw => ?_⟩
  rw [ldel_get h.2.1]
  rw [ldel_get h.1] at hw
  exact ⟨h.2.2 _ _ hw.1, hw.2⟩
theorem loc_more {nL : Nat} {i : Instr} {r l r' : Loc0} {st st' : List Value} (h : lmore r l) (hr : locF nL i r st = some (r', st')) : ∃ l', locF nL i l st = some (l', st') ∧ lmore r' l' := by
  unfold locF at hr ⊢
  split at hr
  all_goals try (cases hr; done)
  all_goals try
    (split at hr
     all_goals try (cases hr; done)
     all_goals try
       (rename_i hg
        have hg2 := h.2.2 _ _ hg
        simp only [hg2]
        first
        | (cases hr; exact ⟨_, rfl, h⟩)
        | (split at hr
           · rename_i hk
             cases hr
             rw [if_pos hk]
             exact ⟨_, rfl, lmore_st h _ _⟩
           · cases hr))
     all_goals try
       (split at hr
        · rename_i hk
          cases hr
          rw [if_pos hk]
          first | exact ⟨_, rfl, lmore_st h _ _⟩ | exact ⟨_, rfl, lmore_st2 h _ _⟩
        · cases hr))
theorem loc_none {nL : Nat} {i : Instr} {l : Loc0} {st : List Value} (hc : (∃ pc q, braF i pc st = some q) ∨ (∃ o ini T q, hpF o ini i st T = some q)) : locF nL i l st = none := by
  unfold locF
  split
  all_goals first
    | rfl
    | (exfalso
       rcases hc with ⟨pc, q, hc⟩ | ⟨o, ini, T, q, hc⟩
       · cases hc
       · cases hc)
theorem step_more {o nL : Nat} {ini : Bool} {i : Instr} {pc pc' : Nat} {r l r' : Loc0} {st st' : List Value} {T T' : TS} (h : lmore r l) (hs : step o nL ini i pc r st T = some (pc', r', st', T')) : ∃ l', step o nL ini i pc l st T = some (pc', l', st', T') ∧ lmore r' l' := by
  unfold step at hs ⊢
  split at hs
  · cases hs
    exact ⟨_, rfl, h⟩
  · split at hs
    · rename_i hl
      cases hs
      obtain ⟨l', h1, h2⟩ := loc_more h hl
      rw [h1]
      exact ⟨_, rfl, h2⟩
    · split at hs
      · rename_i hb
        cases hs
        rw [loc_none (Or.inl ⟨_, _, hb⟩)]
        exact ⟨_, rfl, h⟩
      · split at hs
        · rename_i hb
          cases hs
          rw [loc_none (Or.inr ⟨_, _, _, _, hb⟩)]
          exact ⟨_, rfl, h⟩
        · cases hs
theorem run_more {C : Nat → List Value → TS → Out → TS → Prop} {M : MI} {hs : Hn} : ∀ (n pc : Nat) (r l : Loc0) (st : List Value) (T : TS) (out : Out) (T1 : TS), lmore r l → run C M hs n pc r st T out T1 → run C M hs n pc l st T out T1 := by
  intro n
  induction n with
  | zero => intro pc r l st T out T1 _ h; cases h
  | succ n ih =>
    intro pc r l st T out T1 hm h
    obtain ⟨i, len, hd, hl, h⟩ := h
    refine ⟨i, len, hd, hl, ?_⟩
    split at h
    · exact h
    · obtain ⟨idx, k, mid, hi, hc, hs9, hk, h⟩ := h
      refine ⟨idx, k, mid, hi, hc, hs9, hk, ?_⟩
      split at h
      · obtain ⟨a, st1, e, h4, h⟩ := h
        exact ⟨a, st1, e, h4, ih _ _ _ _ _ _ _ hm h⟩
      · obtain ⟨x, y, st1, e, h4, h⟩ := h
        exact ⟨x, y, st1, e, h4, ih _ _ _ _ _ _ _ hm h⟩
      · obtain ⟨M', As, st', st2, r9, T3, hM, hp, hv, h4, hcall, h⟩ := h
        refine ⟨M', As, st', st2, r9, T3, hM, hp, hv, h4, hcall, ?_⟩
        cases r9 with
        | inl v => exact ih _ _ _ _ _ _ _ hm h
        | inr x =>
          simp only at h ⊢
          split at h
          · exact h
          · obtain ⟨k9, h9, ⟨ha, h⟩ | ⟨ha, h⟩⟩ := h
            · exact ⟨k9, h9, Or.inl ⟨ha, ih _ _ _ _ _ _ _ (lmore_del hm _) h⟩⟩
            · exact ⟨k9, h9, Or.inr ⟨ha, ih _ _ _ _ _ _ _ (lmore_del hm _) h⟩⟩
    · obtain ⟨idx, ci, e, hc, h⟩ := h
      refine ⟨idx, ci, e, hc, ?_⟩
      rcases h with ⟨h8, h⟩ | h
      · exact Or.inl ⟨h8, ih _ _ _ _ _ _ _ hm h⟩
      · exact Or.inr h
    · obtain ⟨pc', r', st', T3, h1, h⟩ := h
      obtain ⟨l', h2, h3⟩ := step_more hm h1
      exact ⟨pc', l', st', T3, h2, ih _ _ _ _ _ _ _ h3 h⟩
theorem ev_more {d : Nat} {M : MI} {hs : Hn} {pc : Nat} {r l : Loc0} {st : List Value} {T : TS} {Q : Post} (h : lsub r l) (h1 : nd r) (h2 : nd l) (hr : Ev d M hs pc r st T Q) : Ev d M hs pc l st T Q := by
  obtain ⟨n, out, T', hr, hq⟩ := hr
  exact ⟨n, out, T', run_more _ _ _ _ _ _ _ _ ⟨h1, h2, fun k v hv => lsub_get h hv⟩ hr, hq⟩
end
