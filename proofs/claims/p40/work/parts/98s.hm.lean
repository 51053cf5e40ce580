/-! contracts of the JDK's list methods at the machine: room by frames, heaps by predicates -/
def rmH (f mc ms : Nat) : Room := { frames := f, cells := mc, slots := ms, locals := 40 * f + 40 }
def PcJ (G : GP) (As : List Value) (J : Heap → Prop) : Array Value → State → Prop := va_Pc As (fun U => J U.heap ∧ GS G U)
def QcJ (K : Option Value → Heap → Prop) (A : Nat → Prop) : Array Value → State → Outcome → State → Prop := fun _ st oc t => (∃ v, oc = .returned v ∧ K v t.heap) ∧ va_F A st t
def XcN : String → State → State → Prop := fun _ _ _ => False
def HM (l : Launch) (f : Nat) (y : MethodName) (cc : ByteArray) (ml : Nat) (rt : Option FieldType) (G : GP) (As : List Value) (J : Heap → Prop) (K : Option Value → Heap → Prop) (A : Nat → Prop) (mc ms : Nat) : Prop := vx_Met l y (.code y cc ml rt :: gw) (rmH f mc ms) (PcJ G As J) (QcJ K A) XcN mc ms A
theorem PcJ_blind {G : GP} {As : List Value} {J : Heap → Prop} : FrameBlind (PcJ G As J) := by
  intro a U g mk h
  obtain ⟨h1, h2, h3⟩ := h
  exact ⟨h1, h2, GS.warm (s := U) (U := U.calling g mk a) (State.WarmedH.refl U) h3⟩
def kOK (y : MethodName) (n : Nat) : Prop := (y.cls ≠ "java/lang/invoke/MethodHandle" ∧ y.cls ≠ "java/lang/invoke/VarHandle") ∧ (parseMethodDescriptor y.desc).map (fun d => d.parameters.length) = some n
theorem hm_intro {l : Launch} {f : Nat} {y : MethodName} {cc : ByteArray} {ml : Nat} {rt : Option FieldType} {G : GP} {As : List Value} {J : Heap → Prop} {K : Option Value → Heap → Prop} {A : Nat → Prop} {mc ms : Nat} (hplain : plainName y.cls = true) (hlen : (lg_sl As).length ≤ ml)
    (body : ∀ (p : Program) (e : Env) (R : Room) (s : State) (m : MethodId) (below : List Frame) (meth : Method) (c : Code) (ls : Array Slot), R.frames = f → R.locals = 40 * f + 40 → R.cells = mc → R.slots = ms → p.tables.exec = Jvm.exec → c.code = cc → c.maxLocals = ml → meth.sig.returnType = rt → meth.locks = false → s.vm.findClass y.cls = some m.cls → meth.name = y.name → (∀ w ∈ gw, w.before As.toArray s = true) → GS G s → J s.heap → lv_has ls ml (lv_args 0 As) → W p l e R s m As.toArray below meth c s.heap [] 0 0 (MQ below (QcJ K A) As.toArray s mc ms A) (F0 m 0 ls [])) : HM l f y cc ml rt G As J K A mc ms := by
  refine vx_ofW hplain rfl ?_
  intro p e s m args below meth c s₁ B hml hnt hv
  obtain ⟨rfl, hJ, hG⟩ := hv
  have hts0 := atoms_spec (ws := .code y cc ml rt :: gw) B.pre
  have hts : ∀ w ∈ gw, w.before As.toArray s = true := fun w hw => hts0 w (List.mem_cons_of_mem _ hw)
  have hl := lv_entry As (n := ml) hlen
  rw [lg_entry_eq]
  exact vx_ret (body p e _ s m below meth c _ rfl rfl rfl rfl B.exec B.bytes hml B.returns B.notSynchronized (findClass_of_methodNamed B.named) (name_of_methodNamed B.named B.method).1 hts hG hJ hl)
section HMC
variable {p : Program} {l : Launch} {e : Env} {R : Room} {s : State} {m : MethodId} {args : Array Value} {below : List Frame} {meth : Method} {c : Code} {H : Heap} {locs : List Loc} {cells slots : Nat} {Q : State → Prop}
variable {cc : ByteArray} {pc : Nat} {ls : Array Slot} {G : GP} {A A1 : Nat → Prop}
theorem hm_wid {g : JFrame} {k n : Nat} (h1 : cells ≤ k) (h2 : slots ≤ n) (kk : W p l e R s m args below meth c H locs k n Q g) : W p l e R s m args below meth c H locs cells slots Q g := fun T hT X => kk T hT (stand_widen X h1 h2)
theorem hm_ret {rt : Option FieldType} {i : Instr} {st : List Value} {v : Option Value} {K : Option Value → Heap → Prop} {mc ms : Nat} (hx : p.tables.exec = Jvm.exec) (hb : c.code = cc) (hr : meth.sig.returnType = rt) (hlocks : meth.locks = false) (h : endF rt i st = some v) (hd : decode cc pc = .ok (i, ilen i)) (hK : K v H) (hS : va_S A s.heap H locs) (h1 : cells ≤ mc) (h2 : slots ≤ ms) : W p l e R s m args below meth c H locs cells slots (MQ below (QcJ K A) args s mc ms A) (F0 m pc ls st) :=
  hm_wid h1 h2 (end_sound hx hb hr hlocks h hd (fun t ht hW => ⟨⟨v, rfl, by rw [ht]; exact hK⟩, hS.F ht⟩) hS.2.2)
theorem hm_callK {K : Option Value → Heap → Prop} {st0 rest : List Value} {a : Array Value} {mc ms : Nat} (hr : vx_Run p l e R s m args below meth c H locs cells slots mc ms (F0 m pc ls st0) rest (QcJ K A1 a) XcN A1) (hS : va_S A s.heap H locs) (hA : ∀ q, A1 q → A q)
    (kk : ∀ v H1 locs1, K v H1 → H.size ≤ H1.size → (∀ q, q < H.size → ¬ A1 q → H1[q]? = H[q]?) → va_S A s.heap H1 locs1 → W p l e R s m args below meth c H1 locs1 (cells + mc) (slots + ms) Q (F0 m (pc + 3) ls (v.toList ++ rest))) : W p l e R s m args below meth c H locs cells slots Q (F0 m pc ls st0) := by
  intro T hT X
  rcases hr T hT X with ⟨v, st₀, t, T', L, h0, X', hL, e1, e2, ⟨⟨v', hv, hK⟩, hF⟩, st⟩ | ⟨q, st₀, t, T', L, E, ce, h0, X', hL, e1, e2, hno, hce, hcv, hcl, st⟩
  · cases hv
    obtain ⟨k1, k2, k3⟩ := vx_keep h0 e1 hS (fun q _ h => hA q h) hA hL hF
    obtain ⟨t2, a1, b1⟩ := kk v T'.heap (locs ++ L) (by rw [e1]; exact hK) k1 k2 k3 T' rfl X'
    exact ⟨t2, st t2 a1, b1⟩
  · exact hno.elim
theorem hm_ws {y : MethodName} {cc' : ByteArray} {ml : Nat} {rt : Option FieldType} (hts : ∀ w ∈ gw, w.before args s = true) (w4 : (.code y cc' ml rt) ∈ gw) : ∀ w ∈ (.code y cc' ml rt :: gw), ∀ (a' : Array Value) (U : State), s.WarmedH U.vm → w.before a' U = true := by
  intro w hw a' U hW
  rcases List.mem_cons.mp hw with rfl | hw
  · exact word_at hW (gw_good w4) (hts _ w4)
  · exact word_at hW (gw_good hw) (hts _ hw)
theorem hm_B {y : MethodName} {cc' : ByteArray} {ml f mc ms n idx : Nat} {rt : Option FieldType} {own : String} (hts : ∀ w ∈ gw, w.before args s = true) (w1 : .methodLink own idx y ∈ gw) (w3 : .initialized y.cls ∈ gw) (w4 : (.code y cc' ml rt) ∈ gw) (hk : kOK y n) (hf : f + 1 ≤ R.frames) (hl : 8 + (ml + 11) + (40 * f + 40) ≤ R.locals) : CallB R s args own idx y cc' ml rt (.code y cc' ml rt :: gw) (rmH f mc ms) mc ms n := by
  refine ⟨rfl, rfl, hf, hl, hm_ws hts w4, List.mem_cons_self, hts _ w4, hts _ w3, hk.1, ?_, hts _ w1⟩
  intro sig h
  have h9 := hk.2
  rw [h] at h9
  exact (Option.some.inj h9).symm
theorem hm_S {y : MethodName} {cc' : ByteArray} {ml f mc ms n idx : Nat} {rt : Option FieldType} {own : String} {As rest : List Value} {J : Heap → Prop} {K : Option Value → Heap → Prop} (hM : HM l f y cc' ml rt G As J K A1 mc ms) (hx : p.tables.exec = Jvm.exec) (hb : c.code = cc) (hml : c.maxLocals = ls.size) (hown : s.vm.findClass own = some m.cls) (hts : ∀ w ∈ gw, w.before args s = true) (hG : GS G s) (hS : va_S A s.heap H locs) (hA : ∀ q, A1 q → A q) (hJ : J H) (w1 : .methodLink own idx y ∈ gw) (w2 : .static y ∈ gw) (w3 : .initialized y.cls ∈ gw) (w4 : (.code y cc' ml rt) ∈ gw) (hk : kOK y n) (hAl : As.length = n) (h8 : (rest.map fun v => v.category).sum ≤ 8) (hf : f + 1 ≤ R.frames) (hl : 8 + (ml + 11) + (40 * f + 40) ≤ R.locals) (hc1 : cells + mc ≤ R.cells) (hc2 : slots + ms ≤ R.slots) {st0 : List Value} (hst : st0 = As.reverse ++ rest) (hd : decode cc pc = .ok (.invokestatic idx, 3))
    (kk : ∀ v H1 locs1, K v H1 → H.size ≤ H1.size → (∀ q, q < H.size → ¬ A1 q → H1[q]? = H[q]?) → va_S A s.heap H1 locs1 → W p l e R s m args below meth c H1 locs1 (cells + mc) (slots + ms) Q (F0 m (pc + 3) ls (v.toList ++ rest))) : W p l e R s m args below meth c H locs cells slots Q (F0 m pc ls st0) := by
  refine hm_callK (vx_runS (As := As) (rest := rest) ⟨hx, hb, hml, hown, hts⟩ hM ⟨hm_B hts w1 w3 w4 hk hf hl, hts _ w2⟩ ⟨PcJ_blind, fun U hU hW => ⟨rfl, by rw [hU]; exact hJ, GS.warm hW hG⟩⟩ rfl hAl rfl hst (by show 2 * 0 + _ ≤ 8; omega) hd ⟨hc1, hc2⟩) hS hA kk
theorem hm_V {y : MethodName} {cc' : ByteArray} {ml f mc ms n idx : Nat} {rt : Option FieldType} {own : String} {As rest : List Value} {b : Nat} {J : Heap → Prop} {K : Option Value → Heap → Prop} (hM : HM l f y cc' ml rt G (.ref b :: As) J K A1 mc ms) (hx : p.tables.exec = Jvm.exec) (hb : c.code = cc) (hml : c.maxLocals = ls.size) (hown : s.vm.findClass own = some m.cls) (hts : ∀ w ∈ gw, w.before args s = true) (hG : GS G s) (hS : va_S A s.heap H locs) (hA : ∀ q, A1 q → A q) (hJ : J H) (hcell : ∃ cellB : Jvm.Cell, H[b]? = some cellB ∧ cellB.vm.isStatics = false ∧ s.vm.findClass y.cls = some cellB.cls) (w1 : .methodLink own idx y ∈ gw) (w2 : .instanceMethod y ∈ gw) (w5 : .selects y.cls y y ∈ gw) (w3 : .initialized y.cls ∈ gw) (w4 : (.code y cc' ml rt) ∈ gw) (hk : kOK y n) (hAl : As.length = n) (h8 : (rest.map fun v => v.category).sum ≤ 8) (hf : f + 1 ≤ R.frames) (hl : 8 + (ml + 11) + (40 * f + 40) ≤ R.locals) (hc1 : cells + mc ≤ R.cells) (hc2 : slots + ms ≤ R.slots) {st0 : List Value} (hst : st0 = As.reverse ++ .ref b :: rest) (hd : decode cc pc = .ok (.invokevirtual idx, 3))
    (kk : ∀ v H1 locs1, K v H1 → H.size ≤ H1.size → (∀ q, q < H.size → ¬ A1 q → H1[q]? = H[q]?) → va_S A s.heap H1 locs1 → W p l e R s m args below meth c H1 locs1 (cells + mc) (slots + ms) Q (F0 m (pc + 3) ls (v.toList ++ rest))) : W p l e R s m args below meth c H locs cells slots Q (F0 m pc ls st0) := by
  refine hm_callK (vx_runV (C := y.cls) (b := b) (As := As) (rest := rest) ⟨hx, hb, hml, hown, hts⟩ hM ⟨hm_B hts w1 w3 w4 hk hf hl, hts _ w2, hts _ w5⟩ ⟨PcJ_blind, hcell, fun U hU hW => ⟨rfl, by rw [hU]; exact hJ, GS.warm hW hG⟩⟩ rfl hAl rfl hst (by show 2 * 0 + _ ≤ 8; omega) hd ⟨hc1, hc2⟩) hS hA kk
theorem hm_I {y : MethodName} {cc' : ByteArray} {ml f mc ms n idx : Nat} {own : String} {As rest : List Value} {b : Nat} {J : Heap → Prop} {K : Option Value → Heap → Prop} (hM : HM l f y cc' ml none G (.ref b :: As) J K A1 mc ms) (hx : p.tables.exec = Jvm.exec) (hb : c.code = cc) (hml : c.maxLocals = ls.size) (hown : s.vm.findClass own = some m.cls) (hts : ∀ w ∈ gw, w.before args s = true) (hG : GS G s) (hS : va_S A s.heap H locs) (hA : ∀ q, A1 q → A q) (hJ : J H) (w1 : .methodLink own idx y ∈ gw) (w2 : .instanceMethod y ∈ gw) (hin : y.name = "<init>") (w3 : .initialized y.cls ∈ gw) (w4 : (.code y cc' ml none) ∈ gw) (hk : kOK y n) (hAl : As.length = n) (h8 : (rest.map fun v => v.category).sum ≤ 8) (hf : f + 1 ≤ R.frames) (hl : 8 + (ml + 11) + (40 * f + 40) ≤ R.locals) (hc1 : cells + mc ≤ R.cells) (hc2 : slots + ms ≤ R.slots) {st0 : List Value} (hst : st0 = As.reverse ++ .ref b :: rest) (hd : decode cc pc = .ok (.invokespecial idx, 3))
    (kk : ∀ v H1 locs1, K v H1 → H.size ≤ H1.size → (∀ q, q < H.size → ¬ A1 q → H1[q]? = H[q]?) → va_S A s.heap H1 locs1 → W p l e R s m args below meth c H1 locs1 (cells + mc) (slots + ms) Q (F0 m (pc + 3) ls (v.toList ++ rest))) : W p l e R s m args below meth c H locs cells slots Q (F0 m pc ls st0) := by
  refine hm_callK (vx_runI (b := b) (As := As) (rest := rest) ⟨hx, hb, hml, hown, hts⟩ hM ⟨hm_B hts w1 w3 w4 hk hf hl, hin, hts _ w2⟩ ⟨PcJ_blind, fun U hU hW => ⟨rfl, by rw [hU]; exact hJ, GS.warm hW hG⟩⟩ rfl hAl rfl hst (by show 2 * 0 + _ ≤ 8; omega) hd ⟨hc1, hc2⟩) hS hA kk
end HMC
