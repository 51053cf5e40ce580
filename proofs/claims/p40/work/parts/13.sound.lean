/-! what a run over the store says of the machine -/
/-- the room of a method, by its number -/
def rmS (k mc ms : Nat) : Room := { frames := frT k, cells := mc, slots := ms, locals := 40 * frT k + 40 }
def PcG (G : GP) (T : TS) (As : List Value) : Array Value → State → Prop := va_Pc As (fun U => Rel G T U.heap ∧ GS G U)
def QcG (G : GP) (r : Out) (T1 : TS) : Array Value → State → Outcome → State → Prop := fun _ st oc t => (∃ v, r = .inl v ∧ oc = .returned v) ∧ Rel G T1 t.heap ∧ va_F (own G) st t
def XcG (G : GP) (r : Out) (T1 : TS) : String → State → State → Prop := fun E st t => (∃ x, r = .inr x ∧ E = xN x) ∧ Rel G T1 t.heap ∧ va_F (own G) st t
/-- calls d deep are what the machine does -/
def CSound (l : Launch) (d : Nat) : Prop := ∀ (mid : Nat) (M : MI) (As : List Value) (T : TS) (r : Out) (T1 : TS) (G : GP), mth mid = some M → Call d mid As T r T1 → vx_Met l M.1 (.code M.1 M.2.1 M.2.2.1 M.2.2.2.1 :: gw) (rmS mid (tn T1 - tn T) (tu T1 - tu T)) (PcG G T As) (QcG G r T1) (XcG G r T1) (tn T1 - tn T) (tu T1 - tu T) (own G)
theorem PcG_blind {G : GP} {T : TS} {As : List Value} : FrameBlind (PcG G T As) := by
  intro a U g mk h
  obtain ⟨h1, h2, h3⟩ := h
  exact ⟨h1, h2, GS.warm (s := U) (U := U.calling g mk a) (State.WarmedH.refl U) h3⟩
theorem gw_good {w : Jvm.Cond} (h : w ∈ gw) : (w.onTables && w.keeps) = true ∨ ∃ ty, w = .arrayClass ty := good_of_word (gw_in h).2
set_option maxRecDepth 100000 in
theorem nest_in : ∀ e ∈ callT, e.2.1 = 2 → callW e ∈ NWl := by decide +kernel
section SND
variable {p : Program} {l : Launch} {e : Env} {R : Room} {s : State} {m : MethodId} {args : Array Value} {below : List Frame} {meth : Method} {c : Code} {H : Heap} {locs : List Loc} {cells slots : Nat} {Q : State → Prop}
variable {cc : ByteArray} {pc : Nat} {ls : Array Slot} {G : GP} {T T' : TS}
theorem m_call {r : Out} {T1 : TS} {st0 rest : List Value} {a : Array Value} {mc ms : Nat} (hr : vx_Run p l e R s m args below meth c H locs cells slots mc ms (F0 m pc ls st0) rest (QcG G r T1 a) (XcG G r T1) (own G)) (hS : va_S (own G) s.heap H locs)
    (kk : ∀ v H1 locs1, r = .inl v → Rel G T1 H1 → va_S (own G) s.heap H1 locs1 → W p l e R s m args below meth c H1 locs1 (cells + mc) (slots + ms) Q (F0 m (pc + 3) ls (v.toList ++ rest)))
    (kx : ∀ x H1 locs1 q ce, r = .inr x → Rel G T1 H1 → va_S (own G) s.heap H1 locs1 → H1[q]? = some ce → ce.vm = .none → s.vm.findClass (xN x) = some ce.cls → vx_W p l e R s m args below meth c H1 locs1 (cells + mc) (slots + ms) Q (F0 m pc ls rest) q) : W p l e R s m args below meth c H locs cells slots Q (F0 m pc ls st0) := by
  intro T hT X
  rcases hr T hT X with ⟨v, st₀, t, T', L, h0, X', hL, e1, e2, ⟨⟨v', hv, hv2⟩, hRel, hF⟩, st⟩ | ⟨q, st₀, t, T', L, E, ce, h0, X', hL, e1, e2, ⟨⟨x, hv, hv2⟩, hRel, hF⟩, hce, hcv, hcl, st⟩
  · cases hv2
    have hS' : va_S (own G) s.heap T'.heap (locs ++ L) := (vx_keep h0 e1 hS (fun q _ h => h) (fun q h => h) hL hF).2.2
    obtain ⟨t2, a1, b1⟩ := kk v T'.heap (locs ++ L) hv (by rw [e1]; exact hRel) hS' T' rfl X'
    exact ⟨t2, st t2 a1, b1⟩
  · subst hv2
    have hS' : va_S (own G) s.heap T'.heap (locs ++ L) := (vx_keep h0 e1 hS (fun q _ h => h) (fun q h => h) hL hF).2.2
    obtain ⟨t2, a1, b1⟩ := kx x T'.heap (locs ++ L) q ce hv (by rw [e1]; exact hRel) hS' (by rw [e1]; exact hce) hcv hcl T' rfl X'
    exact ⟨t2, Steps.trans st a1, b1⟩
/-- a step that is no call -/
theorem step_sound {o nL : Nat} {ini : Bool} {i : Instr} {len pc' : Nat} {lv lv' : Loc0} {st st' : List Value} (hx : p.tables.exec = Jvm.exec) (hb : c.code = cc) (hown : s.vm.findClass (RN o) = some m.cls) (hts : ∀ w ∈ gw, w.before args s = true) (hini : ini = true → meth.name = "<init>") (hG : GS G s) (hs0 : ∀ q, q < (gH G).size → s.heap[q]? = (gH G)[q]?) (hs1 : (gH G).size ≤ s.heap.size) (hR : Rel G T H) (hS : va_S (own G) s.heap H locs) (hl : lv_has ls nL lv) (h : step o nL ini i pc lv st T = some (pc', lv', st', T')) (hlen : lenOk i len) (hd : decode cc pc = .ok (i, len)) (hc1 : cells + (tn T' - tn T) ≤ R.cells) (hc2 : slots + (tu T' - tu T) ≤ R.slots)
    (kk : ∀ H' locs' ls', Rel G T' H' → va_S (own G) s.heap H' locs' → lv_has ls' nL lv' → W p l e R s m args below meth c H' locs' (cells + (tn T' - tn T)) (slots + (tu T' - tu T)) Q (F0 m pc' ls' st')) : W p l e R s m args below meth c H locs cells slots Q (F0 m pc ls st) := by
  have e0 : ∀ n x : Nat, n + (x - x) = n := fun n x => by omega
  have hlen2 : (∀ d lo hi os, i ≠ .tableswitch d lo hi os) → len = ilen i := by
    intro hne
    cases i <;> first | exact hlen | exact absurd rfl (hne _ _ _ _)
  rcases step_cases h with ⟨h1, rfl, rfl, rfl⟩ | ⟨h1, rfl, rfl⟩ | ⟨h1, rfl, rfl⟩ | ⟨h1, rfl, rfl⟩
  · have hl2 : len = ilen i := hlen2 (fun d lo hi os z => by subst z; cases h1)
    subst hl2
    rw [e0, e0] at kk
    exact stk_sound hx hb hown hts h1 hd (kk H locs ls hR hS hl)
  · have hl2 : len = ilen i := hlen2 (fun d lo hi os z => by subst z; cases h1)
    subst hl2
    rw [e0, e0] at kk
    exact loc_sound hx hb hl h1 hd (fun ls' hl' => kk H locs ls' hR hS hl')
  · rw [e0, e0] at kk
    exact bra_sound hx hb h1 hlen hd (kk H locs ls hR hS hl)
  · have hl2 : len = ilen i := hlen2 (fun d lo hi os z => by subst z; cases h1)
    subst hl2
    exact hp_sound hx hb hown hts hini hG hs0 hs1 hR hS h1 hd hc1 hc2 (fun H' locs' r1 r2 => kk H' locs' ls r1 r2 hl)
theorem popN_eq {n : Nat} {st As st' : List Value} (h : popN n st = some (As, st')) : As.length = n ∧ st = As.reverse ++ st' := by
  unfold popN at h
  split at h <;> cases h <;> exact ⟨rfl, rfl⟩
theorem cat_le : ∀ (st : List Value), (st.map fun v => v.category).sum ≤ 2 * st.length := by
  intro st
  induction st with
  | nil => exact Nat.le_refl _
  | cons v st ih =>
    simp only [List.map_cons, List.sum_cons, List.length_cons]
    have : v.category ≤ 2 := by cases v <;> simp [Value.category]
    omega
theorem cls_ne (k : Nat) : RN k ≠ "java/lang/invoke/MethodHandle" ∧ RN k ≠ "java/lang/invoke/VarHandle" := by
  unfold RN
  split <;> decide
theorem cs0 {i : Instr} {idx : Nat} (h : csort i 0) (h2 : cixOf i = some idx) : i = .invokevirtual idx := by
  cases i <;> first | (cases h; done) | (cases h2; rfl) | (exact absurd h (by simp [csort]))
theorem cs1 {i : Instr} {idx : Nat} (h : csort i 1) (h2 : cixOf i = some idx) : i = .invokestatic idx := by
  cases i <;> first | (cases h; done) | (cases h2; rfl) | (exact absurd h (by simp [csort]))
theorem cs2 {i : Instr} {idx : Nat} (h : csort i 2) (h2 : cixOf i = some idx) : i = .invokestatic idx := by
  cases i <;> first | (cases h; done) | (cases h2; rfl) | (exact absurd h (by simp [csort]))
theorem cs3 {i : Instr} {idx : Nat} (h : csort i 3) (h2 : cixOf i = some idx) : i = .invokespecial idx := by
  cases i <;> first | (cases h; done) | (cases h2; rfl) | (exact absurd h (by simp [csort]))
theorem cs4 {i : Instr} {idx : Nat} (h : csort i 4) (h2 : cixOf i = some idx) : i = .invokespecial idx := by
  cases i <;> first | (cases h; done) | (cases h2; rfl) | (exact absurd h (by simp [csort]))
theorem cs5 {i : Instr} {idx : Nat} (h : csort i 5) (h2 : cixOf i = some idx) : i = .invokestatic idx := by
  cases i <;> first | (cases h; done) | (cases h2; rfl) | (exact absurd h (by simp [csort]))
set_option maxRecDepth 100000 in
theorem room_l {f ml L : Nat} (h : ml ≤ 20) (h2 : 40 * f + 79 ≤ L) : 8 + (ml + 11) + (40 * f + 40) ≤ L := by
  generalize 40 * f = z at *
  omega
/-- a call of a method whose calls are sound -/
theorem call_sound {d : Nat} {o idx k mid : Nat} {i : Instr} {M' : MI} {As st' st2 st : List Value} {r : Out} {T1 : TS} (hC : CSound l d) (hx : p.tables.exec = Jvm.exec) (hb : c.code = cc) (hml : c.maxLocals = ls.size) (hown : s.vm.findClass (RN o) = some m.cls) (hts : ∀ w ∈ gw, w.before args s = true) (hG : GS G s) (hR : Rel G T H) (hS : va_S (own G) s.heap H locs) (hi : cixOf i = some idx) (hc : callOf o idx = some (k, mid)) (hs : csort i k) (hk : k ≤ 3) (hM : mth mid = some M') (hp : popN M'.2.2.2.2.2.2 st = some (As, st')) (hv : if M'.2.2.2.2.2.1 then st2 = st' else ∃ a, st' = .ref a :: st2 ∧ (k = 3 ∨ tK T a = M'.2.2.2.2.1 + 1 ∨ (tK T a = 23 ∧ M'.2.2.2.2.1 = 0))) (h4 : st2.length ≤ 4) (hcall : Call d mid (if M'.2.2.2.2.2.1 then As else st'.take 1 ++ As) T r T1) (hd : decode cc pc = .ok (i, 3)) (hRf : frT mid + 1 ≤ R.frames) (hRl : 40 * frT mid + 79 ≤ R.locals) (hc1 : cells + (tn T1 - tn T) ≤ R.cells) (hc2 : slots + (tu T1 - tu T) ≤ R.slots)
    (kk : ∀ v H1 locs1, r = .inl v → Rel G T1 H1 → va_S (own G) s.heap H1 locs1 → W p l e R s m args below meth c H1 locs1 (cells + (tn T1 - tn T)) (slots + (tu T1 - tu T)) Q (F0 m (pc + 3) ls (v.toList ++ st2)))
    (kx : ∀ x H1 locs1 q ce, r = .inr x → Rel G T1 H1 → va_S (own G) s.heap H1 locs1 → H1[q]? = some ce → ce.vm = .none → s.vm.findClass (xN x) = some ce.cls → vx_W p l e R s m args below meth c H1 locs1 (cells + (tn T1 - tn T)) (slots + (tu T1 - tu T)) Q (F0 m pc ls st2) q) : W p l e R s m args below meth c H locs cells slots Q (F0 m pc ls st) := by
  have hMet := hC mid M' _ T r T1 G hM hcall
  obtain ⟨pp, hm1, hm2, hm3, hm4⟩ := m_ok hM
  obtain ⟨pcode, hcode⟩ := m_code hM
  have hcodeW : (.code M'.1 M'.2.1 M'.2.2.1 M'.2.2.2.1) ∈ gw := gw_of hcode rfl
  have hiniW : (.initialized M'.1.cls) ∈ gw := gw_of hm1 rfl
  have hargs := m_args hM
  obtain ⟨hl20, hplain, hnh⟩ := m_ml hM
  have hws : ∀ w ∈ (.code M'.1 M'.2.1 M'.2.2.1 M'.2.2.2.1 :: gw), ∀ (a' : Array Value) (U : State), s.WarmedH U.vm → w.before a' U = true := by
    intro w hw a' U hW
    rcases List.mem_cons.mp hw with rfl | hw
    · exact word_at hW (gw_good hcodeW) (hts _ hcodeW)
    · exact word_at hW (gw_good hw) (hts _ hw)
  have hlen : ∀ sig, parseMethodDescriptor M'.1.desc = some sig → M'.2.2.2.2.2.2 = sig.parameters.length := by
    intro sig h
    rw [h] at hargs
    exact (Option.some.inj hargs).symm
  obtain ⟨hAl, hst⟩ := popN_eq hp
  have hW8 : 2 * 0 + (st2.map fun v => v.category).sum ≤ 8 := by have := cat_le st2; omega
  obtain ⟨ent, hent, hek⟩ : ∃ ent ∈ callT, ent.1 = (o, idx) ∧ ent.2.1 = k ∧ ent.2.2.1 = mid := by
    unfold callOf at hc
    cases hz : callT.lookup (o, idx) with
    | none => rw [hz] at hc; cases hc
    | some x =>
      rw [hz] at hc
      simp at hc
      exact ⟨_, lookup_mem hz, rfl, hc.1, hc.2⟩
  obtain ⟨⟨eo, ei⟩, ek, em, ep⟩ := ent
  obtain ⟨q1, q2, q3⟩ := hek
  cases q1
  have q2 : ek = k := q2
  have q3 : em = mid := q3
  subst q2
  subst q3
  obtain ⟨hw1, hw2⟩ := call_all _ hent
  have hchk := call_chk _ hent
  unfold callB at hchk
  rw [show mth ((o, idx), ek, em, ep).2.2.1 = some M' from hM] at hchk
  have hmY : mY em = M'.1 := by unfold mY; rw [hM]; rfl
  have hfix : CallFix p m c cc ls.size s args gw (RN o) := ⟨hx, hb, hml, hown, hts⟩
  have hCB : ∀ {rt : Option FieldType}, M'.2.2.2.1 = rt → (Jvm.Cond.methodLink (RN o) idx M'.1).before args s = true → CallB R s args (RN o) idx M'.1 M'.2.1 M'.2.2.1 rt (.code M'.1 M'.2.1 M'.2.2.1 M'.2.2.2.1 :: gw) (rmS em (tn T1 - tn T) (tu T1 - tu T)) (tn T1 - tn T) (tu T1 - tu T) M'.2.2.2.2.2.2 := by
    intro rt hrt hlk
    subst hrt
    refine ⟨rfl, rfl, ?_, ?_, hws, List.mem_cons_self, hts _ hcodeW, hts _ hiniW, hnh, hlen, hlk⟩
    · exact hRf
    · exact room_l hl20 hRl
  match ek, hk with
  | 0, _ =>
    simp only [Bool.and_eq_true, Bool.not_eq_true', decide_eq_true_eq] at hchk
    obtain ⟨hstat, hnin⟩ := hchk
    rw [hstat] at hv hcall hm2 hMet
    simp only [Bool.false_eq_true, if_false] at hv hcall hm2 hMet
    obtain ⟨a, rfl, hrec⟩ := hv
    have ho := m_st hM hstat
    have hlink : (Jvm.Cond.methodLink (RN o) idx M'.1).before args s = true := by
      have h9 := hts _ (gw_of hw1 (hw2 (fun z => by cases z)))
      unfold callW at h9
      simpa [hmY] using h9
    have hsel := hm3 hstat hnin
    have hcell : ∃ cellB : Cell, H[a]? = some cellB ∧ cellB.vm.isStatics = false ∧ s.vm.findClass M'.1.cls = some cellB.cls := by
      obtain ⟨-, -, -, hk9, g, hl9, hbk9, hP9⟩ := hR
      rcases hrec with h3 | h3 | ⟨h3, h5⟩
      · cases h3
      · rw [hm4]
        exact va_recv hG.1 (at_one (hP9 a _ (cel_obj h3 ho))) (kcl_at ho) (q0 := 0) rfl
      · rw [hm4, h5]
        refine va_recv hG.1 (at_one (hP9 a (.inr (0, [.int (g.2.1 a), va_rf (g.1 a), .int (nI (tL T a).length)])) ?_)) (kcl_at (by omega)) (q0 := 0) rfl
        unfold cel
        rw [h3]
        rfl
    have hi9 := cs0 hs hi
    subst hi9
    refine m_call (vx_runV (C := M'.1.cls) (b := a) (As := As) (rest := st2) hfix hMet ⟨hCB rfl hlink, hts _ (gw_of hm2 rfl), hts _ (gw_of hsel rfl)⟩ ⟨PcG_blind, hcell, fun U hU hW => ⟨rfl, by rw [hU]; exact hR, GS.warm hW hG⟩⟩ rfl hAl rfl hst hW8 hd ⟨hc1, hc2⟩) hS kk kx
  | 1, _ =>
    have hstat : M'.2.2.2.2.2.1 = true := hchk
    rw [hstat] at hv hcall hm2 hMet
    simp only [if_true] at hv hcall hm2 hMet
    subst hv
    have hlink : (Jvm.Cond.methodLink (RN o) idx M'.1).before args s = true := by
      have h9 := hts _ (gw_of hw1 (hw2 (fun z => by cases z)))
      unfold callW at h9
      simpa [hmY] using h9
    have hi9 := cs1 hs hi
    subst hi9
    refine m_call (vx_runS (As := As) (rest := st2) hfix hMet ⟨hCB rfl hlink, hts _ (gw_of hm2 rfl)⟩ ⟨PcG_blind, fun U hU hW => ⟨rfl, by rw [hU]; exact hR, GS.warm hW hG⟩⟩ rfl hAl rfl hst hW8 hd ⟨hc1, hc2⟩) hS kk kx
  | 2, _ =>
    have hstat : M'.2.2.2.2.2.1 = true := hchk
    rw [hstat] at hv hcall hm2 hMet
    simp only [if_true] at hv hcall hm2 hMet
    subst hv
    have hlink : va_Nw (.methodLinkNest (RN o) idx M'.1 "DedupVault") s := by
      have h9 := nest_in _ hent rfl
      unfold callW at h9
      rw [show mY (((o, idx), 2, em, ep) : (Nat × Nat) × Nat × Nat × Nat).2.2.1 = M'.1 from hmY] at h9
      exact hG.2.1 _ h9
    have hi9 := cs2 hs hi
    subst hi9
    refine m_call (vx_runSN (host := "DedupVault") (As := As) (rest := st2) hfix hMet ⟨⟨⟨rfl, rfl, hRf, room_l hl20 hRl, hws, List.mem_cons_self⟩, hts _ hcodeW, hts _ hiniW, hnh, hlen, va_Nw.use rfl hlink⟩, hts _ (gw_of hm2 rfl), trivial⟩ ⟨PcG_blind, fun U hU hW => ⟨rfl, by rw [hU]; exact hR, GS.warm hW hG⟩⟩ rfl hAl rfl hst hW8 hd ⟨hc1, hc2⟩) hS kk kx
  | 3, _ =>
    simp only [Bool.and_eq_true, Bool.not_eq_true', decide_eq_true_eq] at hchk
    obtain ⟨⟨hstat, hnin⟩, hret⟩ := hchk
    rw [hstat] at hv hcall hm2 hMet
    simp only [Bool.false_eq_true, if_false] at hv hcall hm2 hMet
    obtain ⟨a, rfl, -⟩ := hv
    have hret : M'.2.2.2.1 = none := Option.isNone_iff_eq_none.mp hret
    have hlink : (Jvm.Cond.methodLink (RN o) idx M'.1).before args s = true := by
      have h9 := hts _ (gw_of hw1 (hw2 (fun z => by cases z)))
      unfold callW at h9
      simpa [hmY] using h9
    have hi9 := cs3 hs hi
    subst hi9
    refine m_call (vx_runI (b := a) (As := As) (rest := st2) hfix hMet ⟨hCB hret hlink, hnin, hts _ (gw_of hm2 rfl)⟩ ⟨PcG_blind, fun U hU hW => ⟨rfl, by rw [hU]; exact hR, GS.warm hW hG⟩⟩ rfl hAl rfl hst hW8 hd ⟨hc1, hc2⟩) hS kk kx
end SND
