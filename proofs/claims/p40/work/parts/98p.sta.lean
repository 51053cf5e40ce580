/-! THE CLAIM OUT OF ONE WALK OF THE LAW'S BODY. Your part is whole_start (and what it stands on); all else here is the same for every law, but numbers. -/
def R_law : String := "DedupVaultLaw"
def lw_P (b : Addr) (xs : List Int32) (args : Array Value) (s : State) : Prop := args = #[.ref b] ∧ s.IntsAt b xs ∧ xs.length ≤ 260 ∧ (Jvm.Cond.and given_1 narrow_1).before args s = true
/-- what a walk over the start with the record d0 says of its end, said of the start itself -/
theorem lw_closed {s t : State} {o : Outcome} {d0 : Drawn} {L : List Loc} {k n : Nat} (hd0 : s.drawn.sameBut d0 lw_cs) (hv : ∃ v, o = .returned v) (hW : (s.setDrawn d0).WarmedH t.vm) (hs : (s.setDrawn d0).sameButNew ({ t with vm := s.vm } : State) L k n) : State.butDraws s t lw_cs (fun t1 => Framed s o t1 L k n) := by
  have h2 : t.drawn = d0 := congrArg State.drawn hs.1
  refine ⟨⟨hv, hW, State.sameButNew.setDrawn hs s.drawn⟩, ?_, by decide⟩
  rw [h2]
  exact hd0
def lw_Q (_ : Array Value) (s : State) (o : Outcome) (t : State) : Prop := o = .returned (some (.int 1)) ∧ State.butDraws s t lw_cs (fun t1 => Framed s o t1 [] 602631 7293732)
def lw_Z (below : List Frame) (a : Array Value) (s : State) : State → Prop := fun t => ∃ o, t.status = .running ∧ Ended t below o ∧ lw_Q a s o t
/-- the law's own end, with 1 on the stack, nothing written that was there before, its room as the claim has it; d0: the record of draws at this point (at the entry s.drawn: begin with 'refine W.base ?_' and 'have hd0 := Drawn.sameBut.refl s.drawn lw_cs') -/
theorem lw_ret {p : Program} {l : Launch} {e : Env} {s : State} {m : MethodId} {below : List Frame} {meth : Method} {c : Code} {b : Nat} {d0 : Drawn} (hd0 : s.drawn.sameBut d0 lw_cs) (hx : p.tables.exec = Jvm.exec) (hb : c.code = code) (hr : meth.sig.returnType = ret) (hlocks : meth.locks = false) {pc : Nat} {H : Heap} {ls : Array Slot} (hdg : decode code pc = .ok (.ireturn, 1)) : W p l e room_1 (s.setDrawn d0) m #[Value.ref b] below meth c H [] 602631 7293732 (lw_Z below #[Value.ref b] s) (F0 m pc ls [.int 1]) := by
  intro T hT X
  obtain ⟨fs, hret, hrun, hended, hW, hframe⟩ := X.leave (v := some (.int 1)) (hlocks := hlocks) (fun h => by rw [hr] at h; cases h)
  have hmeth' : T.vm.method? m = some meth := X.method'
  refine ⟨T.setFrames fs, ?_, .returned (some (.int 1)), hrun, hended, rfl, lw_closed hd0 ⟨_, rfl⟩ hW hframe⟩
  jvm_step X.here [X.here.top, hx, hb, hdg, hmeth', hr, ret, narrow_b1]
  (try refine ⟨rfl, ?_⟩); (try refine ⟨rfl, ?_⟩)
  first | (intro acts; rw [hret _ acts rfl rfl rfl]) | rw [hret _ _ rfl rfl rfl]
  exact Steps.refl _
/-- what holds at the law's entry: the machine, the code, the tables' words (any of lw_tbl by 'hts w (by decide +kernel)'), the script of L ints xs at the cell b, what the Statement gives of the start (any of its parts by flat_of_before) -/
def lw_At (p : Program) (s : State) (m : MethodId) (meth : Method) (c : Code) (b L : Nat) (xs : Nat → Int32) : Prop :=
  p.tables.exec = Jvm.exec ∧ c.code = code ∧ meth.sig.returnType = ret ∧ c.maxLocals = 1 ∧ s.vm.findClass R_law = some m.cls ∧ (∀ w ∈ lw_tbl, w.before #[Value.ref b] s = true) ∧ va_X b L xs s s.heap ∧ b < s.heap.size ∧ meth.locks = false ∧ (Jvm.Cond.and given_1 narrow_1).before #[Value.ref b] s = true

/-! the law's start: the store of the start, the fixed things, and the run -/
def T0 (n b L : Nat) (xs : Nat → Int32) : TS := (n, 0, fun a => if a = b then 26 else 0, fun _ _ => 0, fun _ _ => none, fun _ => xs, fun _ => L, fun _ _ => 0, fun _ => [], fun _ => 0)
theorem T0_k {n b L : Nat} {xs : Nat → Int32} {a : Nat} (h : tK (T0 n b L xs) a ≠ 0) : a = b := by
  by_cases e : a = b
  · exact e
  · exact absurd (show (if a = b then 26 else 0) = 0 from if_neg e) h
theorem T0_b {n b L : Nat} {xs : Nat → Int32} : tK (T0 n b L xs) b = 26 := if_pos rfl
theorem T0_wf {n b L : Nat} {xs : Nat → Int32} (h : b < n) : wf (T0 n b L xs) := by
  intro a ha
  show (if a = b then 26 else 0) = 0
  exact if_neg (by have : n ≤ a := ha; omega)
theorem T0_rel {G : GP} {H : Heap} (h : gH G = H) (hb : gB G < H.size) : Rel G (T0 H.size (gB G) (gS G) (gX G)) H := by
  subst h
  refine ⟨rfl, Nat.le_refl _, fun q hq => rfl, fun a ha => ?_, (fun _ => none, fun _ => 0, fun _ => none), fun a ha => ?_, fun e o ho => (nomatch ho), fun a e he => ?_⟩
  · cases T0_k ha
    exact Or.inr ⟨T0_b, rfl, rfl, rfl, hb⟩
  · have := T0_k (a := a) (by rw [ha]; decide)
    subst this
    rw [T0_b] at ha
    cases ha
  · by_cases e0 : tK (T0 (gH G).size (gB G) (gS G) (gX G)) a = 0
    · unfold cel at he
      rw [if_pos e0] at he
      cases he
    · cases T0_k e0
      unfold cel at he
      rw [T0_b] at he
      simp at he
set_option maxRecDepth 100000 in
theorem st_inst : ∀ c, c < 9 → ∃ n, .instantiable (RN c) n ∈ lw_tbl := by
  intro c hc
  match c, hc with
  | 0, _ => exact ⟨3, List.mem_of_getElem? (i := 66) (by decide +kernel)⟩
  | 1, _ => exact ⟨4, List.mem_of_getElem? (i := 608) (by decide +kernel)⟩
  | 2, _ => exact ⟨3, List.mem_of_getElem? (i := 100) (by decide +kernel)⟩
  | 3, _ => exact ⟨4, List.mem_of_getElem? (i := 468) (by decide +kernel)⟩
  | 4, _ => exact ⟨2, List.mem_of_getElem? (i := 52) (by decide +kernel)⟩
  | 5, _ => exact ⟨6, List.mem_of_getElem? (i := 92) (by decide +kernel)⟩
  | 6, _ => exact ⟨5, List.mem_of_getElem? (i := 559) (by decide +kernel)⟩
  | 7, _ => exact ⟨5, List.mem_of_getElem? (i := 44) (by decide +kernel)⟩
  | 8, _ => exact ⟨4, List.mem_of_getElem? (i := 608) (by decide +kernel)⟩
  | k + 9, h => omega
set_option maxRecDepth 100000 in
theorem st_nw : ∀ w ∈ NWl, w ∈ lw_tbl := by decide +kernel
theorem st_known {s : State} {args : Array Value} (hts : ∀ w ∈ lw_tbl, w.before args s = true) : ∃ D : va_G, ∀ c, c < 9 → u_Kn s (RN c) (TN c) (NN c) (D.1 c) (D.2 c) := by
  have h : ∀ c, ∃ z : ClassId × (Nat → Nat), c < 9 → u_Kn s (RN c) (TN c) (NN c) z.1 z.2 := by
    intro c
    by_cases hc : c < 9
    · obtain ⟨n, hn⟩ := st_inst c hc
      obtain ⟨cC, iS, h⟩ := u_known (fun w hw => hts w (gw_in hw).1) (u_in hc) (hts _ hn)
      exact ⟨(cC, iS), fun _ => h⟩
    · exact ⟨((0 : Nat), fun _ => 0), fun h => absurd h hc⟩
  exact ⟨(fun c => (Classical.choose (h c)).1, fun c => (Classical.choose (h c)).2), fun c hc => Classical.choose_spec (h c) hc⟩
theorem st_arr {s : State} {args : Array Value} {ty : FieldType} (h : (Cond.arrayClass ty).before args s = true) (h9 : ∀ C, ty ≠ .object C) : ∃ cA : ClassId, ArrOfT s cA ty ∧ va_RA s cA ty := by
  obtain ⟨c, k, comp, h1, h2, h3⟩ := Cond.arrayClass_spec h
  refine ⟨c, fun n z => ⟨fun k9 h => (by cases h), k, h2, comp, h3⟩, ?_⟩
  cases ty with
  | object C => exact absurd rfl (h9 C)
  | _ => exact h1
theorem st_arrO {s : State} {args : Array Value} {C : String} (h : (Cond.arrayOver (.object C)).before args s = true) : ∃ cA : ClassId, ArrOfT s cA (.object C) ∧ va_RA s cA (.object C) := by
  obtain ⟨comp, c, k, h1, h2, h3, h4, h5⟩ := Cond.arrayOver_spec h
  exact ⟨c, fun n z => ⟨fun k9 h => (by cases h), k, h3, comp, h4⟩, k, comp, h3, h4, h1, h5⟩
theorem W_widen {p : Program} {l : Launch} {e : Env} {R : Room} {s : State} {m : MethodId} {args : Array Value} {below : List Frame} {meth : Method} {c : Code} {H : Heap} {locs : List Loc} {cells slots : Nat} {Q : State → Prop} {g : JFrame} {k n : Nat} (h1 : cells ≤ k) (h2 : slots ≤ n) (kk : W p l e R s m args below meth c H locs k n Q g) : W p l e R s m args below meth c H locs cells slots Q g := fun T hT X => kk T hT (stand_widen X h1 h2)
set_option maxRecDepth 100000 in
theorem st_GS {s : State} {args : Array Value} {b L : Nat} {xs : Nat → Int32} (hts : ∀ w ∈ lw_tbl, w.before args s = true) (h : (Jvm.Cond.and given_1 narrow_1).before args s = true) (hX : va_X b L xs s s.heap) (hb : b < s.heap.size) : ∃ G : GP, gH G = s.heap ∧ gB G = b ∧ gS G = L ∧ gX G = xs ∧ GS G s := by
  have hs := flat_of_before _ h
  obtain ⟨D, hD⟩ := st_known hts
  obtain ⟨c0, i1, i2⟩ := st_arr (ty := .int) (hts _ (List.mem_of_getElem? (i := 64) (by decide +kernel))) (fun C h => by cases h)
  obtain ⟨c2, l1, l2⟩ := st_arr (ty := .long) (hts _ (List.mem_of_getElem? (i := 298) (by decide +kernel))) (fun C h => by cases h)
  have hover : (Cond.arrayOver (.object "java/lang/Object")).before args s = true := hts _ (List.mem_of_getElem? (i := 165) (by decide +kernel))
  obtain ⟨c3, o1, o2⟩ := st_arrO hover
  have hA : ∀ a : Nat, a < s.heap.size → ¬ (fun q => s.heap.size ≤ q) a := fun a h1 h2 => Nat.not_le_of_lt h1 h2
  have hini : (Cond.initialized "java/util/ArrayList").before args s = true := hts _ (by decide +kernel)
  have hinT : (Cond.initialized "java/lang/Throwable").before args s = true := hts _ (by decide +kernel)
  have hE : (Term.length (.static "java/util/ArrayList" "DEFAULTCAPACITY_EMPTY_ELEMENTDATA" "[Ljava/lang/Object;")).eval args s none [] s = some (.int 0) := va_eqt (hs _ (by decide +kernel))
  obtain ⟨t, ht, hT⟩ := va_Tof (N := 0) (f := fun _ => .null) (ty := .object "java/lang/Object") (tm := .static "java/util/ArrayList" "DEFAULTCAPACITY_EMPTY_ELEMENTDATA" "[Ljava/lang/Object;") (by decide) (hs _ (by decide +kernel)) hE (fun j hj => absurd hj (Nat.not_lt_zero j)) hA
  have hZ := va_Zof (hts (.laysStatic "java/util/ArrayList" "DEFAULTCAPACITY_EMPTY_ELEMENTDATA" "[Ljava/lang/Object;") (List.mem_of_getElem? (i := 78) (by decide +kernel))) hini ht hA
  have hU := vx_Zqof (C := Bundle.tN) (n := "UNASSIGNED_STACK") (d := Bundle.steD) (hts _ (List.mem_of_getElem? (i := 262) (by decide +kernel))) hinT (hs _ (by decide +kernel)) hA
  have hN := vx_Zqof (C := Bundle.tN) (n := "SUPPRESSED_SENTINEL") (d := Bundle.listD) (hts _ (List.mem_of_getElem? (i := 264) (by decide +kernel))) hinT (hs _ (by decide +kernel)) hA
  refine ⟨(D, (fun k => if k = 0 then c0 else if k = 1 then c0 else if k = 2 then c2 else c3), s.heap, t, b, L, xs), rfl, rfl, rfl, rfl, ⟨fun c q hq => ?_, fun k q hq => ?_⟩, fun w hw => va_Nw.of (NW_on w hw) (hts w (st_nw w hw)), hU, hN, hX, hb, hZ, ⟨_, hT⟩, va_AO.of hover, va_Mi.of (hs _ (by decide +kernel))⟩
  · have h9 : c < 9 := (List.getElem?_eq_some_iff.mp hq).1
    rw [kcl_at h9] at hq
    cases hq
    exact hD c h9
  · have h9 : k < 4 := (List.getElem?_eq_some_iff.mp hq).1
    match k, h9 with
    | 0, _ => cases hq; exact ⟨i1, i2⟩
    | 1, _ => cases hq; exact ⟨i1, i2⟩
    | 2, _ => cases hq; exact ⟨l1, l2⟩
    | 3, _ => cases hq; exact ⟨o1, o2⟩
    | z + 4, h => omega
theorem ret_inv {i : Instr} {st : List Value} {z : Int32} (h : endF (some .boolean) i st = some (some (.int z))) : i = .ireturn ∧ st = [.int z] := by
  unfold endF at h
  split at h
  · split at h
    · split at h
      · cases h
        exact ⟨rfl, rfl⟩
      · cases h
    · cases h
  · split at h <;> first | (split at h <;> cases h) | cases h
  · split at h <;> first | (split at h <;> cases h) | cases h
  · split at h <;> first | (split at h <;> cases h) | cases h
  · cases h
theorem lw_endR {p : Program} {l : Launch} {e : Env} {s : State} {m : MethodId} {below : List Frame} {meth : Method} {c : Code} {b : Nat} {G : GP} {n0 u0 : Nat} {T1 : TS} (hx : p.tables.exec = Jvm.exec) (hb : c.code = code) (hr : meth.sig.returnType = ret) (hlocks : meth.locks = false) (hH : gH G = s.heap) (h1 : tn T1 - n0 ≤ 602631) (h2 : tu T1 - u0 ≤ 7293732) {i : Instr} {v : Option Value} {pc : Nat} {st : List Value} {H1 : Heap} {locs : List Loc} {ls : Array Slot} (hd : decode code pc = .ok (i, ilen i)) (he : endF (some .boolean) i st = some v) (ho : (.inl (some (.int (nI 1))) : Out) = .inl v) (hS : va_S (own G) s.heap H1 locs) : W p l e room_1 s m #[Value.ref b] below meth c H1 locs (tn T1 - n0) (tu T1 - u0) (lw_Z below #[Value.ref b] s) (F0 m pc ls st) := by
  cases ho
  obtain ⟨rfl, rfl⟩ := ret_inv he
  refine W_widen h1 h2 (va_forget (fun q hq => ?_) ?_)
  · have := hS.2.2 q hq
    rw [← hH]
    exact this
  · exact W.base (lw_ret (Drawn.sameBut.refl s.drawn lw_cs) hx hb hr hlocks hd)
set_option maxRecDepth 100000 in
theorem frT_12 (k : Nat) : frT k ≤ 12 := by
  have h : ∀ x ∈ frL, x ≤ 12 := by decide +kernel
  unfold frT
  cases hz : frL[k]? with
  | none => exact Nat.le_of_ble_eq_true rfl
  | some x => exact h x (List.mem_of_getElem? hz)
theorem st_room1 : room_1.frames = 15 ∧ room_1.locals = 618 := ⟨rfl, rfl⟩
theorem start_law {p : Program} {e : Env} {s : State} {m : MethodId} {below : List Frame} {meth : Method} {c : Code} (l : Launch) (hD : DNN) (hE : DCQ) (hE0 : Op.cmpValue (FP.dcmp FP.dconst0 FP.dconst0) .l = 0) (hst : l.stackTraces = false) (hLs : LSound l) {b L : Nat} {xs : Nat → Int32} (hL : L ≤ 260) (C0 : lw_At p s m meth c b L xs) : W p l e room_1 s m #[Value.ref b] below meth c s.heap [] 0 0 (lw_Z below #[Value.ref b] s) (entryFrame m ([Value.ref b] : List Value).toArray 1) := by
  obtain ⟨hx, hb, hr, hml, hown, hts, hX, hbl, hlocks, hgv⟩ := C0
  obtain ⟨G, g1, g2, g3, g4, hG⟩ := st_GS hts hgv hX hbl
  have hR : Rel G (T0 s.heap.size b L xs) s.heap := by
    have h := T0_rel g1 (by rw [g2]; exact hbl)
    rw [g2, g3, g4] at h
    exact h
  obtain ⟨n, out, T1, hrun, ho, ht1, ht2⟩ := law_entry (Q := fun out T' => out = .inl (some (.int (nI 1))) ∧ tn T' ≤ s.heap.size + 57000 ∧ tu T' ≤ 0 + 1740000) hD hE hE0 (T0_wf hbl) T0_b rfl hL (fun T' h => ⟨rfl, h⟩)
  subst ho
  have hgw : ∀ w ∈ gw, w.before #[Value.ref b] s = true := fun w hw => hts w (gw_in hw).1
  have hl := lv_entry [Value.ref b] (n := 1) (Nat.le_of_ble_eq_true rfl)
  rw [lg_entry_eq]
  generalize (lg_sl [Value.ref b] ++ List.replicate (1 - (lg_sl [Value.ref b]).length) Slot.unset).toArray = ls at hl ⊢
  have hS : va_S (own G) s.heap s.heap [] := va_S.rf
  have hc1 : tn T1 - s.heap.size ≤ 602631 := by omega
  have hc2 : tu T1 - 0 ≤ 7293732 := by omega
  have K := run_sound (p := p) (l := l) (e := e) (R := room_1) (s := s) (m := m) (args := #[Value.ref b]) (below := below) (meth := meth) (c := c) (Q := lw_Z below #[Value.ref b] s) (G := G) (d := 12) (n0 := s.heap.size) (u0 := 0) (M := ML_law) (hs := []) (out := .inl (some (.int (nI 1)))) (T' := T1)
    hx hb hml hown hgw (fun z => by cases z) hG (fun q _ => by rw [g1]) (by rw [g1]; exact Nat.le_refl _) (by rw [st_room1.1]; decide) (by rw [st_room1.2]; decide) hc1 hc2
    (call_ok (Call_sound hst hLs 12) hx hb hown hgw hG (fun pc9 idx9 k9 mid9 i9 q1 q2 q3 q4 => by
      have := frT_12 mid9
      rw [st_room1.1, st_room1.2]
      exact ⟨by omega, by omega⟩))
    (fun i v pc1 st1 H1 locs1 ls1 q1 q2 q3 q4 q5 => lw_endR hx hb hr hlocks g1 hc1 hc2 q1 q2 q3 q5)
    (fun x pc1 st1 H1 locs1 ls1 q ce q1 => by cases q1)
    (fun x idx pc1 st1 T9 H1 locs1 ls1 q1 => by cases q1)
    (fun x h9 pc1 st1 H1 locs1 cells1 slots1 ls1 q ce q1 => by cases q1)
    n 0 _ [] (T0 s.heap.size b L xs) s.heap [] ls hrun hR hS hl (Nat.le_refl _) (Nat.le_refl _)
  rw [show tn (T0 s.heap.size b L xs) = s.heap.size from rfl, show tu (T0 s.heap.size b L xs) = 0 from rfl, Nat.sub_self, Nat.sub_self] at K
  exact K
