/-- the list methods do what the store says -/
def LSound (l : Launch) : Prop := ∀ (mid : Nat) (M : MI) (As : List Value) (T : TS) (r : Out) (T1 : TS) (G : GP), mth mid = some M → lst mid As T r T1 → vx_Met l M.1 (.code M.1 M.2.1 M.2.2.1 M.2.2.2.1 :: gw) (rmS mid (tn T1 - tn T) (tu T1 - tu T)) (PcG G T As) (QcG G r T1) (XcG G r T1) (tn T1 - tn T) (tu T1 - tu T) (own G)
theorem lwH_nil (mid : Nat) : lwH mid = [] := rfl
theorem call_ok {p : Program} {l : Launch} {e : Env} {R : Room} {s : State} {m : MethodId} {args : Array Value} {below : List Frame} {meth : Method} {c : Code} {Q : State → Prop} {cc : ByteArray} {G : GP} {o d : Nat} (hC : CSound l d) (hx : p.tables.exec = Jvm.exec) (hb : c.code = cc) (hown : s.vm.findClass (RN o) = some m.cls) (hts : ∀ w ∈ gw, w.before args s = true) (hG : GS G s) (hF : ∀ (pc idx k mid : Nat) (i : Instr), decode cc pc = .ok (i, 3) → cixOf i = some idx → callOf o idx = some (k, mid) → k ≤ 3 → frT mid + 1 ≤ R.frames ∧ 40 * frT mid + 79 ≤ R.locals) : CallOK p l e R s m args below meth c Q cc G o d := by
  intro idx k mid i M' As st' st2 st r T T1 H locs cells slots pc ls hml hR hS hi hc hs hk hM hp hv h4 hcall hd hc1 hc2 kk kx
  obtain ⟨f1, f2⟩ := hF pc idx k mid i hd hi hc hk
  exact call_sound hC hx hb hml hown hts hG hR hS hi hc hs hk hM hp hv h4 hcall hd f1 f2 hc1 hc2 kk kx
theorem end_sound {p : Program} {l : Launch} {e : Env} {R : Room} {s : State} {m : MethodId} {args : Array Value} {below : List Frame} {meth : Method} {c : Code} {H : Heap} {locs : List Loc} {cells slots : Nat} {Qc : Array Value → State → Outcome → State → Prop} {free : Addr → Prop} {cc : ByteArray} {pc : Nat} {ls : Array Slot} {rt : Option FieldType} {i : Instr} {st : List Value} {v : Option Value} (hx : p.tables.exec = Jvm.exec) (hb : c.code = cc) (hr : meth.sig.returnType = rt) (hlocks : meth.locks = false) (h : endF rt i st = some v) (hd : decode cc pc = .ok (i, ilen i)) (hq : ∀ t : State, t.heap = H → s.WarmedH t.vm → Qc args s (.returned v) t) (hf : ∀ q ∈ locs, free q.base) : W p l e R s m args below meth c H locs cells slots (MQ below Qc args s cells slots free) (F0 m pc ls st) := by
  unfold endF at h
  split at h
  · split at h
    · split at h
      · rename_i hrt
        cases h
        rcases hrt with rfl | ⟨rfl, hz⟩
        · exact W.iret hx hb hr hq hf hd hlocks
        · refine W.zret hx hb hr ?_ hq hf hd hlocks
          rcases hz with rfl | rfl <;> rfl
      · cases h
    · cases h
  · split at h
    · split at h
      · rename_i hrt
        cases h
        obtain ⟨rt', rfl, hk⟩ : ∃ rt', rt = some rt' ∧ ((∃ n, rt' = .object n) ∨ ∃ t, rt' = .array t) := by
          unfold rtRef at hrt
          split at hrt
          · exact ⟨_, rfl, Or.inl ⟨_, rfl⟩⟩
          · exact ⟨_, rfl, Or.inr ⟨_, rfl⟩⟩
          · cases hrt
        exact W.aret hx hb hr hk (Or.inr ⟨_, rfl⟩) hq hf hd hlocks
      · cases h
    · split at h
      · rename_i hrt
        cases h
        obtain ⟨rt', rfl, hk⟩ : ∃ rt', rt = some rt' ∧ ((∃ n, rt' = .object n) ∨ ∃ t, rt' = .array t) := by
          unfold rtRef at hrt
          split at hrt
          · exact ⟨_, rfl, Or.inl ⟨_, rfl⟩⟩
          · exact ⟨_, rfl, Or.inr ⟨_, rfl⟩⟩
          · cases hrt
        exact W.aret hx hb hr hk (Or.inl rfl) hq hf hd hlocks
      · cases h
    · cases h
  · split at h
    · split at h
      · rename_i hrt
        cases h
        exact W.dret hx hb (hr.trans hrt) hq hf hd hlocks
      · cases h
    · cases h
  · split at h
    · split at h
      · rename_i hrt
        cases h
        exact W.vret hx hb (hr.trans hrt) hq hf hd hlocks
      · cases h
    · cases h
  · cases h
theorem Call_sound {l : Launch} (hst : l.stackTraces = false) (hL : LSound l) : ∀ d, CSound l d := by
  intro d
  induction d with
  | zero => intro mid M As T r T1 G hM h; cases h
  | succ d ih =>
    intro mid M As T r T1 G hM h
    rcases h with h | ⟨h12, M9, n, hM9, hlen, h⟩
    · exact hL mid M As T r T1 G hM h
    · cases hM.symm.trans hM9
      rw [lwH_nil] at h
      obtain ⟨-, -, -, -, hcls⟩ := m_ok hM
      obtain ⟨hl20, hplain, hnh⟩ := m_ml hM
      refine vx_ofW hplain rfl ?_
      intro p e s m args below meth c s₁ B hml hnt hv
      obtain ⟨rfl, hR, hG⟩ := hv
      have hx := B.exec
      have hb := B.bytes
      have hr := B.returns
      have hlocks := B.notSynchronized
      have hts0 := atoms_spec (ws := .code M.1 M.2.1 M.2.2.1 M.2.2.2.1 :: gw) B.pre
      have hts : ∀ w ∈ gw, w.before As.toArray s = true := fun w hw => hts0 w (List.mem_cons_of_mem _ hw)
      have hown : s.vm.findClass (RN M.2.2.2.2.1) = some m.cls := by rw [← hcls]; exact findClass_of_methodNamed B.named
      have hname : meth.name = M.1.name := (name_of_methodNamed B.named B.method).1
      have hsz : s.heap.size = tn T := hR.1
      have hl := lv_entry As (n := M.2.2.1) hlen
      rw [lg_entry_eq]
      generalize (lg_sl As ++ List.replicate (M.2.2.1 - (lg_sl As).length) Slot.unset).toArray = ls at hl ⊢
      have hS : va_S (own G) s.heap s.heap [] := va_S.rf
      have K := run_sound (p := p) (l := l) (e := e) (R := (headSpec (.code M.1 M.2.1 M.2.2.1 M.2.2.2.1 :: gw) (rmS mid (tn T1 - tn T) (tu T1 - tu T))).room) (s := s) (m := m) (args := As.toArray) (below := below) (meth := meth) (c := c) (Q := vx_MQ below (QcG G r T1) (XcG G r T1) As.toArray s (tn T1 - tn T) (tu T1 - tu T) (own G)) (G := G) (d := d) (n0 := tn T) (u0 := tu T) (M := M) (hs := []) (out := r) (T' := T1)
        hx hb hml hown hts (fun z => by rw [hname]; exact eq_of_beq z) hG hR.2.2.1 (by rw [hsz]; exact hR.2.1) (frT_1 mid) (by show 40 ≤ 40 * frT mid + 40; omega) (Nat.le_refl _) (Nat.le_refl _)
        (call_ok ih hx hb hown hts hG (fun pc9 idx9 k9 mid9 i9 q1 q2 q3 q4 => by
          have f9 := fr_call h12 hM q1 q2 q3 q4
          exact ⟨f9, by show 40 * frT mid9 + 79 ≤ 40 * frT mid + 40; omega⟩))
        (fun i v pc1 st1 H1 locs1 ls1 q1 q2 q3 q4 q5 => vx_ret (end_sound hx hb hr hlocks q2 q1 (fun t ht hW => ⟨⟨v, q3, rfl⟩, by rw [ht]; exact q4, q5.F ht⟩) q5.2.2))
        (fun x pc1 st1 H1 locs1 ls1 q ce q1 q2 q3 q4 q5 q6 q7 => vx_out (fun z hz => (hnt z hz).elim) hlocks q5 q6 q7 (fun t ht hW => ⟨⟨x, q1, rfl⟩, by rw [ht]; exact q3, q4.F ht⟩) q4.2.2 (Nat.le_refl _) (Nat.le_refl _))
        ?_ (fun x h9 pc1 st1 H1 locs1 cells1 slots1 ls1 q ce q1 => by cases q1) n 0 _ [] T s.heap [] ls h hR hS hl (Nat.le_refl _) (Nat.le_refl _)
      · rw [Nat.sub_self, Nat.sub_self] at K
        exact K
      · intro x idx pc1 st1 T9 H1 locs1 ls1 q1 q2 q3 q4 q5 q6 q7 q8 q9 q10 q11 q12 d0 d3 d4 d7 q13
        subst q2
        have f6 := fr_throw h12 hM d0 q9 q10
        obtain ⟨g1, g2, g3, g4, g5, g6⟩ := x_good x (by omega) q10
        have hlink := hts _ (cl_ok q9)
        have hcn : cN x = xN x := by unfold cN; rw [if_neg (by omega)]
        rw [hcn] at hlink
        have hn9 : tn (nX T9) = tn T9 + 1 := rfl
        have hu9 : tu (nX T9) = tu T9 + 6 := rfl
        rw [q8] at hlink hown
        refine m_throw0 (A := own G) (own := RN 7) (cls := xN x) (names := xNs) (ik := idx) (ic := xIc x) hx hb hst hown g4 g5 hlink (aw hts g6 rfl) (vx_hat (fun w hw => hts w (List.mem_filter.mpr ⟨g1 w hw, (List.mem_filter.mp hw).2⟩)) g2 (nw_use hG)) ?_ (vx_Zq.kept hG.2.2.1 (fun q h1 h2 => hR.2.2.1 q h1)) (vx_Zq.kept hG.2.2.2.1 (fun q h1 h2 => hR.2.2.1 q h1)) q6 (by rw [hml]; exact q7) d0 d3 d4 d7 (fun z hz => (hnt z hz).elim) (by show 2 + 3 < frT mid; omega) (by have := cat_le st1; show _ + (13 * (2 + 1) + 42) ≤ 40 * frT mid + 40; exact room_81 f6 this q12) ?_ ?_ hlocks (fun t ht1 ht2 ht3 => ⟨⟨x, q1, rfl⟩, ?_, ?_⟩) q6.2.2 (by omega) (by omega)
        · intro w hw
          rcases List.mem_cons.mp hw with rfl | hw
          · rfl
          · rcases List.mem_cons.mp hw with rfl | hw
            · rfl
            · exact g3 w hw
        · show tn T9 - tn T + 1 ≤ tn (nX T9) - tn T
          omega
        · show tu T9 - tu T + 6 ≤ tu (nX T9) - tu T
          omega
        · exact nX_rel q5 ht2 ht3
        · exact ⟨by rw [ht2]; exact Nat.le_trans q6.1 (Nat.le_succ _), fun q h1 h2 => (ht3 q (Nat.lt_of_lt_of_le h1 q6.1)).trans (q6.2.1 q h1 h2)⟩
