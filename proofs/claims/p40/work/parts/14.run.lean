/-! a run, whole -/
theorem pObjI_ok : lw_tbl[49]? = some (.instanceMethod Lib.objectInit) := by decide +kernel
set_option maxRecDepth 100000 in
theorem pObjC_ok : lw_tbl[50]? = some (.code Lib.objectInit ⟨#[0xb1]⟩ 1 none) := rfl
theorem pMinS_ok : lw_tbl[168]? = some (.static Lib.Math.min.name) := by decide +kernel
theorem pMinI_ok : lw_tbl[26]? = some (.initialized "java/lang/Math") := by decide +kernel
set_option maxRecDepth 100000 in
theorem pMinC_ok : lw_tbl[169]? = some (.code Lib.Math.min.name Lib.Math.min.code 2 (some .int)) := rfl
theorem call_ent {o idx k mid : Nat} (hc : callOf o idx = some (k, mid)) : ∃ ep, ((o, idx), k, mid, ep) ∈ callT := by
  unfold callOf at hc
  cases hz : callT.lookup (o, idx) with
  | none => rw [hz] at hc; cases hc
  | some x =>
    rw [hz] at hc
    simp at hc
    obtain ⟨h1, h2⟩ := hc
    refine ⟨x.2.2, ?_⟩
    rw [← h1, ← h2]
    exact lookup_mem hz
theorem obj_link {o idx mid : Nat} (hc : callOf o idx = some (4, mid)) : .methodLink (RN o) idx Lib.objectInit ∈ gw := by
  obtain ⟨ep, he⟩ := call_ent hc
  obtain ⟨h1, h2⟩ := call_all _ he
  exact gw_of h1 (h2 (fun z => by cases z))
theorem min_link {o idx mid : Nat} (hc : callOf o idx = some (5, mid)) : .methodLink (RN o) idx Lib.Math.min.name ∈ gw := by
  obtain ⟨ep, he⟩ := call_ent hc
  obtain ⟨h1, h2⟩ := call_all _ he
  exact gw_of h1 (h2 (fun z => by cases z))
section RUN
variable {p : Program} {l : Launch} {e : Env} {R : Room} {s : State} {m : MethodId} {args : Array Value} {below : List Frame} {meth : Method} {c : Code} {Q : State → Prop} {cc : ByteArray} {G : GP}
/-- calls out of a method of class o are what the machine does -/
def CallOK (p : Program) (l : Launch) (e : Env) (R : Room) (s : State) (m : MethodId) (args : Array Value) (below : List Frame) (meth : Method) (c : Code) (Q : State → Prop) (cc : ByteArray) (G : GP) (o d : Nat) : Prop :=
  ∀ (idx k mid : Nat) (i : Instr) (M' : MI) (As st' st2 st : List Value) (r : Out) (T T1 : TS) (H : Heap) (locs : List Loc) (cells slots pc : Nat) (ls : Array Slot), c.maxLocals = ls.size → Rel G T H → va_S (own G) s.heap H locs → cixOf i = some idx → callOf o idx = some (k, mid) → csort i k → k ≤ 3 → mth mid = some M' → popN M'.2.2.2.2.2.2 st = some (As, st') → (if M'.2.2.2.2.2.1 then st2 = st' else ∃ a, st' = .ref a :: st2 ∧ (k = 3 ∨ tK T a = M'.2.2.2.2.1 + 1 ∨ (tK T a = 23 ∧ M'.2.2.2.2.1 = 0))) → st2.length ≤ 4 → Call d mid (if M'.2.2.2.2.2.1 then As else st'.take 1 ++ As) T r T1 → decode cc pc = .ok (i, 3) → cells + (tn T1 - tn T) ≤ R.cells → slots + (tu T1 - tu T) ≤ R.slots →
    (∀ v H1 locs1, r = .inl v → Rel G T1 H1 → va_S (own G) s.heap H1 locs1 → W p l e R s m args below meth c H1 locs1 (cells + (tn T1 - tn T)) (slots + (tu T1 - tu T)) Q (F0 m (pc + 3) ls (v.toList ++ st2))) →
    (∀ x H1 locs1 q ce, r = .inr x → Rel G T1 H1 → va_S (own G) s.heap H1 locs1 → H1[q]? = some ce → ce.vm = .none → s.vm.findClass (xN x) = some ce.cls → vx_W p l e R s m args below meth c H1 locs1 (cells + (tn T1 - tn T)) (slots + (tu T1 - tu T)) Q (F0 m pc ls st2) q) →
    W p l e R s m args below meth c H locs cells slots Q (F0 m pc ls st)
theorem lv_tail {ls : Array Slot} {nL : Nat} {q : Nat × Value} {l : Loc0} (h : lv_has ls nL (q :: l)) : lv_has ls nL l := ⟨h.1, h.2.1, fun x hx => h.2.2 x (List.mem_cons_of_mem _ hx)⟩
theorem run_sound {d n0 u0 : Nat} {M : MI} {hs : Hn} {out : Out} {T' : TS} (hx : p.tables.exec = Jvm.exec) (hb : c.code = M.2.1) (hml : c.maxLocals = M.2.2.1) (hown : s.vm.findClass (RN M.2.2.2.2.1) = some m.cls) (hts : ∀ w ∈ gw, w.before args s = true) (hini : (M.1.name == "<init>") = true → meth.name = "<init>") (hG : GS G s) (hs0 : ∀ q, q < (gH G).size → s.heap[q]? = (gH G)[q]?) (hs1 : (gH G).size ≤ s.heap.size) (hRf : 1 ≤ R.frames) (hRl : 40 ≤ R.locals) (hc1 : tn T' - n0 ≤ R.cells) (hc2 : tu T' - u0 ≤ R.slots)
    (hcal : CallOK p l e R s m args below meth c Q M.2.1 G M.2.2.2.2.1 d)
    (hret : ∀ i v pc1 st1 H1 locs1 ls1, decode M.2.1 pc1 = .ok (i, ilen i) → endF M.2.2.2.1 i st1 = some v → out = .inl v → Rel G T' H1 → va_S (own G) s.heap H1 locs1 → W p l e R s m args below meth c H1 locs1 (tn T' - n0) (tu T' - u0) Q (F0 m pc1 ls1 st1))
    (hpx : ∀ x pc1 st1 H1 locs1 ls1 q ce, out = .inr x → hnd hs pc1 x = none → Rel G T' H1 → va_S (own G) s.heap H1 locs1 → H1[q]? = some ce → ce.vm = .none → s.vm.findClass (xN x) = some ce.cls → vx_W p l e R s m args below meth c H1 locs1 (tn T' - n0) (tu T' - u0) Q (F0 m pc1 ls1 st1) q)
    (hthrow : ∀ x idx pc1 st1 T1 H1 locs1 ls1, out = .inr x → T' = nX T1 → n0 ≤ tn T1 → u0 ≤ tu T1 → Rel G T1 H1 → va_S (own G) s.heap H1 locs1 → ls1.size = M.2.2.1 → M.2.2.2.2.1 = 7 → clOf M.2.2.2.2.1 idx = some x → 100 ≤ x → x ≤ 102 → st1.length ≤ 4 → decode M.2.1 pc1 = .ok (.new idx, 3) → decode M.2.1 (pc1 + 3) = .ok (.dup, 1) → decode M.2.1 (pc1 + 4) = .ok (.invokespecial (if x = 100 then 46 else if x = 101 then 53 else 73), 3) → decode M.2.1 (pc1 + 7) = .ok (.athrow, 1) → hs = [] → W p l e R s m args below meth c H1 locs1 (tn T1 - n0) (tu T1 - u0) Q (F0 m pc1 ls1 st1))
    (hhan : ∀ x h pc1 st1 H1 locs1 cells1 slots1 ls1 q ce, hnd hs pc1 x = some h → H1[q]? = some ce → ce.vm = .none → s.vm.findClass (xN x) = some ce.cls → W p l e R s m args below meth c H1 locs1 cells1 slots1 Q (F0 m h ls1 [.ref q]) → vx_W p l e R s m args below meth c H1 locs1 cells1 slots1 Q (F0 m pc1 ls1 st1) q) :
    ∀ (n pc : Nat) (lv : Loc0) (st : List Value) (T : TS) (H : Heap) (locs : List Loc) (ls : Array Slot), run (Call d) M hs n pc lv st T out T' → Rel G T H → va_S (own G) s.heap H locs → lv_has ls M.2.2.1 lv → n0 ≤ tn T → u0 ≤ tu T → W p l e R s m args below meth c H locs (tn T - n0) (tu T - u0) Q (F0 m pc ls st) := by
  intro n
  induction n with
  | zero => intro pc lv st T H locs ls h; cases h
  | succ n ih =>
    intro pc lv st T H locs ls h hR hS hl hn hu
    have hmo := run_mono (Call_mono d) _ _ _ _ _ _ _ h
    obtain ⟨i, len, hd, hlen, h⟩ := h
    split at h
    · rename_i hcl
      obtain ⟨v, h1, h2, rfl⟩ := h
      have hl2 : len = ilen i := by cases i <;> first | exact hlen | (cases hcl; done)
      subst hl2
      exact hret i v pc st H locs ls hd h1 h2 hR hS
    · rename_i hcl
      obtain ⟨idx, k, mid, hi, hc, hs9, hk5, h⟩ := h
      have hl3 : len = 3 := by cases i <;> first | exact hlen | (cases hcl; done)
      subst hl3
      split at h
      · obtain ⟨a, st', rfl, h4, h⟩ := h
        have hi9 := cs4 hs9 hi
        subst hi9
        have hlink := obj_link hc
        refine W.objInit hx hb hown (hts _ hlink) (hts _ (gw_of pObjI_ok rfl)) (hts _ (gw_of pObjC_ok rfl)) rfl (by rw [hml]; exact hl.1) rfl hd hRf (by have := cat_le st'; show 2 * 0 + _ + 12 ≤ _; omega) ?_
        exact ih (pc + 3) lv st' T H locs ls h hR hS hl hn hu
      · obtain ⟨x, y, st', rfl, h4, h⟩ := h
        have hi9 := cs5 hs9 hi
        subst hi9
        have hlink := min_link hc
        refine va_mmin hx hb (by rw [hml]; exact hl.1.symm) hown (hts _ hlink) (hts _ (gw_of pMinS_ok rfl)) (hts _ (gw_of pMinI_ok rfl)) (hts _ (gw_of pMinC_ok rfl)) hRf (by have := cat_le st'; omega) (by omega) (by omega) hd ?_
        exact ih (pc + 3) lv _ T H locs ls h hR hS hl hn hu
      · have hk4 : k ≠ 4 := by assumption
        have hk9 : k ≠ 5 := by assumption
        have hk3 : k ≤ 3 := by omega
        obtain ⟨M', As, st', st2, r, T1, hM, hp, hv, h4, hcall, h⟩ := h
        have hm1 := Call_mono d _ _ _ _ _ hcall
        have e1 : tn T - n0 + (tn T1 - tn T) = tn T1 - n0 := by omega
        have e2 : tu T - u0 + (tu T1 - tu T) = tu T1 - u0 := by omega
        cases r with
        | inl v =>
          have hm2 := run_mono (Call_mono d) _ _ _ _ _ _ _ h
          refine hcal idx k mid i M' As st' st2 st _ T T1 H locs _ _ pc ls (by rw [hml]; exact hl.1.symm) hR hS hi hc hs9 hk3 hM hp hv h4 hcall hd (by omega) (by omega) (fun v9 H1 locs1 q1 q2 q3 => ?_) (fun x H1 locs1 q ce q1 => by cases q1)
          cases q1
          rw [e1, e2]
          exact ih (pc + 3) lv _ T1 H1 locs1 ls h q2 q3 hl (by omega) (by omega)
        | inr x =>
          simp only at h
          have hm2 : tn T1 ≤ tn T' ∧ tu T1 ≤ tu T' := by
            split at h
            · obtain ⟨-, rfl⟩ := h
              exact ⟨Nat.le_refl _, Nat.le_refl _⟩
            · obtain ⟨k9, -, ⟨-, h⟩ | ⟨-, h⟩⟩ := h
              · exact run_mono (Call_mono d) _ _ _ _ _ _ _ h
              · exact run_mono (Call_mono d) _ _ _ _ _ _ _ h
          refine hcal idx k mid i M' As st' st2 st _ T T1 H locs _ _ pc ls (by rw [hml]; exact hl.1.symm) hR hS hi hc hs9 hk3 hM hp hv h4 hcall hd (by omega) (by omega) (fun v9 H1 locs1 q1 => by cases q1) (fun x9 H1 locs1 q ce q1 q2 q3 q4 q5 q6 => ?_)
          cases q1
          rw [e1, e2]
          split at h
          · rename_i hh
            obtain ⟨h1, rfl⟩ := h
            exact hpx x pc st2 H1 locs1 ls q ce h1 hh q2 q3 q4 q5 q6
          · rename_i hh9 hh
            refine hhan x hh9 pc st2 H1 locs1 _ _ ls q ce hh q4 q5 q6 ?_
            obtain ⟨k9, hk9, ⟨⟨qf, rfl, hdh⟩, h⟩ | ⟨hdh, h⟩⟩ := h
            · refine lv_astore_n hx hb hdh rfl hl hk9 rfl (fun ls' hl' => ?_)
              rw [ldel_eq] at hl'
              exact ih _ _ _ T1 H1 locs1 ls' h q2 q3 (lv_tail hl') (by omega) (by omega)
            · refine lv_astore hx hb hdh hl hk9 rfl (fun ls' hl' => ?_)
              rw [ldel_eq] at hl'
              exact ih _ _ _ T1 H1 locs1 ls' h q2 q3 (lv_tail hl') (by omega) (by omega)
    · obtain ⟨idx, ci, rfl, hc, h⟩ := h
      have hl3 : len = 3 := hlen
      subst hl3
      rcases h with ⟨hc8, h⟩ | ⟨h1, h2, h3, h4, h5, h6, h7, h8, h9, rfl⟩
      · have hm2 := run_mono (Call_mono d) _ _ _ _ _ _ _ h
        have hn1 : tn (nO ci T) = tn T + 1 := rfl
        have hu1 : tu (nO ci T) = tu T + NN ci := rfl
        have e1 : tn T - n0 + (tn (nO ci T) - tn T) = tn (nO ci T) - n0 := by omega
        have e2 : tu T - u0 + (tu (nO ci T) - tu T) = tu (nO ci T) - u0 := by omega
        refine hp_sound (o := M.2.2.2.2.1) (ini := false) (i := .new idx) (T' := nO ci T) (st' := .ref (tn T) :: st) hx hb hown hts (fun z => by cases z) hG hs0 hs1 hR hS ?_ hd (by omega) (by omega) (fun H' locs' r1 r2 => ?_)
        · show (clOf M.2.2.2.2.1 idx).bind _ = _
          rw [hc]
          simp [hc8]
        · rw [e1, e2]
          exact ih _ _ _ _ _ _ ls h r1 r2 hl (by omega) (by omega)
      · exact hthrow ci idx pc st T H locs ls h9 rfl hn hu hR hS hl.1 h1 hc h2 h3 h4 hd h5 h6 h7 h8
    · obtain ⟨pc', l', st', T1, h1, h⟩ := h
      have hm1 := step_mono h1
      have hm2 := run_mono (Call_mono d) _ _ _ _ _ _ _ h
      have e1 : tn T - n0 + (tn T1 - tn T) = tn T1 - n0 := by omega
      have e2 : tu T - u0 + (tu T1 - tu T) = tu T1 - u0 := by omega
      refine step_sound hx hb hown hts hini hG hs0 hs1 hR hS hl h1 hlen hd (by omega) (by omega) (fun H' locs' ls' r1 r2 r3 => ?_)
      rw [e1, e2]
      exact ih _ _ _ _ _ _ ls' h r1 r2 r3 (by omega) (by omega)
end RUN
