/-! the law's own methods at the machine: tables, handlers, links -/
def ixO (x : Nat) : Nat := if x = 100 then 13 else if x = 101 then 15 else 21
def hhO (hs : Hn) : List (Nat × Nat × Nat × Nat) := hs.map (fun h => (h.1, h.2.1, h.2.2.1, ixO h.2.2.2))
set_option maxRecDepth 100000 in
theorem cwd_193 : lw_tbl[514]? = some (.codeWith yL_append cL_append 6 (some (.int)) [(0, 12, 15, 13), (0, 12, 19, 15)]) := rfl
set_option maxRecDepth 100000 in
theorem cwd_194 : lw_tbl[613]? = some (.codeWith yL_appendCopy cL_appendCopy 7 (some (.int)) [(0, 14, 17, 21), (0, 14, 21, 15)]) := rfl
set_option maxRecDepth 100000 in
theorem cwd_195 : lw_tbl[659]? = some (.codeWith yL_insert cL_insert 5 (some (.int)) [(0, 10, 13, 21), (0, 10, 17, 13), (0, 10, 21, 15)]) := rfl
set_option maxRecDepth 100000 in
theorem cwd_196 : lw_tbl[667]? = some (.codeWith yL_cut cL_cut 5 (some (.int)) [(0, 10, 13, 21)]) := rfl
set_option maxRecDepth 100000 in
theorem cwd_197 : lw_tbl[674]? = some (.codeWith yL_draftAt cL_draftAt 4 (some (.int)) [(0, 9, 12, 21)]) := rfl
set_option maxRecDepth 100000 in
theorem cwd_198 : lw_tbl[684]? = some (.codeWith yL_save cL_save 4 (some (.int)) [(0, 9, 12, 21), (0, 9, 15, 15)]) := rfl
set_option maxRecDepth 100000 in
theorem cwd_199 : lw_tbl[1060]? = some (.codeWith yL_forget cL_forget 5 (some (.int)) [(0, 10, 13, 21)]) := rfl
set_option maxRecDepth 100000 in
theorem cwd_200 : lw_tbl[1076]? = some (.codeWith yL_isKept cL_isKept 5 (some (.int)) [(0, 17, 20, 21)]) := rfl
set_option maxRecDepth 100000 in
theorem cwd_201 : lw_tbl[1083]? = some (.codeWith yL_latest cL_latest 4 (some (.int)) [(0, 9, 12, 21)]) := rfl
set_option maxRecDepth 100000 in
theorem cwd_202 : lw_tbl[1093]? = some (.codeWith yL_length cL_length 5 (some (.int)) [(0, 10, 13, 21)]) := rfl
set_option maxRecDepth 100000 in
theorem cwd_203 : lw_tbl[1100]? = some (.codeWith yL_byteAt cL_byteAt 6 (some (.int)) [(0, 12, 15, 21)]) := rfl
set_option maxRecDepth 100000 in
theorem cwd_204 : lw_tbl[1117]? = some (.codeWith yL_byteByCopy cL_byteByCopy 6 (some (.int)) [(0, 12, 15, 21)]) := rfl
set_option maxRecDepth 100000 in
theorem cwd_205 : lw_tbl[1124]? = some (.codeWith yL_chunksOf cL_chunksOf 5 (some (.int)) [(0, 10, 13, 21)]) := rfl
set_option maxRecDepth 100000 in
theorem cwd_206 : lw_tbl[1135]? = some (.codeWith yL_chunkAt cL_chunkAt 6 (some (.int)) [(0, 12, 15, 21)]) := rfl
set_option maxRecDepth 100000 in
theorem cwd_207 : lw_tbl[1143]? = some (.codeWith yL_baseOf cL_baseOf 5 (some (.int)) [(0, 10, 13, 21)]) := rfl
set_option maxRecDepth 100000 in
theorem cwd_208 : lw_tbl[1154]? = some (.codeWith yL_chainOf cL_chainOf 5 (some (.int)) [(0, 10, 13, 21)]) := rfl
set_option maxRecDepth 100000 in
theorem cwd_209 : lw_tbl[1162]? = some (.codeWith yL_costOf cL_costOf 5 (some (.int)) [(0, 10, 13, 21)]) := rfl
set_option maxRecDepth 100000 in
theorem cwd_210 : lw_tbl[1173]? = some (.codeWith yL_chunkLength cL_chunkLength 4 (some (.int)) [(0, 9, 12, 21)]) := rfl
set_option maxRecDepth 100000 in
theorem cwd_211 : lw_tbl[1185]? = some (.codeWith yL_fingerprint cL_fingerprint 4 (some (.int)) [(0, 9, 12, 21)]) := rfl
set_option maxRecDepth 100000 in
theorem cwd_212 : lw_tbl[1196]? = some (.codeWith yL_references cL_references 4 (some (.int)) [(0, 9, 12, 21)]) := rfl
set_option maxRecDepth 100000 in
theorem cwd_213 : lw_tbl[1204]? = some (.codeWith yL_containerOf cL_containerOf 4 (some (.int)) [(0, 9, 12, 21)]) := rfl
set_option maxRecDepth 100000 in
theorem cwd_214 : lw_tbl[1213]? = some (.codeWith yL_cached cL_cached 4 (some (.int)) [(0, 9, 12, 21)]) := rfl
set_option maxRecDepth 100000 in
theorem l_midB : ∀ k ∈ List.range 215, ((mth k).map (fun M => decide (M.2.2.2.2.1 < 9) || decide (193 ≤ k))).getD true = true := by decide +kernel
set_option maxRecDepth 100000 in
theorem l_lenB : mPT.length = 215 := by decide +kernel
theorem l_mid {mid : Nat} {M : MI} (hM : mth mid = some M) (ho : ¬ M.2.2.2.2.1 < 9) : 193 ≤ mid ∧ mid < 215 := by
  have h1 : mid < 215 := by
    unfold mth at hM
    rw [← l_lenB]
    cases hz : mPT[mid]? with
    | none => rw [hz] at hM; cases hM
    | some e => exact (List.getElem?_eq_some_iff.mp hz).1
  have h2 := l_midB mid (List.mem_range.mpr h1)
  rw [hM] at h2
  simp only [Option.map_some, Option.getD_some, Bool.or_eq_true, decide_eq_true_eq] at h2
  exact ⟨h2.resolve_left ho, h1⟩
/-- a law's method by its number: its code with its table -/
theorem l_code {mid : Nat} {M : MI} (hM : mth mid = some M) (ho : ¬ M.2.2.2.2.1 < 9) : ∃ p : Nat, lw_tbl[p]? = some (.codeWith M.1 M.2.1 M.2.2.1 M.2.2.2.1 (hhO (lwH mid))) ∧ (∀ h ∈ lwH mid, 100 ≤ h.2.2.2 ∧ h.2.2.2 ≤ 102) ∧ M.2.2.2.2.1 = 9 ∧ M.2.2.2.2.2.1 = true ∧ M.1.name ≠ "<init>" := by
  obtain ⟨h1, h2⟩ := l_mid hM ho
  have hz : mid = 193 ∨ mid = 194 ∨ mid = 195 ∨ mid = 196 ∨ mid = 197 ∨ mid = 198 ∨ mid = 199 ∨ mid = 200 ∨ mid = 201 ∨ mid = 202 ∨ mid = 203 ∨ mid = 204 ∨ mid = 205 ∨ mid = 206 ∨ mid = 207 ∨ mid = 208 ∨ mid = 209 ∨ mid = 210 ∨ mid = 211 ∨ mid = 212 ∨ mid = 213 ∨ mid = 214 := by omega
  rcases hz with rfl | rfl | rfl | rfl | rfl | rfl | rfl | rfl | rfl | rfl | rfl | rfl | rfl | rfl | rfl | rfl | rfl | rfl | rfl | rfl | rfl | rfl
  · cases hM.symm.trans mL_append; exact ⟨514, cwd_193, by decide, rfl, rfl, by decide⟩
  · cases hM.symm.trans mL_appendCopy; exact ⟨613, cwd_194, by decide, rfl, rfl, by decide⟩
  · cases hM.symm.trans mL_insert; exact ⟨659, cwd_195, by decide, rfl, rfl, by decide⟩
  · cases hM.symm.trans mL_cut; exact ⟨667, cwd_196, by decide, rfl, rfl, by decide⟩
  · cases hM.symm.trans mL_draftAt; exact ⟨674, cwd_197, by decide, rfl, rfl, by decide⟩
  · cases hM.symm.trans mL_save; exact ⟨684, cwd_198, by decide, rfl, rfl, by decide⟩
  · cases hM.symm.trans mL_forget; exact ⟨1060, cwd_199, by decide, rfl, rfl, by decide⟩
  · cases hM.symm.trans mL_isKept; exact ⟨1076, cwd_200, by decide, rfl, rfl, by decide⟩
  · cases hM.symm.trans mL_latest; exact ⟨1083, cwd_201, by decide, rfl, rfl, by decide⟩
  · cases hM.symm.trans mL_length; exact ⟨1093, cwd_202, by decide, rfl, rfl, by decide⟩
  · cases hM.symm.trans mL_byteAt; exact ⟨1100, cwd_203, by decide, rfl, rfl, by decide⟩
  · cases hM.symm.trans mL_byteByCopy; exact ⟨1117, cwd_204, by decide, rfl, rfl, by decide⟩
  · cases hM.symm.trans mL_chunksOf; exact ⟨1124, cwd_205, by decide, rfl, rfl, by decide⟩
  · cases hM.symm.trans mL_chunkAt; exact ⟨1135, cwd_206, by decide, rfl, rfl, by decide⟩
  · cases hM.symm.trans mL_baseOf; exact ⟨1143, cwd_207, by decide, rfl, rfl, by decide⟩
  · cases hM.symm.trans mL_chainOf; exact ⟨1154, cwd_208, by decide, rfl, rfl, by decide⟩
  · cases hM.symm.trans mL_costOf; exact ⟨1162, cwd_209, by decide, rfl, rfl, by decide⟩
  · cases hM.symm.trans mL_chunkLength; exact ⟨1173, cwd_210, by decide, rfl, rfl, by decide⟩
  · cases hM.symm.trans mL_fingerprint; exact ⟨1185, cwd_211, by decide, rfl, rfl, by decide⟩
  · cases hM.symm.trans mL_references; exact ⟨1196, cwd_212, by decide, rfl, rfl, by decide⟩
  · cases hM.symm.trans mL_containerOf; exact ⟨1204, cwd_213, by decide, rfl, rfl, by decide⟩
  · cases hM.symm.trans mL_cached; exact ⟨1213, cwd_214, by decide, rfl, rfl, by decide⟩
set_option maxRecDepth 100000 in
theorem xl_link : ∀ x, 100 ≤ x → x ≤ 102 → .classLink (RN 9) (ixO x) (xN x) ∈ gw := by
  intro x h1 h2
  have hz : x = 100 ∨ x = 101 ∨ x = 102 := by omega
  rcases hz with rfl | rfl | rfl
  · exact gw_of (p := 515) (by decide +kernel) rfl
  · exact gw_of (p := 516) (by decide +kernel) rfl
  · exact gw_of (p := 614) (by decide +kernel) rfl
/-- the exceptions' classes: none goes for another, each for itself -/
def NC (s : State) : Prop := (∀ x y, 100 ≤ x → x ≤ 102 → 100 ≤ y → y ≤ 102 → x ≠ y → va_Nc (xN x) (xN y) s) ∧ ∀ x, 100 ≤ x → x ≤ 102 → va_Nw (.castable (xN x) (xN x)) s
theorem NC.warm {s U : State} (hW : s.WarmedH U.vm) (h : NC s) : NC U := ⟨fun x y a1 a2 a3 a4 a5 => va_Nc.moved hW.alike (h.1 x y a1 a2 a3 a4 a5), fun x a1 a2 => va_Nw.warmC hW (h.2 x a1 a2)⟩
def PcL (G : GP) (T : TS) (As : List Value) : Array Value → State → Prop := va_Pc As (fun U => Rel G T U.heap ∧ GS G U ∧ NC U)
theorem PcL_blind {G : GP} {T : TS} {As : List Value} : FrameBlind (PcL G T As) := by
  intro a U g mk h
  obtain ⟨h1, h2, h3, h4⟩ := h
  exact ⟨h1, h2, GS.warm (s := U) (U := U.calling g mk a) (State.WarmedH.refl U) h3, NC.warm (s := U) (U := U.calling g mk a) (State.WarmedH.refl U) h4⟩
section LNK
variable {p : Program} {l : Launch} {e : Env} {R : Room} {s : State} {m : MethodId} {args : Array Value} {below : List Frame} {meth : Method} {c : Code} {H : Heap} {locs : List Loc} {cells slots : Nat} {Q : State → Prop} {pc : Nat} {ls : Array Slot} {rest : List Value}
theorem l_covers {e0 : Nat × Nat × Nat × Nat} {pc : Nat} : covers (⟨e0.1, e0.2.1, e0.2.2.1, ixO e0.2.2.2⟩ : ExceptionTableEntry) pc = (decide (e0.1 ≤ pc) && decide (pc < e0.2.1)) := by
  first | rfl | (unfold covers; simp)
theorem l_pass {hs : Hn} {x : Nat} (h100 : ∀ h ∈ hs, 100 ≤ h.2.2.2 ∧ h.2.2.2 ≤ 102) (hx1 : 100 ≤ x) (hx2 : x ≤ 102) (hts : ∀ w ∈ gw, w.before args s = true) (hN : NC s) (hno : ∀ h ∈ hs, ¬ (h.1 ≤ pc ∧ pc < h.2.1 ∧ h.2.2.2 = x)) : ∀ z ∈ tableOf (hhO hs), covers z pc = false ∨ (z.catchType ≠ 0 ∧ ∃ nm : String, (Cond.classLink (RN 9) z.catchType nm).before args s = true ∧ va_Nc (xN x) nm s) := by
  intro z hz
  unfold tableOf hhO at hz
  rw [List.map_map] at hz
  obtain ⟨h, hh, rfl⟩ := List.mem_map.mp hz
  by_cases e1 : h.1 ≤ pc ∧ pc < h.2.1
  · refine Or.inr ⟨?_, xN h.2.2.2, hts _ (xl_link _ (h100 h hh).1 (h100 h hh).2), hN.1 _ _ hx1 hx2 (h100 h hh).1 (h100 h hh).2 (fun e2 => hno h hh ⟨e1.1, e1.2, e2.symm⟩)⟩
    show ixO h.2.2.2 ≠ 0
    unfold ixO
    split
    · decide
    · split <;> decide
  · refine Or.inl ?_
    show covers (⟨h.1, h.2.1, h.2.2.1, ixO h.2.2.2⟩ : ExceptionTableEntry) pc = false
    rw [l_covers]
    by_cases e2 : h.1 ≤ pc
    · rw [decide_eq_false (p := pc < h.2.1) (fun q => e1 ⟨e2, q⟩), Bool.and_false]
    · rw [decide_eq_false e2, Bool.false_and]
theorem l_catch {hs : Hn} {x h q : Nat} {ce : Jvm.Cell} (ht : c.exceptionTable.toList = tableOf (hhO hs)) (h100 : ∀ h ∈ hs, 100 ≤ h.2.2.2 ∧ h.2.2.2 ≤ 102) (hown : s.vm.findClass (RN 9) = some m.cls) (hts : ∀ w ∈ gw, w.before args s = true) (hN : NC s) (hh : hnd hs pc x = some h) (hcell : H[q]? = some ce) (hv : ce.vm = .none) (hcl : s.vm.findClass (xN x) = some ce.cls) (kk : W p l e R s m args below meth c H locs cells slots Q (F0 m h ls [.ref q])) : vx_W p l e R s m args below meth c H locs cells slots Q (F0 m pc ls rest) q := by
  unfold hnd at hh
  cases hf : hs.find? (fun h => decide (h.1 ≤ pc) && decide (pc < h.2.1) && decide (h.2.2.2 = x)) with
  | none => rw [hf] at hh; cases hh
  | some e0 =>
    rw [hf] at hh
    have hh : e0.2.2.1 = h := Option.some.inj hh
    obtain ⟨p1, as, bs, p2, p3⟩ := List.find?_eq_some_iff_append.mp hf
    simp only [Bool.and_eq_true, decide_eq_true_eq] at p1
    obtain ⟨⟨q1, q2⟩, q3⟩ := p1
    have hm0 : e0 ∈ hs := by rw [p2]; exact List.mem_append.mpr (Or.inr (List.mem_cons_self ..))
    obtain ⟨x1, x2⟩ := h100 e0 hm0
    rw [q3] at x1 x2
    have hsplit : c.exceptionTable.toList = tableOf (hhO as) ++ (⟨e0.1, e0.2.1, e0.2.2.1, ixO e0.2.2.2⟩ : ExceptionTableEntry) :: tableOf (hhO bs) := by
      rw [ht, p2]
      unfold tableOf hhO
      rw [List.map_append, List.map_append, List.map_cons, List.map_cons]
    refine vx_catch (own := RN 9) (name := xN x) (E := xN x) (ce := ce) hown (tableOf (hhO as)) _ (tableOf (hhO bs)) hsplit (l_pass (fun h hh => h100 h (by rw [p2]; exact List.mem_append.mpr (Or.inl hh))) x1 x2 hts hN (fun h hh q => ?_)) ?_ ?_ ?_ (va_Nw.use rfl (hN.2 x x1 x2)) hcell hv hcl ?_
    · have := p3 h hh
      rw [decide_eq_true q.1, decide_eq_true q.2.1, decide_eq_true q.2.2] at this
      cases this
    · rw [l_covers, decide_eq_true q1, decide_eq_true q2]
      rfl
    · show ixO e0.2.2.2 ≠ 0
      unfold ixO
      split
      · decide
      · split <;> decide
    · show (Cond.classLink (RN 9) (ixO e0.2.2.2) (xN x)).before args s = true
      rw [q3]
      exact hts _ (xl_link x x1 x2)
    · show W p l e R s m args below meth c H locs cells slots Q (F0 m e0.2.2.1 ls [.ref q])
      rw [hh]
      exact kk
theorem l_out {hs : Hn} {x q : Nat} {ce : Jvm.Cell} {mc ms : Nat} {free : Addr → Prop} {Qc : Array Value → State → Outcome → State → Prop} {XC : String → State → State → Prop} (ht : c.exceptionTable.toList = tableOf (hhO hs)) (h100 : ∀ h ∈ hs, 100 ≤ h.2.2.2 ∧ h.2.2.2 ≤ 102) (hx1 : 100 ≤ x) (hx2 : x ≤ 102) (hown : s.vm.findClass (RN 9) = some m.cls) (hlocks : meth.locks = false) (hts : ∀ w ∈ gw, w.before args s = true) (hN : NC s) (hh : hnd hs pc x = none) (hcell : H[q]? = some ce) (hv : ce.vm = .none) (hcl : s.vm.findClass (xN x) = some ce.cls) (hx : ∀ t : State, t.heap = H → s.vm.Alike t.vm → XC (xN x) s t) (hf : ∀ z ∈ locs, free z.base) (hc : cells ≤ mc) (hs' : slots ≤ ms) : vx_W p l e R s m args below meth c H locs cells slots (vx_MQ below Qc XC args s mc ms free) (F0 m pc ls rest) q := by
  refine vx_outP (own := RN 9) (E := xN x) (ce := ce) hown hlocks ?_ hcell hv hcl hx hf hc hs'
  rw [ht]
  refine l_pass h100 hx1 hx2 hts hN (fun h hh2 q => ?_)
  unfold hnd at hh
  rw [Option.map_eq_none_iff] at hh
  have := List.find?_eq_none.mp hh h hh2
  rw [decide_eq_true q.1, decide_eq_true q.2.1, decide_eq_true q.2.2] at this
  exact this rfl
end LNK
/-- the exceptions that calls end with -/
theorem run_x {C : Nat → List Value → TS → Out → TS → Prop} (hC : ∀ mid As T x T1, C mid As T (.inr x) T1 → 100 ≤ x ∧ x ≤ 102) {M : MI} {hs : Hn} : ∀ (n pc : Nat) (l : Loc0) (st : List Value) (T : TS) (x : Nat) (T1 : TS), run C M hs n pc l st T (.inr x) T1 → 100 ≤ x ∧ x ≤ 102 := by
  intro n
  induction n with
  | zero => intro pc l st T x T1 h; cases h
  | succ n ih =>
    intro pc l st T x T1 h
    obtain ⟨i, len, hd, hl, h⟩ := h
    split at h
    · obtain ⟨v, -, h, -⟩ := h
      cases h
    · obtain ⟨idx, k, mid, hi, hc, hs9, hk, h⟩ := h
      split at h
      · obtain ⟨a, st1, e, h4, h⟩ := h
        exact ih _ _ _ _ _ _ h
      · obtain ⟨a, b, st1, e, h4, h⟩ := h
        exact ih _ _ _ _ _ _ h
      · obtain ⟨M', As, st', st2, r, T3, hM, hp, hv, h4, hcall, h⟩ := h
        cases r with
        | inl v => exact ih _ _ _ _ _ _ h
        | inr y =>
          simp only at h
          split at h
          · obtain ⟨h, -⟩ := h
            cases h
            exact hC _ _ _ _ _ hcall
          · obtain ⟨k9, h9, ⟨ha, h⟩ | ⟨ha, h⟩⟩ := h
            · exact ih _ _ _ _ _ _ h
            · exact ih _ _ _ _ _ _ h
    · obtain ⟨idx, ci, e, hc, h⟩ := h
      rcases h with ⟨h8, h⟩ | ⟨h7, h1, h2, -, -, -, -, -, h9, -⟩
      · exact ih _ _ _ _ _ _ h
      · cases h9
        exact ⟨h1, h2⟩
    · obtain ⟨pc', l', st', T3, h1, h⟩ := h
      exact ih _ _ _ _ _ _ h
theorem Call_x : ∀ (d mid : Nat) (As : List Value) (T : TS) (x : Nat) (T1 : TS), Call d mid As T (.inr x) T1 → 100 ≤ x ∧ x ≤ 102 := by
  intro d
  induction d with
  | zero => intro mid As T x T1 h; cases h
  | succ d ih =>
    intro mid As T x T1 h
    rcases h with h | ⟨-, M, n, hM, -, h⟩
    · unfold lst at h
      split at h
      · obtain ⟨a, -, -, -, -, -, h, -⟩ := h; cases h
      · obtain ⟨a, -, -, h, -⟩ := h; cases h
      · obtain ⟨a, k, b, -, -, -, -, h, -⟩ := h; cases h
      · obtain ⟨a, b, -, -, -, -, -, h, -⟩ := h; cases h
      · obtain ⟨a, k, b, -, -, -, -, -, -, -, h, -⟩ := h; cases h
      · obtain ⟨a, k, b, -, -, -, -, h, -⟩ := h; cases h
      · cases h
    · exact run_x ih _ _ _ _ _ _ _ h
/-- calls of the law's own methods are what the machine does -/
def CSoundL (l : Launch) (d : Nat) : Prop := ∀ (mid : Nat) (M : MI) (As : List Value) (T : TS) (r : Out) (T1 : TS) (G : GP), mth mid = some M → ¬ M.2.2.2.2.1 < 9 → Call d mid As T r T1 → vx_Met l M.1 (.codeWith M.1 M.2.1 M.2.2.1 M.2.2.2.1 (hhO (lwH mid)) :: gw) (rmD d (tn T1 - tn T) (tu T1 - tu T)) (PcL G T As) (QcG G r T1) (XcG G r T1) (tn T1 - tn T) (tu T1 - tu T) (own G)
set_option maxRecDepth 100000 in
theorem l_one : ∀ e ∈ callT, ((mth e.2.2.1).map (fun M => decide (M.2.2.2.2.1 < 9) || decide (e.2.1 = 1) || decide (4 ≤ e.2.1))).getD true = true := by decide +kernel
theorem call_ok9 {p : Program} {l : Launch} {e : Env} {R : Room} {s : State} {m : MethodId} {args : Array Value} {below : List Frame} {meth : Method} {c : Code} {Q : State → Prop} {cc : ByteArray} {G : GP} {d : Nat} (hC : CSound l d) (hL : CSoundL l d) (hx : p.tables.exec = Jvm.exec) (hb : c.code = cc) (hown : s.vm.findClass (RN 9) = some m.cls) (hts : ∀ w ∈ gw, w.before args s = true) (hG : GS G s) (hN : NC s) (hRf : 20 * d + 21 ≤ R.frames) (hRl : 400 * d + 440 ≤ R.locals) : CallOK p l e R s m args below meth c Q cc G 9 d := by
  intro idx k mid i M' As st' st2 st r T T1 H locs cells slots pc ls hml hR hS hi hc hs hk hM hp hv h4 hcall hd hc1 hc2 kk kx
  by_cases ho : M'.2.2.2.2.1 < 9
  · exact call_sound hC hx hb hml hown hts hG hR hS hi hc hs hk hM ho hp hv h4 hcall hd hRf hRl hc1 hc2 kk kx
  · obtain ⟨pcode, hcode, h100, ho9, hstat, hnin⟩ := l_code hM ho
    obtain ⟨pp, hm1, hm2, hm3, hm4⟩ := m_ok hM
    have hcodeW : (.codeWith M'.1 M'.2.1 M'.2.2.1 M'.2.2.2.1 (hhO (lwH mid))) ∈ gw := gw_of hcode rfl
    have hiniW : (.initialized M'.1.cls) ∈ gw := gw_of hm1 rfl
    have hargs := m_args hM
    obtain ⟨hl20, hplain, hnh⟩ := m_ml hM
    have hws : ∀ w ∈ (.codeWith M'.1 M'.2.1 M'.2.2.1 M'.2.2.2.1 (hhO (lwH mid)) :: gw), ∀ (a' : Array Value) (U : State), s.WarmedH U.vm → w.before a' U = true := by
      intro w hw a' U hW
      rcases List.mem_cons.mp hw with rfl | hw
      · exact word_at hW (gw_good hcodeW) (hts _ hcodeW)
      · exact word_at hW (gw_good hw) (hts _ hw)
    have hlen : ∀ sig, parseMethodDescriptor M'.1.desc = some sig → M'.2.2.2.2.2.2 = sig.parameters.length := by
      intro sig h
      rw [h] at hargs
      exact (Option.some.inj hargs).symm
    obtain ⟨hAl, hst⟩ := popN_eq hp
    have hW8 : 2 * 0 + (st2.map fun v => v.category).sum ≤ 8 := by have := cat_le st2; omega
    obtain ⟨ent, hent, hek⟩ : ∃ ent ∈ callT, ent.1 = (9, idx) ∧ ent.2.1 = k ∧ ent.2.2.1 = mid := by
      unfold callOf at hc
      cases hz : callT.lookup (9, idx) with
      | none => rw [hz] at hc; cases hc
      | some x =>
        rw [hz] at hc
        simp at hc
        exact ⟨_, lookup_mem hz, rfl, hc.1, hc.2⟩
    obtain ⟨⟨eo, ei⟩, ek, em, ep⟩ := ent
    obtain ⟨q1, q2, q3⟩ := hek
    cases q1
    have q2 : ek = k := q2
    have q3 : em = mid := q3
    subst q2
    subst q3
    obtain ⟨hw1, hw2⟩ := call_all _ hent
    have h1 := l_one _ hent
    rw [show mth ((9, idx), ek, em, ep).2.2.1 = some M' from hM] at h1
    simp only [Option.map_some, Option.getD_some, Bool.or_eq_true, decide_eq_true_eq] at h1
    have hk1 : ek = 1 := by
      rcases h1 with (h1 | h1) | h1
      · exact absurd h1 ho
      · exact h1
      · have : ek ≤ 3 := hk
        have : 4 ≤ ek := h1
        omega
    subst hk1
    have hmY : mY em = M'.1 := by unfold mY; rw [hM]; rfl
    have hfix : CallFix p m c cc ls.size s args gw (RN 9) := ⟨hx, hb, hml, hown, hts⟩
    rw [hstat] at hv hcall hm2
    simp only [if_true] at hv hcall hm2
    subst hv
    have hlink : (Jvm.Cond.methodLink (RN 9) idx M'.1).before args s = true := by
      have h9 := hts _ (gw_of hw1 (hw2 (fun z => by cases z)))
      unfold callW at h9
      simpa [hmY] using h9
    have hi9 := cs1 hs hi
    subst hi9
    exact m_call (vx_runSX (hh := hhO (lwH em)) (As := As) (rest := st2) hfix (hL em M' _ T r T1 G hM ho hcall) ⟨⟨rfl, rfl, by show 20 * d + 20 + 1 ≤ R.frames; omega, room_l hl20 hRl, hws, List.mem_cons_self⟩, hts _ hcodeW, hts _ hiniW, hnh, hlen, hlink, hts _ (gw_of hm2 rfl)⟩ ⟨PcL_blind, fun U hU hW => ⟨rfl, by rw [hU]; exact hR, GS.warm hW hG, NC.warm hW hN⟩⟩ rfl hAl rfl hst hW8 hd ⟨hc1, hc2⟩) hS kk kx
theorem CallL_sound {l : Launch} (hst : l.stackTraces = false) (hLs : LSound l) : ∀ d, CSoundL l d := by
  intro d
  induction d with
  | zero => intro mid M As T r T1 G hM ho h; cases h
  | succ d ih =>
    intro mid M As T r T1 G hM ho h
    obtain ⟨pcode, hcode, h100, ho9, hstat, hnin⟩ := l_code hM ho
    have hxr : ∀ x, r = .inr x → 100 ≤ x ∧ x ≤ 102 := fun x e => by
      rw [e] at h
      exact Call_x _ _ _ _ _ _ h
    rcases h with h | ⟨-, M9, n, hM9, hlen, h⟩
    · exfalso
      have := (l_mid hM ho).1
      exact lst_no (by omega) h
    · cases hM.symm.trans hM9
      obtain ⟨-, -, -, -, hcls⟩ := m_ok hM
      obtain ⟨hl20, hplain, hnh⟩ := m_ml hM
      refine vx_ofWH (hh := hhO (lwH mid)) hplain rfl ?_
      intro p e s m args below meth c s₁ B hml hv
      obtain ⟨rfl, hR, hG, hN⟩ := hv
      have hx := B.exec
      have hb := B.bytes
      have hr := B.returns
      have hlocks := B.notSynchronized
      have hts0 := atoms_spec (ws := .codeWith M.1 M.2.1 M.2.2.1 M.2.2.2.1 (hhO (lwH mid)) :: gw) B.pre
      have hts : ∀ w ∈ gw, w.before As.toArray s = true := fun w hw => hts0 w (List.mem_cons_of_mem _ hw)
      have htab := vx_table (x := M.1) B (hts0 _ List.mem_cons_self)
      have hown : s.vm.findClass (RN 9) = some m.cls := by
        rw [← ho9, ← hcls]; exact findClass_of_methodNamed B.named
      have hown' : s.vm.findClass (RN M.2.2.2.2.1) = some m.cls := by rw [ho9]; exact hown
      have hname : meth.name = M.1.name := (name_of_methodNamed B.named B.method).1
      have hsz : s.heap.size = tn T := hR.1
      have hl := lv_entry As (n := M.2.2.1) hlen
      rw [lg_entry_eq]
      generalize (lg_sl As ++ List.replicate (M.2.2.1 - (lg_sl As).length) Slot.unset).toArray = ls at hl ⊢
      have hS : va_S (own G) s.heap s.heap [] := va_S.rf
      have hCO := call_ok9 (p := p) (l := l) (e := e) (R := (headSpec (.codeWith M.1 M.2.1 M.2.2.1 M.2.2.2.1 (hhO (lwH mid)) :: gw) (rmD (d + 1) (tn T1 - tn T) (tu T1 - tu T))).room) (s := s) (m := m) (args := As.toArray) (below := below) (meth := meth) (c := c) (Q := vx_MQ below (QcG G r T1) (XcG G r T1) As.toArray s (tn T1 - tn T) (tu T1 - tu T) (own G)) (G := G) (Call_sound hst hLs d) ih hx hb hown hts hG hN (by show 20 * d + 21 ≤ 20 * (d + 1) + 20; omega) (by show 400 * d + 440 ≤ 400 * (d + 1) + 400; exact room_44 d)
      rw [← ho9] at hCO
      have K := run_sound (p := p) (l := l) (e := e) (R := (headSpec (.codeWith M.1 M.2.1 M.2.2.1 M.2.2.2.1 (hhO (lwH mid)) :: gw) (rmD (d + 1) (tn T1 - tn T) (tu T1 - tu T))).room) (s := s) (m := m) (args := As.toArray) (below := below) (meth := meth) (c := c) (Q := vx_MQ below (QcG G r T1) (XcG G r T1) As.toArray s (tn T1 - tn T) (tu T1 - tu T) (own G)) (G := G) (d := d) (n0 := tn T) (u0 := tu T) (M := M) (hs := lwH mid) (out := r) (T' := T1)
        hx hb hml hown' hts (fun z => by rw [hname]; exact eq_of_beq z) hG hR.2.2.1 (by rw [hsz]; exact hR.2.1) (by show 1 ≤ 20 * (d + 1) + 20; omega) (by show 40 ≤ 400 * (d + 1) + 400; exact room_40 d) (Nat.le_refl _) (Nat.le_refl _)
        hCO
        (fun i v pc1 st1 H1 locs1 ls1 q1 q2 q3 q4 q5 => vx_ret (end_sound hx hb hr hlocks q2 q1 (fun t ht hW => ⟨⟨v, q3, rfl⟩, by rw [ht]; exact q4, q5.F ht⟩) q5.2.2))
        (fun x pc1 st1 H1 locs1 ls1 q ce q1 q2 q3 q4 q5 q6 q7 => l_out htab h100 (hxr x q1).1 (hxr x q1).2 hown hlocks hts hN q2 q5 q6 q7 (fun t ht hW => ⟨⟨x, q1, rfl⟩, by rw [ht]; exact q3, q4.F ht⟩) q4.2.2 (Nat.le_refl _) (Nat.le_refl _))
        (fun x idx pc1 st1 T9 H1 locs1 ls1 q1 q2 q3 q4 q5 q6 q7 q8 => by rw [ho9] at q8; cases q8)
        (fun x h9 pc1 st1 H1 locs1 cells1 slots1 ls1 q ce q1 q2 q3 q4 kk => l_catch htab h100 hown hts hN q1 q2 q3 q4 kk) n 0 _ [] T s.heap [] ls h hR hS hl (Nat.le_refl _) (Nat.le_refl _)
      rw [Nat.sub_self, Nat.sub_self] at K
      exact K

