/-! the six list methods do what the store says -/
section LWH
variable {l : Launch} {G : GP}
theorem lt_intro {k ml : Nat} (f : Nat) (hf : frT k = f) {y : MethodName} {cc : ByteArray} {rt : Option FieldType} {As : List Value} {T T1 : TS} {v : Option Value} (hplain : plainName y.cls = true) (hlen : (lg_sl As).length ≤ ml)
    (body : ∀ (p : Program) (e : Env) (R : Room) (s : State) (m : MethodId) (below : List Frame) (meth : Method) (c : Code) (ls : Array Slot), R.frames = f → R.locals = 40 * f + 40 → R.cells = tn T1 - tn T → R.slots = tu T1 - tu T → p.tables.exec = Jvm.exec → c.code = cc → c.maxLocals = ml → meth.sig.returnType = rt → meth.locks = false → s.vm.findClass y.cls = some m.cls → meth.name = y.name → (∀ w ∈ gw, w.before As.toArray s = true) → GS G s → Rel G T s.heap → lv_has ls ml (lv_args 0 As) → W p l e R s m As.toArray below meth c s.heap [] 0 0 (MQ below (QcG G (.inl v) T1) As.toArray s (tn T1 - tn T) (tu T1 - tu T) (own G)) (F0 m 0 ls [])) : vx_Met l y (.code y cc ml rt :: gw) (rmS k (tn T1 - tn T) (tu T1 - tu T)) (PcG G T As) (QcG G (.inl v) T1) (XcG G (.inl v) T1) (tn T1 - tn T) (tu T1 - tu T) (own G) := by
  refine vx_ofW hplain rfl ?_
  intro p e s m args below meth c s₁ B hml hnt hv
  obtain ⟨rfl, hR, hG⟩ := hv
  have hts0 := atoms_spec (ws := .code y cc ml rt :: gw) B.pre
  have hts : ∀ w ∈ gw, w.before As.toArray s = true := fun w hw => hts0 w (List.mem_cons_of_mem _ hw)
  have hl := lv_entry As (n := ml) hlen
  rw [lg_entry_eq]
  exact vx_ret (body p e _ s m below meth c _ hf (by show 40 * frT k + 40 = 40 * f + 40; rw [hf]) rfl rfl B.exec B.bytes hml B.returns B.notSynchronized (findClass_of_methodNamed B.named) (name_of_methodNamed B.named B.method).1 hts hG hR hl)
theorem lt_size {a : Nat} {T : TS} (h23 : tK T a = 23) : vx_Met l yJx4a65c_size_8abf5 (.code yJx4a65c_size_8abf5 cJx4a65c_size_8abf5 1 (some .int) :: gw) (rmS 3 (tn T - tn T) (tu T - tu T)) (PcG G T [.ref a]) (QcG G (.inl (some (.int (nI (tL T a).length)))) T) (XcG G (.inl (some (.int (nI (tL T a).length)))) T) (tn T - tn T) (tu T - tu T) (own G) := by
  refine lt_intro 1 rfl (by decide +kernel) (Nat.le_of_ble_eq_true rfl) ?_
  intro p e R s m below meth c ls r1 r2 r3 r4 hx hb hml hr hlocks hown hname hts hG hR hl
  obtain ⟨m0, r, hJ, -⟩ := hR.lst h23
  refine lv_aload_n hx hb dJx4a65c_size_8abf5_0 rfl (lv_at hl 0 rfl) ?_
  refine l_gsz hx hb hts hown hG hJ.at dJx4a65c_size_8abf5_1 ?_
  exact lt_ret (A := own G) hx hb hr hlocks rfl dJx4a65c_size_8abf5_4 hR va_S.rf (fun q h => h) (Nat.zero_le _) (Nat.zero_le _)
theorem lt_get {a k b : Nat} {T : TS} (h23 : tK T a = 23) (hk : k < 2 ^ 31) (hb9 : (tL T a)[k]? = some b) : vx_Met l yJx4a65c_get_915e3 (.code yJx4a65c_get_915e3 cJx4a65c_get_915e3 2 (some (.object "java/lang/Object")) :: gw) (rmS 5 (tn T - tn T) (tu T - tu T)) (PcG G T [.ref a, .int (nI k)]) (QcG G (.inl (some (.ref b))) T) (XcG G (.inl (some (.ref b))) T) (tn T - tn T) (tu T - tu T) (own G) := by
  refine lt_intro 3 rfl (by decide +kernel) (Nat.le_of_ble_eq_true rfl) ?_
  intro p e R s m below meth c ls r1 r2 r3 r4 hx hb hml hr hlocks hown hname hts hG hR hl
  obtain ⟨m0, r, hJ, han, ⟨hlk, hk3⟩, -⟩ := hR.lst h23
  have hlt : k < (tL T a).length := (List.getElem?_eq_some_iff.mp hb9).1
  rcases hJ.2.2 with ⟨h0, -, -⟩ | ⟨hk0, har, hrn, hP, hE⟩
  · omega
  refine lv_iload_n hx hb dJx4a65c_get_915e3_0 rfl (lv_at hl 1 rfl) ?_
  refine lv_aload_n hx hb dJx4a65c_get_915e3_1 rfl (lv_at hl 0 rfl) ?_
  refine l_gsz hx hb hts hown hG hJ.at dJx4a65c_get_915e3_2 ?_
  refine hm_S (n := 2) (As := [.int (nI k), .int (nI (tL T a).length)]) (rest := []) (jOC (A := own G) (J := fun H => H = s.heap) (nn0 hk) (nI_lt hlt (by omega))) hx hb (by rw [hml]; exact hl.1.symm) hown hts hG va_S.rf (fun q h => h) rfl jw_269 jw_270 jw_18 jw_271 ⟨by decide +kernel, by decide +kernel⟩ rfl (Nat.zero_le _) (by omega) (by omega) (by omega) (by omega) rfl dJx4a65c_get_915e3_5 ?_
  rintro v H1 locs1 ⟨rfl, rfl⟩ - - hS1
  refine lv_pop hx hb dJx4a65c_get_915e3_8 rfl ?_
  refine lv_aload_n hx hb dJx4a65c_get_915e3_9 rfl (lv_at hl 0 rfl) ?_
  refine lv_iload_n hx hb dJx4a65c_get_915e3_10 rfl (lv_at hl 1 rfl) ?_
  refine hm_V (n := 1) (b := a) (As := [.int (nI k)]) (rest := []) (jED (A := own G) hP (Nat.lt_of_lt_of_le hlt hlk) (by omega) hb9) hx hb (by rw [hml]; exact hl.1.symm) hown hts hG hS1 (fun q h => h) rfl (va_cellOf hG hJ.at) jw_275 jw_276 jw_277 jw_5 jw_278 ⟨by decide +kernel, by decide +kernel⟩ rfl (Nat.zero_le _) (by omega) (by omega) (by omega) (by omega) rfl dJx4a65c_get_915e3_11 ?_
  rintro v H2 locs2 ⟨rfl, rfl⟩ - - hS2
  exact lt_ret (A := own G) hx hb hr hlocks rfl dJx4a65c_get_915e3_14 hR hS2 (fun q h => h) (Nat.zero_le _) (Nat.zero_le _)
theorem TL_s {T : TS} {a : Nat} {ys : List Nat} : TL T (sL a ys T) a (tc T a) ys := by
  refine ⟨rfl, rfl, rfl, rfl, rfl, rfl, fun x => rfl, fun x => ?_⟩
  show tc T x = _
  by_cases h : x = a
  · rw [if_pos h, h]
  · rw [if_neg h]
theorem TL_g {T : TS} {a k : Nat} {ys : List Nat} : TL T (sL a ys (gL a k T)) a k ys := ⟨rfl, rfl, rfl, rfl, rfl, rfl, fun x => rfl, fun x => rfl⟩
theorem lcap_le {k : Nat} (h : k ≤ 100000) : k < lcap k ∧ lcap k ≤ 200010 := by unfold lcap; split <;> omega
theorem lt_add {a b : Nat} {T T1 : TS} (h23 : tK T a = 23) (h2 : 2 ≤ tK T b) (h9 : tK T b ≤ 9) (hk5 : tc T a ≤ 100000) (hT1 : T1 = sL a (tL T a ++ [b]) (fit a T)) : vx_Met l yJx4a65c_add_9ea2d (.code yJx4a65c_add_9ea2d cJx4a65c_add_9ea2d 2 (some .boolean) :: gw) (rmS 7 (tn T1 - tn T) (tu T1 - tu T)) (PcG G T [.ref a, .ref b]) (QcG G (.inl (some (.int 1))) T1) (XcG G (.inl (some (.int 1))) T1) (tn T1 - tn T) (tu T1 - tu T) (own G) := by
  refine lt_intro 6 rfl (by decide +kernel) (Nat.le_of_ble_eq_true rfl) ?_
  intro p e R s m below meth c ls r1 r2 r3 r4 hx hb hml hr hlocks hown hname hts hG hR hl
  obtain ⟨m0, r, hJ, han, ⟨hlk, hk3⟩, hAo, hEB, hel, hre⟩ := hR.lst h23
  have hn : s.heap.size = tn T := hJ.1
  have hel2 : ∀ y ∈ tL T a ++ [b], 2 ≤ tK T y ∧ tK T y ≤ 9 := by
    intro y hy
    rcases List.mem_append.mp hy with h | h
    · exact hel y h
    · rw [List.mem_singleton.mp h]; exact ⟨h2, h9⟩
  have hend : endF (some .boolean) .ireturn [.int 1] = some (some (.int 1)) := by decide +kernel
  refine lv_aload_n hx hb dJx4a65c_add_9ea2d_0 rfl (lv_at hl 0 rfl) ?_
  refine lv_dup hx hb dJx4a65c_add_9ea2d_1 rfl ?_
  refine l_gmc hx hb hts hown hG hJ.at dJx4a65c_add_9ea2d_2 ?_
  refine lv_iconst (v := 1) hx hb dJx4a65c_add_9ea2d_5 rfl ?_
  refine lv_iadd hx hb dJx4a65c_add_9ea2d_6 ?_
  refine l_pmcG hx hb hts hown hG hJ hn va_S.rf hAo dJx4a65c_add_9ea2d_7 (fun H1 locs1 hJ1 hS1 => ?_)
  have hE1 := (hEB b h2 h9).kept (fun q x1 x2 => hS1.2.1 q x1 x2)
  refine lv_aload_n hx hb dJx4a65c_add_9ea2d_10 rfl (lv_at hl 0 rfl) ?_
  refine lv_aload_n hx hb dJx4a65c_add_9ea2d_11 rfl (lv_at hl 1 rfl) ?_
  refine lv_aload_n hx hb dJx4a65c_add_9ea2d_12 rfl (lv_at hl 0 rfl) ?_
  refine l_ged hx hb hts hown hG hJ1.at dJx4a65c_add_9ea2d_13 ?_
  refine lv_aload_n hx hb dJx4a65c_add_9ea2d_16 rfl (lv_at hl 0 rfl) ?_
  refine l_gsz hx hb hts hown hG hJ1.at dJx4a65c_add_9ea2d_17 ?_
  by_cases hf : (tL T a).length = tc T a
  · have hT2 : T1 = sL a (tL T a ++ [b]) (gL a (lcap (tc T a)) T) := by rw [hT1]; unfold fit; rw [if_pos hf]
    have n1 : tn T1 = tn T + 1 := by rw [hT2]; rfl
    have u1 : tu T1 = tu T + lcap (tc T a) := by rw [hT2]; rfl
    obtain ⟨c1, c2⟩ := lcap_le hk5
    refine hm_V (n := 3) (b := a) (As := [.ref b, .ref r, .int (nI (tL T a).length)]) (rest := []) (jAPf (m := m0 + 1) hf hk5 han hAo) hx hb (by rw [hml]; exact hl.1.symm) hown hts hG hS1 (fun q h => h) ⟨hJ1, hE1⟩ (va_cellOf hG hJ1.at) jw_109 jw_111 jp_0 jw_5 jw_112 ⟨by decide +kernel, by decide +kernel⟩ rfl (Nat.zero_le _) (by omega) (by omega) (by omega) (by omega) rfl dJx4a65c_add_9ea2d_20 ?_
    rintro v H2 locs2 ⟨rfl, hK2⟩ - - hS2
    refine lv_iconst (v := 1) hx hb dJx4a65c_add_9ea2d_23 rfl ?_
    refine lt_ret hx hb hr hlocks hend dJx4a65c_add_9ea2d_24 ?_ hS2 hAo (by omega) (by omega)
    refine hre T1 H2 (m0 + 1) (tn T) (lcap (tc T a)) (tL T a ++ [b]) (by rw [hT2]; exact TL_g) (Or.inr ⟨n1, rfl, by omega⟩) ⟨by rw [List.length_append, List.length_singleton]; omega, by omega⟩ hel2 (by rw [n1]; exact hK2) (fun q x1 x2 => hS2.2.1 q x1 x2)
  · have hT2 : T1 = sL a (tL T a ++ [b]) T := by rw [hT1]; unfold fit; rw [if_neg hf]
    have n1 : tn T1 = tn T := by rw [hT2]; rfl
    have u1 : tu T1 = tu T := by rw [hT2]; rfl
    have hlt : (tL T a).length < tc T a := by omega
    refine hm_V (n := 3) (b := a) (As := [.ref b, .ref r, .int (nI (tL T a).length)]) (rest := []) (jAPr (m := m0 + 1) hlt (by omega)) hx hb (by rw [hml]; exact hl.1.symm) hown hts hG hS1 (fun q h => h) ⟨hJ1, hE1⟩ (va_cellOf hG hJ1.at) jw_109 jw_111 jp_0 jw_5 jw_112 ⟨by decide +kernel, by decide +kernel⟩ rfl (Nat.zero_le _) (by omega) (by omega) (by omega) (by omega) rfl dJx4a65c_add_9ea2d_20 ?_
    rintro v H2 locs2 ⟨rfl, hK2⟩ - - hS2
    refine lv_iconst (v := 1) hx hb dJx4a65c_add_9ea2d_23 rfl ?_
    refine lt_ret hx hb hr hlocks hend dJx4a65c_add_9ea2d_24 ?_ hS2 hAo (by omega) (by omega)
    refine hre T1 H2 (m0 + 1) r (tc T a) (tL T a ++ [b]) (by rw [hT2]; exact TL_s) (Or.inl ⟨n1, rfl, by omega, by omega⟩) ⟨by rw [List.length_append, List.length_singleton]; omega, by omega⟩ hel2 (by rw [n1]; exact hK2) (fun q x1 x2 => hS2.2.1 q x1 x2)
theorem lt_remove {a k b : Nat} {T T1 : TS} (h23 : tK T a = 23) (hk : k < 2 ^ 31) (hb9 : (tL T a)[k]? = some b) (hT1 : T1 = sL a ((tL T a).eraseIdx k) T) : vx_Met l yJx4a65c_remove_915e3 (.code yJx4a65c_remove_915e3 cJx4a65c_remove_915e3 4 (some (.object "java/lang/Object")) :: gw) (rmS 9 (tn T1 - tn T) (tu T1 - tu T)) (PcG G T [.ref a, .int (nI k)]) (QcG G (.inl (some (.ref b))) T1) (XcG G (.inl (some (.ref b))) T1) (tn T1 - tn T) (tu T1 - tu T) (own G) := by
  refine lt_intro 3 rfl (by decide +kernel) (Nat.le_of_ble_eq_true rfl) ?_
  intro p e R s m below meth c ls r1 r2 r3 r4 hx hb hml hr hlocks hown hname hts hG hR hl
  obtain ⟨m0, r, hJ, han, ⟨hlk, hk3⟩, hAo, hEB, hel, hre⟩ := hR.lst h23
  have hlt : k < (tL T a).length := (List.getElem?_eq_some_iff.mp hb9).1
  have n1 : tn T1 = tn T := by rw [hT1]; rfl
  have hn : s.heap.size = tn T := hJ.1
  rcases hJ.2.2 with ⟨h0, -, -⟩ | ⟨hk0, har, hrn, hP, hE⟩
  · omega
  obtain ⟨v1, v2, v3⟩ := nat_in (i := k) (k := tc T a) (by omega) (by omega)
  refine lv_iload_n hx hb dJx4a65c_remove_915e3_0 rfl (lv_at hl 1 rfl) ?_
  refine lv_aload_n hx hb dJx4a65c_remove_915e3_1 rfl (lv_at hl 0 rfl) ?_
  refine l_gsz hx hb hts hown hG hJ.at dJx4a65c_remove_915e3_2 ?_
  refine hm_S (n := 2) (As := [.int (nI k), .int (nI (tL T a).length)]) (rest := []) (jOC (A := AG a r (tc T a) (tn T)) (J := fun H => H = s.heap) (nn0 hk) (nI_lt hlt (by omega))) hx hb (by rw [hml]; exact hl.1.symm) hown hts hG va_S.rf (fun q h => h) rfl jw_269 jw_270 jw_18 jw_271 ⟨by decide +kernel, by decide +kernel⟩ rfl (Nat.zero_le _) (by omega) (by omega) (by omega) (by omega) rfl dJx4a65c_remove_915e3_5 ?_
  rintro v H1 locs1 ⟨rfl, rfl⟩ - - hS1
  refine lv_pop hx hb dJx4a65c_remove_915e3_8 rfl ?_
  refine lv_aload_n hx hb dJx4a65c_remove_915e3_9 rfl (lv_at hl 0 rfl) ?_
  refine l_ged hx hb hts hown hG hJ.at dJx4a65c_remove_915e3_10 ?_
  refine lv_astore_n hx hb dJx4a65c_remove_915e3_13 rfl hl (by decide) rfl (fun ls1 hl1 => ?_)
  refine lv_aload_n hx hb dJx4a65c_remove_915e3_14 rfl (lv_at hl1 0 rfl) ?_
  refine lv_iload_n hx hb dJx4a65c_remove_915e3_15 rfl (lv_at hl1 2 rfl) ?_
  refine va_aldq hx hb hG.1 hP 1 3 rfl rfl v1 dJx4a65c_remove_915e3_16 ?_
  rw [v2, show refs (tL T a) k = some b from hb9]
  refine lv_astore_n hx hb dJx4a65c_remove_915e3_17 rfl hl1 (by decide) rfl (fun ls2 hl2 => ?_)
  refine lv_aload_n hx hb dJx4a65c_remove_915e3_18 rfl (lv_at hl2 2 rfl) ?_
  refine lv_aload_n hx hb dJx4a65c_remove_915e3_19 rfl (lv_at hl2 1 rfl) ?_
  refine lv_iload_n hx hb dJx4a65c_remove_915e3_20 rfl (lv_at hl2 3 rfl) ?_
  refine hm_V (n := 2) (b := a) (As := [.ref r, .int (nI k)]) (rest := []) (jFR (m := m0) hlt hlk hk3 hAo) hx hb (by rw [hml]; exact hl2.1.symm) hown hts hG hS1 (fun q h => h) hJ (va_cellOf hG hJ.at) jw_336 jw_338 jp_3 jw_5 jw_339 ⟨by decide +kernel, by decide +kernel⟩ rfl (Nat.zero_le _) (by omega) (by omega) (by omega) (by omega) rfl dJx4a65c_remove_915e3_21 ?_
  rintro v H2 locs2 ⟨rfl, hK2⟩ - - hS2
  refine lv_aload_n hx hb dJx4a65c_remove_915e3_24 rfl (lv_at hl2 0 rfl) ?_
  refine lt_ret hx hb hr hlocks rfl dJx4a65c_remove_915e3_25 ?_ hS2 hAo (Nat.zero_le _) (Nat.zero_le _)
  exact hre T1 H2 (m0 + 1) r (tc T a) ((tL T a).eraseIdx k) (by rw [hT1]; exact TL_s) (Or.inl ⟨n1, rfl, hk0, hk0⟩) ⟨by rw [List.length_eraseIdx_of_lt hlt]; omega, hk3⟩ (fun y hy => hel y (List.mem_of_mem_eraseIdx hy)) (by rw [n1]; exact hK2) (fun q x1 x2 => hS2.2.1 q x1 x2)
theorem lt_addAt {a b i : Nat} {T T1 : TS} (h23 : tK T a = 23) (h2 : 2 ≤ tK T b) (h9 : tK T b ≤ 9) (hk5 : tc T a ≤ 100000) (hi : i ≤ (tL T a).length) (hT1 : T1 = sL a ((tL T a).insertIdx i b) (fit a T)) : vx_Met l yJx4a65c_add_7a177 (.code yJx4a65c_add_7a177 cJx4a65c_add_7a177 5 none :: gw) (rmS 8 (tn T1 - tn T) (tu T1 - tu T)) (PcG G T [.ref a, .int (nI i), .ref b]) (QcG G (.inl none) T1) (XcG G (.inl none) T1) (tn T1 - tn T) (tu T1 - tu T) (own G) := by
  refine lt_intro 5 rfl (by decide +kernel) (Nat.le_of_ble_eq_true rfl) ?_
  intro p e R s m below meth c ls r1 r2 r3 r4 hx hb hml hr hlocks hown hname hts hG hR hl
  obtain ⟨m0, r, hJ, han, ⟨hlk, hk3⟩, hAo, hEB, hel, hre⟩ := hR.lst h23
  have hn : s.heap.size = tn T := hJ.1
  have hel2 : ∀ y ∈ (tL T a).insertIdx i b, 2 ≤ tK T y ∧ tK T y ≤ 9 := by
    intro y hy
    rcases (List.mem_insertIdx hi).mp hy with h | h
    · rw [h]; exact ⟨h2, h9⟩
    · exact hel y h
  have hEl : ∀ y ∈ tL T a, EB G (AG a r (tc T a) (tn T)) y s.heap := fun y hy => hEB y (hel y hy).1 (hel y hy).2
  refine lv_aload_n hx hb dJx4a65c_add_7a177_0 rfl (lv_at hl 0 rfl) ?_
  refine lv_iload_n hx hb dJx4a65c_add_7a177_1 rfl (lv_at hl 1 rfl) ?_
  refine hm_V (n := 1) (b := a) (As := [.int (nI i)]) (rest := []) (jRC (A := AG a r (tc T a) (tn T)) (J := fun H => H = s.heap) (m := m0) (r := r) (fun H h => by rw [h]; exact hJ.at) hi (by omega)) hx hb (by rw [hml]; exact hl.1.symm) hown hts hG va_S.rf (fun q h => h) rfl (va_cellOf hG hJ.at) jw_721 jw_723 jp_12 jw_5 jw_724 ⟨by decide +kernel, by decide +kernel⟩ rfl (Nat.zero_le _) (by omega) (by omega) (by omega) (by omega) rfl dJx4a65c_add_7a177_2 ?_
  rintro v H0 locs0 ⟨rfl, rfl⟩ - - hS0
  refine lv_aload_n hx hb dJx4a65c_add_7a177_5 rfl (lv_at hl 0 rfl) ?_
  refine lv_dup hx hb dJx4a65c_add_7a177_6 rfl ?_
  refine l_gmc hx hb hts hown hG hJ.at dJx4a65c_add_7a177_7 ?_
  refine lv_iconst (v := 1) hx hb dJx4a65c_add_7a177_10 rfl ?_
  refine lv_iadd hx hb dJx4a65c_add_7a177_11 ?_
  refine l_pmcG hx hb hts hown hG hJ hn hS0 hAo dJx4a65c_add_7a177_12 (fun H1 locs1 hJ1 hS1 => ?_)
  refine lv_aload_n hx hb dJx4a65c_add_7a177_15 rfl (lv_at hl 0 rfl) ?_
  refine l_gsz hx hb hts hown hG hJ1.at dJx4a65c_add_7a177_16 ?_
  refine lv_dup hx hb dJx4a65c_add_7a177_19 rfl ?_
  refine lv_istore_n hx hb dJx4a65c_add_7a177_20 rfl hl (by decide) rfl (fun ls1 hl1 => ?_)
  refine lv_aload_n hx hb dJx4a65c_add_7a177_21 rfl (lv_at hl1 1 rfl) ?_
  refine l_ged hx hb hts hown hG hJ1.at dJx4a65c_add_7a177_22 ?_
  refine lv_dup hx hb dJx4a65c_add_7a177_25 rfl ?_
  refine lv_astore hx hb dJx4a65c_add_7a177_26 hl1 (by decide) rfl (fun ls2 hl2 => ?_)
  by_cases hf : (tL T a).length = tc T a
  · have hT2 : T1 = sL a ((tL T a).insertIdx i b) (gL a (lcap (tc T a)) T) := by rw [hT1]; unfold fit; rw [if_pos hf]
    have n1 : tn T1 = tn T + 1 := by rw [hT2]; rfl
    have u1 : tu T1 = tu T + lcap (tc T a) := by rw [hT2]; rfl
    obtain ⟨c1, c2⟩ := lcap_le hk5
    have go : W p l e R s m [Value.ref a, .int (nI i), .ref b].toArray below meth c H1 locs1 0 0 (MQ below (QcG G (.inl none) T1) [Value.ref a, .int (nI i), .ref b].toArray s (tn T1 - tn T) (tu T1 - tu T) (own G)) (F0 m 32 ls2 []) := by
      refine lv_aload_n hx hb dJx4a65c_add_7a177_32 rfl (lv_at hl2 2 rfl) ?_
      refine hm_V (n := 0) (b := a) (As := []) (rest := []) (jGW (m := m0 + 1) hf hk5 hAo) hx hb (by rw [hml]; exact hl2.1.symm) hown hts hG hS1 (fun q h => h) hJ1 (va_cellOf hG hJ1.at) jw_113 jw_115 jp_1 jw_5 jw_116 ⟨by decide +kernel, by decide +kernel⟩ rfl (Nat.zero_le _) (by omega) (by omega) (by omega) (by omega) rfl dJx4a65c_add_7a177_33 ?_
      rintro v H2 locs2 ⟨rfl, hz2, hP2⟩ - - hS2
      refine lv_astore hx hb dJx4a65c_add_7a177_36 hl2 (by decide) rfl (fun ls3 hl3 => ?_)
      refine l_ait (A := AG a r (tc T a) (tn T)) (n1 := tn T + 1) (m0 := m0 + 1) (k := lcap (tc T a)) (xs := tL T a) (i := i) hx hb (by rw [hml]; exact hl3.1.symm) hts hown hG (by omega) (by omega) ⟨hz2, hP2⟩ (by omega) (by omega) hi (by omega) (Or.inl rfl) (Or.inr (Or.inr (Nat.le_refl _))) hEl (hEB b h2 h9) hS2 (by omega) (Or.inr (Nat.le_refl _)) (lv_at hl3 2 rfl) (lv_at hl3 3 rfl) (lv_at hl3 4 rfl) (lv_at hl3 1 rfl) (lv_at hl3 0 rfl) (fun H3 locs3 hK3 hS3 => ?_)
      refine lt_ret hx hb hr hlocks rfl dJx4a65c_add_7a177_64 ?_ hS3 hAo (by omega) (by omega)
      exact hre T1 H3 (m0 + 1) (tn T) (lcap (tc T a)) ((tL T a).insertIdx i b) (by rw [hT2]; exact TL_g) (Or.inr ⟨n1, rfl, by omega⟩) ⟨by rw [List.length_insertIdx_of_le_length hi]; omega, by omega⟩ hel2 (by rw [n1]; exact hK3) (fun q x1 x2 => hS3.2.1 q x1 x2)
    rcases hJ1.2.2 with ⟨h0, hr0, -⟩ | ⟨hk0, har, hrn, hP, -⟩
    · obtain ⟨cell, q1, q2, q3⟩ := gE_cell hG hJ1.2.1
      rw [hr0]
      refine W.alen (n := 0) hx hb q1 q2 q3 rfl rfl dJx4a65c_add_7a177_28 ?_
      refine lv_icmp_ne hx hb dJx4a65c_add_7a177_29 (tgt := 38) rfl (fun q => absurd (show nI (tL T a).length = 0 by rw [hf, h0]; rfl) q) (fun _ => ?_)
      exact go
    · refine va_alen (v := nI (tc T a)) hx hb hG.1 hP 1 3 rfl rfl rfl dJx4a65c_add_7a177_28 ?_
      refine lv_icmp_ne hx hb dJx4a65c_add_7a177_29 (tgt := 38) rfl (fun q => absurd (by rw [hf]) q) (fun _ => ?_)
      exact go
  · have hT2 : T1 = sL a ((tL T a).insertIdx i b) T := by rw [hT1]; unfold fit; rw [if_neg hf]
    have n1 : tn T1 = tn T := by rw [hT2]; rfl
    have u1 : tu T1 = tu T := by rw [hT2]; rfl
    have hlt : (tL T a).length < tc T a := by omega
    rcases hJ1.2.2 with ⟨h0, hr0, -⟩ | ⟨hk0, har, hrn, hP, -⟩
    · omega
    · refine va_alen (v := nI (tc T a)) hx hb hG.1 hP 1 3 rfl rfl rfl dJx4a65c_add_7a177_28 ?_
      refine lv_icmp_ne hx hb dJx4a65c_add_7a177_29 (tgt := 38) rfl (fun _ => ?_) (fun q => absurd (nI_lt hlt (by omega)) (by rw [q]; exact fun z => absurd z (by rw [Int32.lt_iff_toInt_lt]; omega)))
      refine l_ait (A := AG a r (tc T a) (tn T)) (n1 := tn T) (m0 := m0 + 1) (k := tc T a) (xs := tL T a) (i := i) hx hb (by rw [hml]; exact hl2.1.symm) hts hown hG (by omega) (by omega) ⟨hJ1.1, hP⟩ hlt (by omega) hi har (Or.inl rfl) (Or.inr (Or.inl ⟨hk0, rfl⟩)) hEl (hEB b h2 h9) hS1 (by omega) (Or.inl (by omega)) (lv_at hl2 2 rfl) (lv_at hl2 3 rfl) (lv_at hl2 4 rfl) (lv_at hl2 1 rfl) (lv_at hl2 0 rfl) (fun H3 locs3 hK3 hS3 => ?_)
      refine lt_ret hx hb hr hlocks rfl dJx4a65c_add_7a177_64 ?_ hS3 hAo (by omega) (by omega)
      exact hre T1 H3 (m0 + 1) r (tc T a) ((tL T a).insertIdx i b) (by rw [hT2]; exact TL_s) (Or.inl ⟨n1, rfl, hk0, hk0⟩) ⟨by rw [List.length_insertIdx_of_le_length hi]; omega, hk3⟩ hel2 (by rw [n1]; exact hK3) (fun q x1 x2 => hS3.2.1 q x1 x2)
end LWH
