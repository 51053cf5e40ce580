/-! reads of a list; the new length; a row copied into a longer one -/
theorem nat_in {i k : Nat} (h : i < k) (hk : k < 2 ^ 31) : vp_in (nI i) k ∧ (nI i).toNatClampNeg = i ∧ ¬ (nI i) < 0 := by
  have e : (nI i).toNatClampNeg = i := Int32.toNatClampNeg_ofNat_of_lt (Nat.lt_trans h hk)
  have e0 : ¬ (nI i) < 0 := by
    intro q
    have h1 : (nI i).toInt = (i : Int) := Int32.toInt_ofNat_of_lt (Nat.lt_trans h hk)
    have h2 := Int32.lt_iff_toInt_lt.mp q
    rw [h1] at h2
    have h3 : (0 : Int32).toInt = 0 := rfl
    rw [h3] at h2
    omega
  exact ⟨fun q => q.elim e0 (fun q => by rw [e] at q; omega), e, e0⟩
theorem nn0 {j : Nat} (h : j < 2 ^ 31) : ¬ (nI j) < 0 := by
  intro q
  have h1 : (nI j).toInt = (j : Int) := Int32.toInt_ofNat_of_lt h
  have h2 := Int32.lt_iff_toInt_lt.mp q
  rw [h1] at h2
  have h3 : (0 : Int32).toInt = 0 := rfl
  rw [h3] at h2
  omega
theorem nI_nlq {a b : Nat} (h : a ≤ b) (hb : b < 2 ^ 31) : ¬ nI b < nI a := by
  intro q
  have h1 : (nI a).toInt = (a : Int) := Int32.toInt_ofNat_of_lt (by omega)
  have h2 : (nI b).toInt = (b : Int) := Int32.toInt_ofNat_of_lt hb
  have h3 := Int32.lt_iff_toInt_lt.mp q
  rw [h1, h2] at h3
  omega
theorem va_D1 {A : Nat → Prop} {a : Nat} {x : va_E} (h : A a) : va_D A [(a, x)] := by
  refine ⟨fun i j p q hp hq _ => ?_, fun k q hq => ?_⟩
  · have h1 : i < 1 := (List.getElem?_eq_some_iff.mp hp).1
    have h2 : j < 1 := (List.getElem?_eq_some_iff.mp hq).1
    omega
  · have h1 : k < 1 := (List.getElem?_eq_some_iff.mp hq).1
    rw [show k = 0 by omega] at hq
    cases hq
    exact h
theorem va_D2 {A : Nat → Prop} {a b : Nat} {x y : va_E} (h1 : A a) (h2 : A b) (hab : a ≠ b) : va_D A [(a, x), (b, y)] := by
  refine ⟨fun i j p q hp hq e => ?_, fun k q hq => ?_⟩
  · match i, j, hp, hq with
    | 0, 0, _, _ => rfl
    | 0, 1, hp, hq => cases hp; cases hq; exact absurd e hab
    | 1, 0, hp, hq => cases hp; cases hq; exact absurd e.symm hab
    | 1, 1, _, _ => rfl
    | i + 2, _, hp, _ => cases hp
    | 0, j + 2, _, hq => cases hq
    | 1, j + 2, _, hq => cases hq
  · match k, hq with
    | 0, hq => cases hq; exact h1
    | 1, hq => cases hq; exact h2
    | k + 2, hq => cases hq
set_option maxRecDepth 100000 in
theorem nw_decl : .declares ⟨"java/lang/Object", "getClass", "()Ljava/lang/Class;"⟩ ∈ NWl := by decide +kernel
section LWB
variable {l : Launch} {G : GP} {A : Nat → Prop}
theorem jED {a r k i b : Nat} {m c : Int32} {f : Nat → Option Nat} {H0 : Heap} (hP : va_P (gD G) kcl [(a, lobj m r c), (r, lrow G k f)] H0) (hi : i < k) (hk : k < 2 ^ 31) (hf : f i = some b) : HM l 1 yJx4a65c_elementData_915e3 cJx4a65c_elementData_915e3 2 (some (.object "java/lang/Object")) G [.ref a, .int (nI i)] (fun H => H = H0) (fun v H => v = some (.ref b) ∧ H = H0) A 0 0 := by
  refine hm_intro (by decide +kernel) (Nat.le_of_ble_eq_true rfl) ?_
  intro p e R s m below meth c ls r1 r2 r3 r4 hx hb hml hr hlocks hown hname hts hG hJ hl
  subst hJ
  obtain ⟨v1, v2, -⟩ := nat_in hi hk
  refine lv_aload_n hx hb dJx4a65c_elementData_915e3_0 rfl (lv_at hl 0 rfl) ?_
  refine l_ged hx hb hts hown hG (hP 0 _ rfl) dJx4a65c_elementData_915e3_1 ?_
  refine lv_iload_n hx hb dJx4a65c_elementData_915e3_4 rfl (lv_at hl 1 rfl) ?_
  refine va_aldq hx hb hG.1 hP 1 3 rfl rfl v1 dJx4a65c_elementData_915e3_5 ?_
  rw [v2, hf]
  exact hm_ret hx hb hr hlocks rfl dJx4a65c_elementData_915e3_6 ⟨rfl, rfl⟩ va_S.rf (Nat.le_refl _) (Nat.le_refl _)
theorem jNL {o mn pf : Int32} {J : Heap → Prop} (h0 : ¬ o + (if mn < pf then pf else mn) ≤ 0) (h1 : ¬ 2147483639 < o + (if mn < pf then pf else mn)) : HM l 1 yJ8_newLength_cabcc cJ8_newLength_cabcc 4 (some .int) G [.int o, .int mn, .int pf] J (fun v H => v = some (.int (o + (if mn < pf then pf else mn))) ∧ J H) A 0 0 := by
  refine hm_intro (by decide +kernel) (Nat.le_of_ble_eq_true rfl) ?_
  intro p e R s m below meth c ls r1 r2 r3 r4 hx hb hml hr hlocks hown hname hts hG hJ hl
  refine lv_iload_n hx hb dJ8_newLength_cabcc_0 rfl (lv_at hl 0 rfl) ?_
  refine lv_iload_n hx hb dJ8_newLength_cabcc_1 rfl (lv_at hl 1 rfl) ?_
  refine lv_iload_n hx hb dJ8_newLength_cabcc_2 rfl (lv_at hl 2 rfl) ?_
  refine va_mmax hx hb (by rw [hml]; exact hl.1.symm) hown (hts _ jw_124) (hts _ jw_125) (hts _ jw_9) (hts _ jw_126) (by omega) (by rw [r2]; exact Nat.le_of_ble_eq_true rfl) (by omega) (by omega) dJ8_newLength_cabcc_3 ?_
  refine lv_iadd hx hb dJ8_newLength_cabcc_6 ?_
  refine lv_istore_n hx hb dJ8_newLength_cabcc_7 rfl hl (by decide) rfl (fun ls1 hl1 => ?_)
  refine lv_iconst hx hb dJ8_newLength_cabcc_8 rfl ?_
  refine lv_iload_n hx hb dJ8_newLength_cabcc_9 rfl (lv_at hl1 0 rfl) ?_
  refine lv_icmp_ge hx hb dJ8_newLength_cabcc_10 (tgt := 21) rfl (fun q => absurd q h0) (fun _ => ?_)
  refine lv_iload_n hx hb dJ8_newLength_cabcc_13 rfl (lv_at hl1 0 rfl) ?_
  refine lv_ldc hx hb hown (hts _ jw_127) dJ8_newLength_cabcc_14 ?_
  refine lv_icmp_gt hx hb dJ8_newLength_cabcc_16 (tgt := 21) rfl (fun q => absurd q h1) (fun _ => ?_)
  refine lv_iload_n hx hb dJ8_newLength_cabcc_19 rfl (lv_at hl1 0 rfl) ?_
  exact hm_ret hx hb hr hlocks rfl dJ8_newLength_cabcc_20 ⟨rfl, hJ⟩ va_S.rf (Nat.le_refl _) (Nat.le_refl _)
/-- with the class of the row at hand -/
def PcM (G : GP) (As : List Value) (J : Heap → Prop) (mi : Nat) : Array Value → State → Prop := va_Pc As (fun U => J U.heap ∧ GS G U ∧ va_Mi "[Ljava/lang/Object;" mi U)
theorem PcM_blind {G : GP} {As : List Value} {J : Heap → Prop} {mi : Nat} : FrameBlind (PcM G As J mi) := by
  intro a U g mk h
  obtain ⟨h1, h2, h3, h4⟩ := h
  exact ⟨h1, h2, GS.warm (s := U) (U := U.calling g mk a) (State.WarmedH.refl U) h3, va_Mi.moved (u := U) (U := U.calling g mk a) (State.WarmedH.refl U).alike h4⟩
theorem row_cls {s : State} {cA : ClassId} (hG : GS G s) (h : va_RA s cA (.object "java/lang/Object")) : cA = gA G 3 := by
  have h1 : va_RA s (gA G 3) (.object "java/lang/Object") := (hG.1.2 3 _ rfl).2
  obtain ⟨-, -, -, -, -, h4⟩ := h
  obtain ⟨-, -, -, -, -, h5⟩ := h1
  exact Option.some.inj (h4.symm.trans h5)
/-- what copyOf leaves: the old row, and the new one at the heap's end -/
def KC (G : GP) (n r k k' : Nat) (f : Nat → Option Nat) : Option Value → Heap → Prop := fun v H => v = some (.ref n) ∧ H.size = n + 1 ∧ va_P (gD G) kcl [(r, lrow G k f), (n, lrow G k' (va_cpy f (fun _ => none) 0 0 k))] H
def AC (r n : Nat) : Nat → Prop := fun q => q = r ∨ n ≤ q
theorem jC3 {n r k k' mi : Nat} {f : Nat → Option Nat} (hrn : r < n) (hk : k ≤ k') (hk' : k' * 4 ≤ 536870912) : vx_Met l yJ7_copyOf_6403c (.code yJ7_copyOf_6403c cJ7_copyOf_6403c 4 (some (.array (.object "java/lang/Object"))) :: gw) (rmH 1 1 k') (PcM G [.ref r, .int (nI k'), .ref mi] (fun H => H.size = n ∧ va_P (gD G) kcl [(r, lrow G k f)] H ∧ EL G (AC r n) f H) mi) (QcJ (KC G n r k k' f) (AC r n)) XcN 1 k' (AC r n) := by
  refine vx_ofW (by decide +kernel) rfl ?_
  intro p e s m args below meth c s₁ B hml hnt hv
  obtain ⟨rfl, ⟨rfl, hP, hE⟩, hG, hM⟩ := hv
  have hts0 := atoms_spec (ws := .code yJ7_copyOf_6403c cJ7_copyOf_6403c 4 (some (.array (.object "java/lang/Object"))) :: gw) B.pre
  have hts : ∀ w ∈ gw, w.before [.ref r, .int (nI k'), .ref mi].toArray s = true := fun w hw => hts0 w (List.mem_cons_of_mem _ hw)
  have hx := B.exec
  have hb := B.bytes
  have hr := B.returns
  have hlocks := B.notSynchronized
  have hown : s.vm.findClass RJ7 = some m.cls := findClass_of_methodNamed B.named
  have hl := lv_entry [.ref r, .int (nI k'), .ref mi] (n := 4) (Nat.le_of_ble_eq_true rfl)
  rw [lg_entry_eq]
  generalize (lg_sl [.ref r, .int (nI k'), .ref mi] ++ List.replicate (4 - (lg_sl [.ref r, .int (nI k'), .ref mi]).length) Slot.unset).toArray = ls at hl ⊢
  refine vx_ret ?_
  have hk31 : k' < 2 ^ 31 := by omega
  have e1 : (nI k').toNatClampNeg = k' := Int32.toNatClampNeg_ofNat_of_lt hk31
  have e2 : (nI k).toNatClampNeg = k := Int32.toNatClampNeg_ofNat_of_lt (by omega)
  have e0 : ∀ j, j < 2 ^ 31 → ¬ (nI j) < 0 := fun j hj => nn0 hj
  have z0 : (0 : Int32).toNatClampNeg = 0 := rfl
  have hsz : c.maxLocals = 4 := hml
  refine lv_aload_n hx hb dJ7_copyOf_6403c_0 rfl (lv_at hl 2 rfl) ?_
  refine va_ldcM hx hb hown (hts _ jw_155) hM dJ7_copyOf_6403c_1 ?_
  refine lv_acmp_ne (rx := some mi) (ry := some mi) hx hb dJ7_copyOf_6403c_3 (tgt := 13) rfl (fun q => absurd rfl q) (fun _ => ?_)
  refine lv_iload_n hx hb dJ7_copyOf_6403c_6 rfl (lv_at hl 1 rfl) ?_
  refine va_newq (A := AC r s.heap.size) (H0 := s.heap) hx hb hown (hts _ jw_157) hG.2.2.2.2.2.2.2.2.1 hG.1 hP (va_D1 (Or.inl rfl)) va_S.rf (fun q h => Or.inr h) (e0 k' hk31) e1 hk' (by show 0 + 1 ≤ 1; exact Nat.le_refl 1) (by show 0 + k' ≤ k'; omega) dJ7_copyOf_6403c_7 (fun q cA H1 hK1 hP1 hD1 hS1 => ?_)
  have hc3 : cA = gA G 3 := row_cls hG (hK1.2 4 _ rfl).2
  subst hc3
  have hqr : r ≠ q := fun h => absurd (hD1.1 0 1 _ _ rfl rfl h) (by decide)
  have hq : s.heap.size ≤ q := (hD1.2 1 _ rfl).resolve_left (fun h => hqr h.symm)
  refine lv_goto hx hb dJ7_copyOf_6403c_10 (tgt := 24) rfl ?_
  refine lv_astore_n hx hb dJ7_copyOf_6403c_24 rfl hl (by decide) rfl (fun ls1 hl1 => ?_)
  refine lv_aload_n hx hb dJ7_copyOf_6403c_25 rfl (lv_at hl1 1 rfl) ?_
  refine lv_iconst hx hb (v := 0) dJ7_copyOf_6403c_26 rfl ?_
  refine lv_aload_n hx hb dJ7_copyOf_6403c_27 rfl (lv_at hl1 0 rfl) ?_
  refine lv_iconst hx hb (v := 0) dJ7_copyOf_6403c_28 rfl ?_
  refine lv_aload_n hx hb dJ7_copyOf_6403c_29 rfl (lv_at hl1 1 rfl) ?_
  refine va_alen (v := nI k) hx hb hG.1 hP1 0 3 rfl rfl rfl dJ7_copyOf_6403c_30 ?_
  refine lv_iload_n hx hb dJ7_copyOf_6403c_31 rfl (lv_at hl1 2 rfl) ?_
  refine va_mmin hx hb (by rw [hml]; exact hl1.1.symm) hown (hts _ jw_158) (hts _ jw_159) (hts _ jw_9) (hts _ jw_160) (Nat.le_refl _) (Nat.le_of_ble_eq_true rfl) (by show 0 + 1 ≤ 1; exact Nat.le_refl 1) (by show 0 + k' ≤ k'; omega) dJ7_copyOf_6403c_32 ?_
  rw [if_neg (nI_nlq hk hk31)]
  have hE1 := hE.kept (fun q h1 h2 => hS1.2.1 q h1 h2)
  refine va_copyM (E0 := "java/lang/Object") (E1 := "java/lang/Object") hx hb (by rw [hml]; exact hl1.1.symm) hown (hts _ jw_161) (hts _ jw_163) (hts _ jw_162) (hts _ jw_11) hG.1 hP1 hD1 hS1 0 1 3 3 rfl rfl rfl rfl (by decide) (by decide) (e0 k (by omega)) (by rw [z0, e2]; omega) (by rw [z0, e2]; omega) (fun i hi y hy => ?_) (Nat.le_refl _) (Nat.le_of_ble_eq_true rfl) dJ7_copyOf_6403c_35 (fun H2 locs2 hP2 hD2 hS2 => ?_)
  · obtain ⟨-, ci, fs, c1, c2, c3⟩ := hE1 _ y hy
    exact el_any hG c1 c2 c3
  · rw [z0, e2] at hP2
    refine lv_aload_n hx hb dJ7_copyOf_6403c_38 rfl (lv_at hl1 0 rfl) ?_
    refine hm_size (fun hz => ?_)
    have hlt : q < H2.size := (hP2 1 _ rfl).lt
    have hqe : q = s.heap.size := by omega
    subst hqe
    exact hm_ret hx hb hr hlocks rfl dJ7_copyOf_6403c_39 ⟨rfl, by omega, hP2⟩ hS2 (Nat.le_refl _) (by show 0 + k' ≤ k'; omega)
theorem jCO {n r k k' : Nat} {f : Nat → Option Nat} (hrn : r < n) (hk : k ≤ k') (hk' : k' * 4 ≤ 536870912) : HM l 2 yJ7_copyOf_1904c cJ7_copyOf_1904c 2 (some (.array (.object "java/lang/Object"))) G [.ref r, .int (nI k')] (fun H => H.size = n ∧ va_P (gD G) kcl [(r, lrow G k f)] H ∧ EL G (AC r n) f H) (KC G n r k k' f) (AC r n) 1 k' := by
  refine hm_intro (by decide +kernel) (Nat.le_of_ble_eq_true rfl) ?_
  intro p e R s m below meth c ls r1 r2 r3 r4 hx hb hml hr hlocks hown hname hts hG hJ hl
  obtain ⟨mi, hM⟩ := hG.2.2.2.2.2.2.2.2.2
  refine lv_aload_n hx hb dJ7_copyOf_1904c_0 rfl (lv_at hl 0 rfl) ?_
  refine lv_iload_n hx hb dJ7_copyOf_1904c_1 rfl (lv_at hl 1 rfl) ?_
  refine lv_aload_n hx hb dJ7_copyOf_1904c_2 rfl (lv_at hl 0 rfl) ?_
  have hcell : ∃ cell : Jvm.Cell, s.heap[r]? = some cell ∧ cell.vm.isStatics = false ∧ s.vm.findClass "[Ljava/lang/Object;" = some cell.cls := ⟨_, hJ.2.1 0 _ rfl, rfl, va_nmO (hG.1.2 3 _ rfl).2 rfl⟩
  refine va_getC hx hb (by rw [hml]; exact hl.1.symm) hown (hts _ jw_134) (va_Nw.use rfl (hG.2.1 _ nw_decl)) (hts _ jw_1535) (hts _ jw_135) (hts _ jw_151) hM hcell (by omega) (by rw [r2]; exact Nat.le_of_ble_eq_true rfl) dJ7_copyOf_1904c_3 ?_
  refine hm_callK (vx_runS (As := [.ref r, .int (nI k'), .ref mi]) (rest := []) ⟨hx, hb, by rw [hml]; exact hl.1.symm, hown, hts⟩ (jC3 (n := n) (mi := mi) (f := f) hrn hk hk') ⟨⟨rfl, rfl, by rw [r1]; exact Nat.le_refl _, by rw [r2]; exact Nat.le_of_ble_eq_true rfl, hm_ws hts jw_154, List.mem_cons_self, hts _ jw_154, hts _ jw_10, by decide +kernel, ?_, hts _ jw_152⟩, hts _ jw_153⟩ ⟨PcM_blind, fun U hU hW => ⟨rfl, by rw [hU]; exact hJ, GS.warm hW hG, va_Mi.moved hW.alike hM⟩⟩ rfl (n := 3) rfl rfl rfl (by show 2 * 0 + 0 ≤ 8; omega) dJ7_copyOf_1904c_6 ⟨by omega, by omega⟩) va_S.rf (fun q h => h) ?_
  · intro sig h
    have h9 : (parseMethodDescriptor yJ7_copyOf_6403c.desc).map (fun d => d.parameters.length) = some 3 := by decide +kernel
    rw [h] at h9
    exact (Option.some.inj h9).symm
  · rintro v H1 locs1 ⟨rfl, hz1, hP1⟩ - - hS1
    exact hm_ret hx hb hr hlocks rfl dJ7_copyOf_1904c_9 ⟨rfl, hz1, hP1⟩ hS1 (by omega) (by omega)
end LWB
