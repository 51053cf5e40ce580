/-! the list methods that the store knows: rows moved by one place -/
theorem refs_ins {xs : List Nat} {k b : Nat} (hk : k ≤ xs.length) : va_up (va_cpy (refs xs) (refs xs) k (k + 1) (xs.length - k)) k (some b) = refs (xs.insertIdx k b) := by
  funext i
  unfold va_up va_cpy refs
  rw [List.getElem?_insertIdx]
  by_cases h1 : i = k
  · subst h1
    rw [if_pos rfl, if_neg (Nat.lt_irrefl _), if_pos rfl, if_pos hk]
  · rw [if_neg h1]
    by_cases h2 : i < k
    · rw [if_neg (by omega), if_pos h2]
    · rw [if_neg h2, if_neg h1]
      by_cases h3 : k + 1 ≤ i ∧ i < k + 1 + (xs.length - k)
      · rw [if_pos h3, show k + (i - (k + 1)) = i - 1 by omega]
      · rw [if_neg h3, List.getElem?_eq_none (by omega), List.getElem?_eq_none (by omega)]
theorem refs_del {xs : List Nat} {k : Nat} (hk : k < xs.length) : va_up (va_cpy (refs xs) (refs xs) (k + 1) k (xs.length - 1 - k)) (xs.length - 1) none = refs (xs.eraseIdx k) := by
  funext i
  unfold va_up va_cpy refs
  rw [List.getElem?_eraseIdx]
  by_cases h1 : i = xs.length - 1
  · rw [if_pos h1, if_neg (by omega), List.getElem?_eq_none (by omega)]
  · rw [if_neg h1]
    by_cases h2 : i < k
    · rw [if_neg (by omega), if_pos h2]
    · rw [if_neg h2]
      by_cases h3 : k ≤ i ∧ i < k + (xs.length - 1 - k)
      · rw [if_pos h3, show k + 1 + (i - k) = i + 1 by omega]
      · rw [if_neg h3, List.getElem?_eq_none (by omega), List.getElem?_eq_none (by omega)]
theorem cpy_0 {f : Nat → Option Nat} {i j : Nat} : va_cpy f f i j 0 = f := by
  funext k
  unfold va_cpy
  rw [if_neg (by omega)]
theorem va_S.wide {A B : Nat → Prop} {H0 H : Heap} {locs : List Loc} (h : va_S A H0 H locs) (hA : ∀ q, A q → B q) : va_S B H0 H locs := ⟨h.1, fun q h1 h2 => h.2.1 q h1 (fun z => h2 (hA q z)), fun l hl => hA _ (h.2.2 l hl)⟩
section LWF
variable {p : Program} {l : Launch} {e : Env} {R : Room} {s : State} {m : MethodId} {args : Array Value} {below : List Frame} {meth : Method} {c : Code} {H : Heap} {locs : List Loc} {cells slots : Nat} {Q : State → Prop}
variable {cc : ByteArray} {pc : Nat} {ls : Array Slot} {G : GP} {A : Nat → Prop} {rest : List Value}
theorem lt_ret {rt : Option FieldType} {i : Instr} {st : List Value} {v : Option Value} {T1 : TS} {mc ms : Nat} (hx : p.tables.exec = Jvm.exec) (hb : c.code = cc) (hr : meth.sig.returnType = rt) (hlocks : meth.locks = false) (h : endF rt i st = some v) (hd : decode cc pc = .ok (i, ilen i)) (hR : Rel G T1 H) (hS : va_S A s.heap H locs) (hA : ∀ q, A q → own G q) (h1 : cells ≤ mc) (h2 : slots ≤ ms) : W p l e R s m args below meth c H locs cells slots (MQ below (QcG G (.inl v) T1) args s mc ms (own G)) (F0 m pc ls st) :=
  hm_wid h1 h2 (end_sound hx hb hr hlocks h hd (fun t ht hW => ⟨⟨v, rfl, rfl⟩, by rw [ht]; exact hR, (hS.wide hA).F ht⟩) (hS.wide hA).2.2)
/-- the changes' count is put, behind a call -/
theorem l_pmcG {n a r k : Nat} {v m0 : Int32} {xs : List Nat} (hx : p.tables.exec = Jvm.exec) (hb : c.code = cc) (hts : ∀ w ∈ gw, w.before args s = true) (hown : s.vm.findClass RJx4a65c = some m.cls) (hG : GS G s) (hJ : JG G n a m0 r k xs H) (hn : s.heap.size = n) (hS : va_S (AG a r k n) s.heap H locs) (hA : ∀ q, AG a r k n q → own G q) (hd : decode cc pc = .ok (.putfield 63, 3))
    (kk : ∀ (H1 : Heap) (locs1 : List Loc), JG G n a v r k xs H1 → va_S (AG a r k n) s.heap H1 locs1 → W p l e R s m args below meth c H1 locs1 0 slots Q (F0 m (pc + 3) ls rest)) : W p l e R s m args below meth c H locs 0 slots Q (F0 m pc ls (.int v :: .ref a :: rest)) := by
  obtain ⟨hz0, hH, h⟩ := hJ
  have hsame : ∀ (H1 : Heap) (locs1 : List Loc), va_S (AG a r k n) s.heap H1 locs1 → ∀ q, q < H.size → ¬ AG a r k n q → H1[q]? = H[q]? := by
    intro H1 locs1 hS1 q h1 h2
    rw [hS1.2.1 q (by omega) h2, hS.2.1 q (by omega) h2]
  have hgo : ∀ (H1 : Heap) (locs1 : List Loc), va_S (AG a r k n) s.heap H1 locs1 → ∀ q, q < (gH G).size → H1[q]? = (gH G)[q]? := by
    intro H1 locs1 hS1 q hq
    have h9 : ¬ AG a r k n q := fun z => absurd (hA q z) (Nat.not_le_of_lt hq)
    rw [hsame H1 locs1 hS1 q ?_ h9]
    · exact hH q hq
    · by_cases h8 : q < H.size
      · exact h8
      · exact absurd (Or.inr (Or.inr (by omega))) h9
  rcases h with ⟨rfl, rfl, hat⟩ | ⟨hk0, har, hrn, hP, hE⟩
  · refine l_pmc (A := AG a (gE G) 0 n) (ws := []) hx hb hts hown hG (at_one hat) (va_D1 (Or.inl rfl)) hS hd (fun H1 locs1 hP1 hD1 hS1 => ?_)
    refine hm_size (fun hz => ?_)
    have := hS1.1
    exact kk H1 locs1 ⟨by omega, hgo H1 locs1 hS1, Or.inl ⟨rfl, rfl, hP1 0 _ rfl⟩⟩ hS1
  · refine l_pmc (A := AG a r k n) (ws := [(r, lrow G k (refs xs))]) hx hb hts hown hG hP (va_D2 (Or.inl rfl) (Or.inr (Or.inl ⟨hk0, rfl⟩)) har) hS hd (fun H1 locs1 hP1 hD1 hS1 => ?_)
    refine hm_size (fun hz => ?_)
    have := hS1.1
    exact kk H1 locs1 ⟨by omega, hgo H1 locs1 hS1, Or.inr ⟨hk0, har, hrn, hP1, hE.kept (hsame H1 locs1 hS1)⟩⟩ hS1
/-- add at a place: from the row that has room -/
theorem l_ait {n1 a b r k i : Nat} {m0 : Int32} {xs : List Nat} (hx : p.tables.exec = Jvm.exec) (hb : c.code = cJx4a65c_add_7a177) (hml : c.maxLocals = ls.size) (hts : ∀ w ∈ gw, w.before args s = true) (hown : s.vm.findClass RJx4a65c = some m.cls) (hG : GS G s) (hf : 1 ≤ R.frames) (hlr : 240 ≤ R.locals) (hK : KA G n1 a m0 r k xs H) (hlt : xs.length < k) (hk : k < 2 ^ 31) (hi : i ≤ xs.length) (har : a ≠ r) (hAa : A a) (hAr : A r) (hE : ∀ y ∈ xs, EB G A y s.heap) (hEb : EB G A b s.heap) (hS : va_S A s.heap H locs) (hz1 : n1 = s.heap.size + cells) (hlow : n1 ≤ s.heap.size ∨ n1 ≤ r + 1) (hl0 : ls[0]? = some (.val (.ref a))) (hl1 : ls[1]? = some (.val (.int (nI i)))) (hl2 : ls[2]? = some (.val (.ref b))) (hl3 : ls[3]? = some (.val (.int (nI xs.length)))) (hl4 : ls[4]? = some (.val (.ref r)))
    (kk : ∀ (H1 : Heap) (locs1 : List Loc), KA G n1 a m0 r k (xs.insertIdx i b) H1 → va_S A s.heap H1 locs1 → W p l e R s m args below meth c H1 locs1 cells slots Q (F0 m 64 ls [])) : W p l e R s m args below meth c H locs cells slots Q (F0 m 38 ls []) := by
  obtain ⟨hz, hP⟩ := hK
  obtain ⟨v1, v2, v3⟩ := nat_in (Nat.lt_of_le_of_lt hi hlt) hk
  have e1 : (nI (i + 1)).toNatClampNeg = i + 1 := Int32.toNatClampNeg_ofNat_of_lt (by omega)
  have e2 : (nI (xs.length - i)).toNatClampNeg = xs.length - i := Int32.toNatClampNeg_ofNat_of_lt (by omega)
  refine lv_aload hx hb dJx4a65c_add_7a177_38 hl4 ?_
  refine lv_iload_n hx hb dJx4a65c_add_7a177_40 rfl hl1 ?_
  refine lv_aload hx hb dJx4a65c_add_7a177_41 hl4 ?_
  refine lv_iload_n hx hb dJx4a65c_add_7a177_43 rfl hl1 ?_
  refine lv_iconst (v := 1) hx hb dJx4a65c_add_7a177_44 rfl ?_
  refine lv_iadd hx hb dJx4a65c_add_7a177_45 ?_
  refine lv_iload_n hx hb dJx4a65c_add_7a177_46 rfl hl3 ?_
  refine lv_iload_n hx hb dJx4a65c_add_7a177_47 rfl hl1 ?_
  refine lv_isub hx hb dJx4a65c_add_7a177_48 ?_
  rw [nI_1, pk_sub hi]
  refine va_copyM (E0 := "java/lang/Object") (E1 := "java/lang/Object") hx hb hml hown (hts _ jw_340) (hts _ jw_163) (hts _ jw_162) (hts _ jw_11) hG.1 hP (va_D2 hAa hAr har) hS 1 1 3 3 rfl rfl rfl rfl v3 (nn0 (by omega)) (nn0 (by omega)) (by rw [v2, e2]; omega) (by rw [e1, e2]; omega) (fun j hj y hy => ?_) hf (Nat.le_trans (m := 240) (Nat.le_of_ble_eq_true rfl) hlr) dJx4a65c_add_7a177_49 (fun H2 locs2 hP2 hD2 hS2 => ?_)
  · obtain ⟨-, ci, fs, c1, c2, c3⟩ := (hE y (List.mem_of_getElem? hy)).kept (fun q h1 h2 => hS.2.1 q h1 h2)
    exact el_any hG c1 c2 c3
  · rw [v2, e1, e2] at hP2 hD2
    refine lv_aload hx hb dJx4a65c_add_7a177_52 hl4 ?_
    refine lv_iload_n hx hb dJx4a65c_add_7a177_54 rfl hl1 ?_
    refine lv_aload_n hx hb dJx4a65c_add_7a177_55 rfl hl2 ?_
    have hany : va_Any "java/lang/Object" s H2 b := by
      obtain ⟨-, ci, fs, c1, c2, c3⟩ := hEb.kept (fun q h1 h2 => hS2.2.1 q h1 h2)
      exact el_any hG c1 c2 c3
    refine va_astqM (E := "java/lang/Object") hx hb hG.1 hP2 hD2 hS2 1 3 rfl rfl hany v1 dJx4a65c_add_7a177_56 (fun H3 locs3 hP3 hD3 hS3 => ?_)
    rw [v2, refs_ins hi] at hP3 hD3
    refine lv_aload_n hx hb dJx4a65c_add_7a177_57 rfl hl0 ?_
    refine lv_iload_n hx hb dJx4a65c_add_7a177_58 rfl hl3 ?_
    refine lv_iconst (v := 1) hx hb dJx4a65c_add_7a177_59 rfl ?_
    refine lv_iadd hx hb dJx4a65c_add_7a177_60 ?_
    rw [nI_1]
    refine l_psz (A := A) (ws := [(r, lrow G k (refs (xs.insertIdx i b)))]) hx hb hts hown hG hP3 hD3 hS3 dJx4a65c_add_7a177_61 (fun H4 locs4 hP4 hD4 hS4 => ?_)
    refine hm_size (fun hq => ?_)
    have hge : n1 ≤ H4.size := by
      have q1 := hS4.1
      have q2 : r < H4.size := (hP4 1 _ rfl).lt
      omega
    exact kk H4 locs4 ⟨by omega, by rw [List.length_insertIdx_of_le_length hi]; exact hP4⟩ hS4
end LWF
section LWG
variable {l : Launch} {G : GP}
theorem jRC {a r i n : Nat} {m : Int32} {A : Nat → Prop} {J : Heap → Prop} (hJa : ∀ H, J H → va_at (gD G) kcl (a, lobj m r (nI n)) H) (hi : i ≤ n) (hn : n < 2 ^ 31) : HM l 1 yJx4a65c_rangeCheckForAdd_d00df cJx4a65c_rangeCheckForAdd_d00df 2 none G [.ref a, .int (nI i)] J (fun v H => v = none ∧ J H) A 0 0 := by
  refine hm_intro (by decide +kernel) (Nat.le_of_ble_eq_true rfl) ?_
  intro p e R s m9 below meth c ls r1 r2 r3 r4 hx hb hml hr hlocks hown hname hts hG hJ hl
  refine lv_iload_n hx hb dJx4a65c_rangeCheckForAdd_d00df_0 rfl (lv_at hl 1 rfl) ?_
  refine lv_aload_n hx hb dJx4a65c_rangeCheckForAdd_d00df_1 rfl (lv_at hl 0 rfl) ?_
  refine l_gsz hx hb hts hown hG (hJa _ hJ) dJx4a65c_rangeCheckForAdd_d00df_2 ?_
  refine lv_icmp_gt hx hb dJx4a65c_rangeCheckForAdd_d00df_5 (tgt := 12) rfl (fun q => absurd q (nI_nlt hi hn)) (fun _ => ?_)
  refine lv_iload_n hx hb dJx4a65c_rangeCheckForAdd_d00df_8 rfl (lv_at hl 1 rfl) ?_
  refine lv_if_ge hx hb dJx4a65c_rangeCheckForAdd_d00df_9 (tgt := 25) rfl (fun _ => ?_) (fun q => absurd (show nI 0 ≤ nI i from nI_le (Nat.zero_le _) (by omega)) q)
  exact hm_ret hx hb hr hlocks rfl dJx4a65c_rangeCheckForAdd_d00df_25 ⟨rfl, hJ⟩ va_S.rf (Nat.le_refl _) (Nat.le_refl _)
theorem jFR {a n r k i : Nat} {m : Int32} {xs : List Nat} (hi : i < xs.length) (hxk : xs.length ≤ k) (hk5 : k ≤ 300000) (hAo : ∀ q, AG a r k n q → own G q) : HM l 1 yJx4a65c_fastRemove_b59b0 cJx4a65c_fastRemove_b59b0 4 none G [.ref a, .ref r, .int (nI i)] (JG G n a m r k xs) (fun v H => v = none ∧ KA G n a (m + 1) r k (xs.eraseIdx i) H) (AG a r k n) 0 0 := by
  refine hm_intro (by decide +kernel) (Nat.le_of_ble_eq_true rfl) ?_
  intro p e R s m9 below meth c ls r1 r2 r3 r4 hx hb hml hr hlocks hown hname hts hG hJ hl
  have hn : s.heap.size = n := hJ.1
  refine lv_aload_n hx hb dJx4a65c_fastRemove_b59b0_0 rfl (lv_at hl 0 rfl) ?_
  refine lv_dup hx hb dJx4a65c_fastRemove_b59b0_1 rfl ?_
  refine l_gmc hx hb hts hown hG hJ.at dJx4a65c_fastRemove_b59b0_2 ?_
  refine lv_iconst (v := 1) hx hb dJx4a65c_fastRemove_b59b0_5 rfl ?_
  refine lv_iadd hx hb dJx4a65c_fastRemove_b59b0_6 ?_
  refine l_pmcJ hx hb hts hown hG hJ hAo dJx4a65c_fastRemove_b59b0_7 (fun H1 locs1 hJ1 hS1 => ?_)
  rcases hJ1.2.2 with ⟨h0, -, -⟩ | ⟨hk0, har, hrn, hP, hE⟩
  · omega
  obtain ⟨v1, v2, v3⟩ := nat_in (i := xs.length - 1) (k := k) (by omega) (by omega)
  have e1 : (nI (i + 1)).toNatClampNeg = i + 1 := Int32.toNatClampNeg_ofNat_of_lt (by omega)
  have e2 : (nI (xs.length - 1 - i)).toNatClampNeg = xs.length - 1 - i := Int32.toNatClampNeg_ofNat_of_lt (by omega)
  have e3 : (nI i).toNatClampNeg = i := Int32.toNatClampNeg_ofNat_of_lt (by omega)
  have hAa : AG a r k n a := Or.inl rfl
  have hAr : AG a r k n r := Or.inr (Or.inl ⟨hk0, rfl⟩)
  have es : nI xs.length - 1 = nI (xs.length - 1) := pk_sub (a := xs.length) (b := 1) (by omega)
  refine lv_aload_n hx hb dJx4a65c_fastRemove_b59b0_10 rfl (lv_at hl 0 rfl) ?_
  refine l_gsz hx hb hts hown hG hJ1.at dJx4a65c_fastRemove_b59b0_11 ?_
  refine lv_iconst (v := 1) hx hb dJx4a65c_fastRemove_b59b0_14 rfl ?_
  refine lv_isub hx hb dJx4a65c_fastRemove_b59b0_15 ?_
  rw [es]
  refine lv_dup hx hb dJx4a65c_fastRemove_b59b0_16 rfl ?_
  refine lv_istore_n hx hb dJx4a65c_fastRemove_b59b0_17 rfl hl (by decide) rfl (fun ls1 hl1 => ?_)
  refine lv_iload_n hx hb dJx4a65c_fastRemove_b59b0_18 rfl (lv_at hl1 3 rfl) ?_
  have go : ∀ (H2 : Heap) (locs2 : List Loc), va_P (gD G) kcl [(a, lobj (m + 1) r (nI xs.length)), (r, lrow G k (va_cpy (refs xs) (refs xs) (i + 1) i (xs.length - 1 - i)))] H2 → va_S (AG a r k n) s.heap H2 locs2 → W p l e R s m9 [Value.ref a, .ref r, .int (nI i)].toArray below meth c H2 locs2 0 0 (MQ below (QcJ (fun v H => v = none ∧ KA G n a (m + 1) r k (xs.eraseIdx i) H) (AG a r k n)) [Value.ref a, .ref r, .int (nI i)].toArray s 0 0 (AG a r k n)) (F0 m9 34 ls1 []) := by
    intro H2 locs2 hP2 hS2
    refine lv_aload_n hx hb dJx4a65c_fastRemove_b59b0_34 rfl (lv_at hl1 2 rfl) ?_
    refine lv_aload_n hx hb dJx4a65c_fastRemove_b59b0_35 rfl (lv_at hl1 1 rfl) ?_
    refine lv_iload_n hx hb dJx4a65c_fastRemove_b59b0_36 rfl (lv_at hl1 0 rfl) ?_
    refine lv_dup_x1 hx hb dJx4a65c_fastRemove_b59b0_37 rfl rfl ?_
    refine l_psz (A := AG a r k n) (ws := [(r, lrow G k (va_cpy (refs xs) (refs xs) (i + 1) i (xs.length - 1 - i)))]) hx hb hts hown hG hP2 (va_D2 hAa hAr har) hS2 dJx4a65c_fastRemove_b59b0_38 (fun H3 locs3 hP3 hD3 hS3 => ?_)
    refine lv_null hx hb dJx4a65c_fastRemove_b59b0_41 ?_
    refine va_astqN (C := "java/lang/Object") hx hb hG.1 hP3 hD3 hS3 1 3 rfl rfl v1 dJx4a65c_fastRemove_b59b0_42 (fun H4 locs4 hP4 hD4 hS4 => ?_)
    rw [v2, refs_del hi] at hP4
    refine hm_size (fun hq => ?_)
    have q1 := hS4.1
    exact hm_ret hx hb hr hlocks rfl dJx4a65c_fastRemove_b59b0_43 ⟨rfl, by omega, by rw [List.length_eraseIdx_of_lt hi]; exact hP4⟩ hS4 (Nat.le_refl _) (Nat.le_refl _)
  refine lv_icmp_le hx hb dJx4a65c_fastRemove_b59b0_19 (tgt := 34) rfl (fun q => ?_) (fun q => ?_)
  · have h9 : xs.length - 1 - i = 0 := by
      by_cases h8 : i < xs.length - 1
      · exact absurd q (nI_ge h8 (by omega))
      · omega
    refine go _ _ ?_ hS1
    rw [h9, cpy_0]
    exact hP
  · refine lv_aload_n hx hb dJx4a65c_fastRemove_b59b0_22 rfl (lv_at hl1 2 rfl) ?_
    refine lv_iload_n hx hb dJx4a65c_fastRemove_b59b0_23 rfl (lv_at hl1 3 rfl) ?_
    refine lv_iconst (v := 1) hx hb dJx4a65c_fastRemove_b59b0_24 rfl ?_
    refine lv_iadd hx hb dJx4a65c_fastRemove_b59b0_25 ?_
    refine lv_aload_n hx hb dJx4a65c_fastRemove_b59b0_26 rfl (lv_at hl1 2 rfl) ?_
    refine lv_iload_n hx hb dJx4a65c_fastRemove_b59b0_27 rfl (lv_at hl1 3 rfl) ?_
    refine lv_iload_n hx hb dJx4a65c_fastRemove_b59b0_28 rfl (lv_at hl1 0 rfl) ?_
    refine lv_iload_n hx hb dJx4a65c_fastRemove_b59b0_29 rfl (lv_at hl1 3 rfl) ?_
    refine lv_isub hx hb dJx4a65c_fastRemove_b59b0_30 ?_
    rw [nI_1, pk_sub (show i ≤ xs.length - 1 by omega)]
    refine va_copyM (E0 := "java/lang/Object") (E1 := "java/lang/Object") hx hb (by rw [hml]; exact hl1.1.symm) hown (hts _ jw_340) (hts _ jw_163) (hts _ jw_162) (hts _ jw_11) hG.1 hP (va_D2 hAa hAr har) hS1 1 1 3 3 rfl rfl rfl rfl (nn0 (by omega)) (nn0 (by omega)) (nn0 (by omega)) (by rw [e1, e2]; omega) (by rw [e3, e2]; omega) (fun j hj y hy => ?_) (by omega) (by rw [r2]; exact Nat.le_of_ble_eq_true rfl) dJx4a65c_fastRemove_b59b0_31 (fun H2 locs2 hP2 hD2 hS2 => ?_)
    · obtain ⟨-, ci, fs, c1, c2, c3⟩ := hE _ y hy
      exact el_any hG c1 c2 c3
    · rw [e1, e2, e3] at hP2
      exact go _ _ hP2 hS2
end LWG
