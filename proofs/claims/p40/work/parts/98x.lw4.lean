/-! one more in a list: the private add, and the changes' count -/
theorem refs_snoc {xs : List Nat} {b : Nat} : va_up (refs xs) xs.length (some b) = refs (xs ++ [b]) := by
  funext i
  unfold va_up refs
  by_cases hi : i = xs.length
  · subst hi
    simp
  · rw [if_neg hi]
    by_cases h2 : i < xs.length
    · rw [List.getElem?_append_left h2]
    · rw [List.getElem?_eq_none (by omega), List.getElem?_eq_none (by simp; omega)]
/-- a list of room k: its object, and its row -/
def KA (G : GP) (n a : Nat) (m : Int32) (r k : Nat) (ys : List Nat) (H : Heap) : Prop := H.size = n ∧ va_P (gD G) kcl [(a, lobj m r (nI ys.length)), (r, lrow G k (refs ys))] H
def EB (G : GP) (A : Nat → Prop) (b : Nat) (H : Heap) : Prop := ¬ A b ∧ ∃ ci fs, 1 ≤ ci ∧ ci < 9 ∧ va_at (gD G) kcl (b, .inr (ci, fs)) H
theorem EB.kept {G : GP} {A : Nat → Prop} {b : Nat} {H H1 : Heap} (h : EB G A b H) (hq : ∀ q, q < H.size → ¬ A q → H1[q]? = H[q]?) : EB G A b H1 := by
  obtain ⟨h1, ci, fs, h2, h3, h4⟩ := h
  exact ⟨h1, ci, fs, h2, h3, h4.kept (hq b h4.lt h1)⟩
section LWD
variable {p : Program} {l : Launch} {e : Env} {R : Room} {s : State} {m : MethodId} {args : Array Value} {below : List Frame} {meth : Method} {c : Code} {H : Heap} {locs : List Loc} {cells slots : Nat} {Q : State → Prop}
variable {cc : ByteArray} {pc : Nat} {ls : Array Slot} {G : GP} {A : Nat → Prop} {rest : List Value}
/-- the changes' count is put, with nothing else changed -/
theorem l_pmcJ {n a r k : Nat} {v m0 : Int32} {xs : List Nat} (hx : p.tables.exec = Jvm.exec) (hb : c.code = cc) (hts : ∀ w ∈ gw, w.before args s = true) (hown : s.vm.findClass RJx4a65c = some m.cls) (hG : GS G s) (hJ : JG G n a m0 r k xs s.heap) (hA : ∀ q, AG a r k n q → own G q) (hd : decode cc pc = .ok (.putfield 63, 3))
    (kk : ∀ (H1 : Heap) (locs1 : List Loc), JG G n a v r k xs H1 → va_S (AG a r k n) s.heap H1 locs1 → W p l e R s m args below meth c H1 locs1 0 slots Q (F0 m (pc + 3) ls rest)) : W p l e R s m args below meth c s.heap [] 0 slots Q (F0 m pc ls (.int v :: .ref a :: rest)) := by
  obtain ⟨rfl, hH, h⟩ := hJ
  have hgo : ∀ (H1 : Heap) (locs1 : List Loc), va_S (AG a r k s.heap.size) s.heap H1 locs1 → ∀ q, q < (gH G).size → H1[q]? = (gH G)[q]? := by
    intro H1 locs1 hS1 q hq
    by_cases h9 : q < s.heap.size
    · rw [hS1.2.1 q h9 (fun z => absurd (hA q z) (Nat.not_le_of_lt hq))]
      exact hH q hq
    · have h8 := hA q (Or.inr (Or.inr (by omega)))
      exact absurd h8 (Nat.not_le_of_lt hq)
  rcases h with ⟨rfl, rfl, hat⟩ | ⟨hk0, har, hrn, hP, hE⟩
  · refine l_pmc (A := AG a (gE G) 0 s.heap.size) (ws := []) hx hb hts hown hG (at_one hat) (va_D1 (Or.inl rfl)) va_S.rf hd (fun H1 locs1 hP1 hD1 hS1 => ?_)
    refine hm_size (fun hz => ?_)
    have := hS1.1
    exact kk H1 locs1 ⟨by omega, hgo H1 locs1 hS1, Or.inl ⟨rfl, rfl, hP1 0 _ rfl⟩⟩ hS1
  · refine l_pmc (A := AG a r k s.heap.size) (ws := [(r, lrow G k (refs xs))]) hx hb hts hown hG hP (va_D2 (Or.inl rfl) (Or.inr (Or.inl ⟨hk0, rfl⟩)) har) va_S.rf hd (fun H1 locs1 hP1 hD1 hS1 => ?_)
    refine hm_size (fun hz => ?_)
    have := hS1.1
    exact kk H1 locs1 ⟨by omega, hgo H1 locs1 hS1, Or.inr ⟨hk0, har, hrn, hP1, hE.kept (fun q h1 h2 => hS1.2.1 q h1 h2)⟩⟩ hS1
/-- from the row that has room -/
theorem l_apt {n n1 a b r k r0 k0 mc ms : Nat} {m0 : Int32} {xs : List Nat} (hx : p.tables.exec = Jvm.exec) (hb : c.code = cJx4a65c_add_72be8) (hr : meth.sig.returnType = none) (hlocks : meth.locks = false) (hts : ∀ w ∈ gw, w.before args s = true) (hown : s.vm.findClass RJx4a65c = some m.cls) (hG : GS G s) (hK : KA G n1 a m0 r k xs H) (hlt : xs.length < k) (hk : k < 2 ^ 31) (har : a ≠ r) (hAa : AG a r0 k0 n a) (hAr : AG a r0 k0 n r) (hE : EB G (AG a r0 k0 n) b s.heap) (hS : va_S (AG a r0 k0 n) s.heap H locs) (hz1 : n1 = s.heap.size + cells) (hlow : n1 ≤ s.heap.size ∨ n1 ≤ r + 1) (hc : cells ≤ mc) (hs : slots ≤ ms) (hl0 : ls[0]? = some (.val (.ref a))) (hl1 : ls[1]? = some (.val (.ref b))) (hl2 : ls[2]? = some (.val (.ref r))) (hl3 : ls[3]? = some (.val (.int (nI xs.length)))) :
    W p l e R s m args below meth c H locs cells slots (MQ below (QcJ (fun v H => v = none ∧ KA G n1 a m0 r k (xs ++ [b]) H) (AG a r0 k0 n)) args s mc ms (AG a r0 k0 n)) (F0 m 11 ls []) := by
  obtain ⟨hz, hP⟩ := hK
  obtain ⟨v1, v2, -⟩ := nat_in hlt hk
  refine lv_aload_n hx hb dJx4a65c_add_72be8_11 rfl hl2 ?_
  refine lv_iload_n hx hb dJx4a65c_add_72be8_12 rfl hl3 ?_
  refine lv_aload_n hx hb dJx4a65c_add_72be8_13 rfl hl1 ?_
  have hany : va_Any "java/lang/Object" s H b := by
    obtain ⟨-, ci, fs, c1, c2, c3⟩ := hE.kept (fun q h1 h2 => hS.2.1 q h1 h2)
    exact el_any hG c1 c2 c3
  refine va_astqM (E := "java/lang/Object") hx hb hG.1 hP (va_D2 hAa hAr har) hS 1 3 rfl rfl hany v1 dJx4a65c_add_72be8_14 (fun H1 locs1 hP1 hD1 hS1 => ?_)
  rw [v2, refs_snoc] at hP1 hD1
  refine lv_aload_n hx hb dJx4a65c_add_72be8_15 rfl hl0 ?_
  refine lv_iload_n hx hb dJx4a65c_add_72be8_16 rfl hl3 ?_
  refine lv_iconst (v := 1) hx hb dJx4a65c_add_72be8_17 rfl ?_
  refine lv_iadd hx hb dJx4a65c_add_72be8_18 ?_
  rw [nI_1]
  refine l_psz (A := AG a r0 k0 n) (ws := [(r, lrow G k (refs (xs ++ [b])))]) hx hb hts hown hG hP1 hD1 hS1 dJx4a65c_add_72be8_19 (fun H2 locs2 hP2 hD2 hS2 => ?_)
  refine hm_size (fun hq => ?_)
  have hge : n1 ≤ H2.size := by
    have q1 := hS2.1
    have q2 : r < H2.size := (hP2 1 _ rfl).lt
    omega
  exact hm_ret hx hb hr hlocks rfl dJx4a65c_add_72be8_22 ⟨rfl, by omega, by rw [List.length_append]; exact hP2⟩ hS2 hc hs
end LWD
section LWE
variable {l : Launch} {G : GP}
theorem va_cellOf {s : State} {H : Heap} {a : Nat} {m : Int32} {r : Nat} {c : Int32} (hG : GS G s) (hat : va_at (gD G) kcl (a, lobj m r c) H) : ∃ cell : Jvm.Cell, H[a]? = some cell ∧ cell.vm.isStatics = false ∧ s.vm.findClass "java/util/ArrayList" = some cell.cls := va_recv hG.1 (at_one hat) (kcl_at (by decide)) (q0 := 0) rfl
/-- the room's end is reached: a new row -/
theorem jAPf {a n r k b : Nat} {m : Int32} {xs : List Nat} (hk : xs.length = k) (hk5 : k ≤ 100000) (han : a < n) (hAo : ∀ q, AG a r k n q → own G q) : HM l 5 yJx4a65c_add_72be8 cJx4a65c_add_72be8 4 none G [.ref a, .ref b, .ref r, .int (nI xs.length)] (fun H => JG G n a m r k xs H ∧ EB G (AG a r k n) b H) (fun v H => v = none ∧ KA G (n + 1) a m n (lcap k) (xs ++ [b]) H) (AG a r k n) 1 (lcap k) := by
  refine hm_intro (by decide +kernel) (Nat.le_of_ble_eq_true rfl) ?_
  intro p e R s m9 below meth c ls r1 r2 r3 r4 hx hb hml hr hlocks hown hname hts hG hJ hl
  obtain ⟨hJ, hE⟩ := hJ
  have hat := hJ.at
  have hn : s.heap.size = n := hJ.1
  have hcap : k < lcap k := by unfold lcap; split <;> omega
  have hcap2 : lcap k ≤ 200010 := by unfold lcap; split <;> omega
  have go : ∀ (ls1 : Array Slot), lv_has ls1 4 [(0, .ref a), (1, .ref b), (2, .ref r), (3, .int (nI xs.length))] → W p l e R s m9 [Value.ref a, .ref b, .ref r, .int (nI xs.length)].toArray below meth c s.heap [] 0 0 (MQ below (QcJ (fun v H => v = none ∧ KA G (n + 1) a m n (lcap k) (xs ++ [b]) H) (AG a r k n)) [Value.ref a, .ref b, .ref r, .int (nI xs.length)].toArray s 1 (lcap k) (AG a r k n)) (F0 m9 6 ls1 []) := by
    intro ls1 hl
    refine lv_aload_n hx hb dJx4a65c_add_72be8_6 rfl (lv_at hl 0 rfl) ?_
    refine hm_V (n := 0) (b := a) (As := []) (rest := []) (jGW (m := m) hk hk5 hAo) hx hb (by rw [hml]; exact hl.1.symm) hown hts hG va_S.rf (fun q h => h) hJ (va_cellOf hG hat) jw_113 jw_115 jp_1 jw_5 jw_116 ⟨by decide +kernel, by decide +kernel⟩ rfl (Nat.zero_le _) (by omega) (by omega) (by omega) (by omega) rfl dJx4a65c_add_72be8_7 ?_
    rintro v H1 locs1 ⟨rfl, hz1, hP1⟩ - - hS1
    refine lv_astore_n hx hb dJx4a65c_add_72be8_10 rfl hl (by decide) rfl (fun ls2 hl2 => ?_)
    exact l_apt (n := n) (n1 := n + 1) (m0 := m) hx hb hr hlocks hts hown hG ⟨hz1, hP1⟩ (by omega) (by omega) (by omega) (Or.inl rfl) (Or.inr (Or.inr (Nat.le_refl _))) hE hS1 (by omega) (Or.inr (Nat.le_refl _)) (by omega) (by omega) (lv_at hl2 1 rfl) (lv_at hl2 2 rfl) (lv_at hl2 0 rfl) (lv_at hl2 3 rfl)
  refine lv_iload_n hx hb dJx4a65c_add_72be8_0 rfl (lv_at hl 3 rfl) ?_
  refine lv_aload_n hx hb dJx4a65c_add_72be8_1 rfl (lv_at hl 2 rfl) ?_
  rcases hJ.2.2 with ⟨rfl, rfl, -⟩ | ⟨hk0, har, hrn, hP, -⟩
  · obtain ⟨cell, q1, q2, q3⟩ := gE_cell hG hJ.2.1
    refine W.alen (n := 0) hx hb q1 q2 q3 rfl rfl dJx4a65c_add_72be8_2 ?_
    refine lv_icmp_ne hx hb dJx4a65c_add_72be8_3 (tgt := 11) rfl (fun q => absurd (show nI xs.length = 0 by rw [hk]; rfl) q) (fun _ => ?_)
    exact go ls hl
  · refine va_alen (v := nI k) hx hb hG.1 hP 1 3 rfl rfl rfl dJx4a65c_add_72be8_2 ?_
    refine lv_icmp_ne hx hb dJx4a65c_add_72be8_3 (tgt := 11) rfl (fun q => absurd (by rw [hk]) q) (fun _ => ?_)
    exact go ls hl
/-- there is room -/
theorem jAPr {a n r k b : Nat} {m : Int32} {xs : List Nat} (hk : xs.length < k) (hk5 : k < 2 ^ 31) : HM l 5 yJx4a65c_add_72be8 cJx4a65c_add_72be8 4 none G [.ref a, .ref b, .ref r, .int (nI xs.length)] (fun H => JG G n a m r k xs H ∧ EB G (AG a r k n) b H) (fun v H => v = none ∧ KA G n a m r k (xs ++ [b]) H) (AG a r k n) 0 0 := by
  refine hm_intro (by decide +kernel) (Nat.le_of_ble_eq_true rfl) ?_
  intro p e R s m9 below meth c ls r1 r2 r3 r4 hx hb hml hr hlocks hown hname hts hG hJ hl
  obtain ⟨hJ, hE⟩ := hJ
  have hn : s.heap.size = n := hJ.1
  refine lv_iload_n hx hb dJx4a65c_add_72be8_0 rfl (lv_at hl 3 rfl) ?_
  refine lv_aload_n hx hb dJx4a65c_add_72be8_1 rfl (lv_at hl 2 rfl) ?_
  rcases hJ.2.2 with ⟨rfl, rfl, -⟩ | ⟨hk0, har, hrn, hP, -⟩
  · exact absurd hk (Nat.not_lt_zero _)
  · refine va_alen (v := nI k) hx hb hG.1 hP 1 3 rfl rfl rfl dJx4a65c_add_72be8_2 ?_
    refine lv_icmp_ne hx hb dJx4a65c_add_72be8_3 (tgt := 11) rfl (fun _ => ?_) (fun q => absurd (nI_lt hk hk5) (by rw [q]; exact fun z => absurd z (by rw [Int32.lt_iff_toInt_lt]; omega)))
    exact l_apt (n := n) (n1 := n) (m0 := m) hx hb hr hlocks hts hown hG ⟨hn, hP⟩ hk hk5 har (Or.inl rfl) (Or.inr (Or.inl ⟨hk0, rfl⟩)) hE va_S.rf (by omega) (Or.inl (by omega)) (by omega) (by omega) (lv_at hl 0 rfl) (lv_at hl 1 rfl) (lv_at hl 2 rfl) (lv_at hl 3 rfl)
end LWE
