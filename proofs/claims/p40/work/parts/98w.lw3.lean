/-! a list grows -/
def AG (a r k n : Nat) : Nat → Prop := fun q => q = a ∨ (0 < k ∧ q = r) ∨ n ≤ q
def JG (G : GP) (n a : Nat) (m : Int32) (r k : Nat) (xs : List Nat) (H : Heap) : Prop := H.size = n ∧ (∀ q, q < (gH G).size → H[q]? = (gH G)[q]?) ∧ ((k = 0 ∧ r = gE G ∧ va_at (gD G) kcl (a, lobj m r (nI xs.length)) H) ∨ (0 < k ∧ a ≠ r ∧ r < n ∧ va_P (gD G) kcl [(a, lobj m r (nI xs.length)), (r, lrow G k (refs xs))] H ∧ EL G (AG a r k n) (refs xs) H))
def KG (G : GP) (n a : Nat) (m : Int32) (k : Nat) (xs : List Nat) : Option Value → Heap → Prop := fun v H => v = some (.ref n) ∧ H.size = n + 1 ∧ va_P (gD G) kcl [(a, lobj m n (nI xs.length)), (n, lrow G (lcap k) (refs xs))] H
theorem JG.at {G : GP} {n a r k : Nat} {m : Int32} {xs : List Nat} {H : Heap} (h : JG G n a m r k xs H) : va_at (gD G) kcl (a, lobj m r (nI xs.length)) H := by
  rcases h.2.2 with h1 | h1
  · exact h1.2.2
  · exact h1.2.2.2.1 0 _ rfl
theorem EL.mono {G : GP} {A B : Nat → Prop} {f : Nat → Option Nat} {H : Heap} (h : EL G A f H) (hAB : ∀ q, B q → A q) : EL G B f H := fun i y e => ⟨fun q => (h i y e).1 (hAB y q), (h i y e).2⟩
theorem va_P2 {D : va_G} {cl : List vw_C} {p q : Nat × va_E} {H : Heap} (h1 : va_at D cl p H) (h2 : va_at D cl q H) : va_P D cl [p, q] H := by
  intro k x hx
  match k, hx with
  | 0, hx => cases hx; exact h1
  | 1, hx => cases hx; exact h2
  | k + 2, hx => cases hx
theorem refs_cpy {xs : List Nat} {k : Nat} (h : xs.length = k) : va_cpy (refs xs) (fun _ => none) 0 0 k = refs xs := by
  funext i
  unfold va_cpy refs
  by_cases hi : i < k
  · rw [if_pos ⟨Nat.zero_le _, by omega⟩]
    simp
  · rw [if_neg (by omega)]
    exact (List.getElem?_eq_none (by omega)).symm
theorem refs_nil : refs [] = fun _ => none := by
  funext i
  rfl
theorem gE_cell {G : GP} {s : State} {H : Heap} (hG : GS G s) (hH : ∀ q, q < (gH G).size → H[q]? = (gH G)[q]?) : ∃ cell : Jvm.Cell, H[gE G]? = some cell ∧ s.isArrayOf cell (.object "java/lang/Object") ∧ cell.slots.size.toInt32 = 0 := by
  obtain ⟨f, cell, h1, h2, h3, h4, h5, h6, h7⟩ := hG.2.2.2.2.2.2.2.1
  exact ⟨cell, by rw [hH _ (Array.getElem?_eq_some_iff.mp h1).1]; exact h1, h2, h5⟩
theorem gE_stat {G : GP} {s : State} {A : Nat → Prop} (hG : GS G s) (hH : ∀ q, q < (gH G).size → s.heap[q]? = (gH G)[q]?) (hA : ∀ q, A q → own G q) : va_Z "java/util/ArrayList" "DEFAULTCAPACITY_EMPTY_ELEMENTDATA" "[Ljava/lang/Object;" (.ref (gE G)) A s s.heap :=
  (hG.2.2.2.2.2.2.1.kept (fun q h _ => hH q h)).narrow hA
section LWC
variable {l : Launch} {G : GP}
theorem jGR {a n r k : Nat} {m : Int32} {xs : List Nat} (hk : xs.length = k) (hk5 : k ≤ 100000) (hAo : ∀ q, AG a r k n q → own G q) : HM l 3 yJx4a65c_grow_92f84 cJx4a65c_grow_92f84 4 (some (.array (.object "java/lang/Object"))) G [.ref a, .int (nI (k + 1))] (JG G n a m r k xs) (KG G n a m k xs) (AG a r k n) 1 (lcap k) := by
  refine hm_intro (by decide +kernel) (Nat.le_of_ble_eq_true rfl) ?_
  intro p e R s m9 below meth c ls r1 r2 r3 r4 hx hb hml hr hlocks hown hname hts hG hJ hl
  have hat := hJ.at
  obtain ⟨rfl, hH, h⟩ := hJ
  have han : a < s.heap.size := hat.lt
  have hZ := gE_stat (A := AG a r k s.heap.size) hG hH hAo
  rcases h with ⟨rfl, rfl, -⟩ | ⟨hk0, har, hrn, hP, hE⟩
  · obtain ⟨cell, q1, q2, q3⟩ := gE_cell hG hH
    have hxs : xs = [] := List.length_eq_zero_iff.mp hk
    refine lv_aload_n hx hb dJx4a65c_grow_92f84_0 rfl (lv_at hl 0 rfl) ?_
    refine l_ged hx hb hts hown hG hat dJx4a65c_grow_92f84_1 ?_
    refine W.alen (n := 0) hx hb q1 q2 q3 rfl rfl dJx4a65c_grow_92f84_4 ?_
    refine lv_istore_n hx hb dJx4a65c_grow_92f84_5 rfl hl (by decide) rfl (fun ls1 hl1 => ?_)
    refine lv_iload_n hx hb dJx4a65c_grow_92f84_6 rfl (lv_at hl1 0 rfl) ?_
    refine lv_if_gt hx hb dJx4a65c_grow_92f84_7 (tgt := 20) rfl (fun q => absurd q (by decide)) (fun _ => ?_)
    refine lv_aload_n hx hb dJx4a65c_grow_92f84_10 rfl (lv_at hl1 1 rfl) ?_
    refine l_ged hx hb hts hown hG hat dJx4a65c_grow_92f84_11 ?_
    refine va_gets hx hb hZ va_S.rf hown (hts _ jw_65) (fun x h => h) dJx4a65c_grow_92f84_14 ?_
    refine lv_acmp_eq (rx := some (gE G)) (ry := some (gE G)) hx hb dJx4a65c_grow_92f84_17 (tgt := 45) rfl (fun _ => ?_) (fun q => absurd rfl q)
    refine lv_aload_n hx hb dJx4a65c_grow_92f84_45 rfl (lv_at hl1 1 rfl) ?_
    refine lv_bipush (v := 10) hx hb dJx4a65c_grow_92f84_46 rfl ?_
    refine lv_iload_n hx hb dJx4a65c_grow_92f84_48 rfl (lv_at hl1 2 rfl) ?_
    refine va_mmax hx hb (by rw [hml]; exact hl1.1.symm) hown (hts _ jw_164) (hts _ jw_125) (hts _ jw_9) (hts _ jw_126) (by omega) (by rw [r2]; exact Nat.le_of_ble_eq_true rfl) (by rw [r3]; omega) (by rw [r4]; omega) dJx4a65c_grow_92f84_49 ?_
    rw [if_neg (show ¬ (10 : Int32) < nI (0 + 1) by decide)]
    refine va_newq (A := AG a (gE G) 0 s.heap.size) (H0 := s.heap) (N' := 10) hx hb hown (hts _ jw_165) hG.2.2.2.2.2.2.2.2.1 hG.1 (at_one hat) (va_D1 (Or.inl rfl)) va_S.rf (fun q h => Or.inr (Or.inr h)) (by decide) rfl (by decide) (by rw [r3]; omega) (by rw [r4, show lcap 0 = 10 from rfl]; omega) dJx4a65c_grow_92f84_52 (fun q cA H1 hK1 hP1 hD1 hS1 => ?_)
    have hc3 : cA = gA G 3 := row_cls hG (hK1.2 4 _ rfl).2
    subst hc3
    have hqa : a ≠ q := fun h => absurd (hD1.1 0 1 _ _ rfl rfl h) (by decide)
    have hq : s.heap.size ≤ q := ((hD1.2 1 _ rfl).resolve_left (fun h => hqa h.symm)).resolve_left (fun h => absurd h.1 (by decide))
    refine lv_dup_x1 hx hb dJx4a65c_grow_92f84_55 rfl rfl ?_
    refine l_ped (A := AG a (gE G) 0 s.heap.size) (ws := [(q, lrow G 10 (fun _ => none))]) hx hb hts hown hG hP1 hD1 hS1 dJx4a65c_grow_92f84_56 (fun H2 locs2 hP2 hD2 hS2 => ?_)
    refine hm_size (fun hz => ?_)
    have hlt : q < H2.size := (hP2 1 _ rfl).lt
    have hqe : q = s.heap.size := by omega
    subst hqe
    refine hm_ret hx hb hr hlocks rfl dJx4a65c_grow_92f84_59 ⟨rfl, by omega, ?_⟩ hS2 (by omega) (by rw [show lcap 0 = 10 from rfl]; omega)
    rw [hxs, refs_nil]
    rw [hxs] at hP2
    exact hP2
  · have ec : k < 2 ^ 31 := by omega
    have ed : nI (k + 1) - nI k = nI 1 := by
      have h9 := pk_sub (a := k + 1) (b := k) (by omega)
      rw [Nat.add_sub_cancel_left] at h9
      exact h9
    have es : nI k >>> ((1 : Int32) &&& 31) = nI (k / 2) := by
      have h9 := pk_shrN (n := k) ec ((1 : Int32) &&& 31) 1 (by decide)
      rw [Nat.pow_one] at h9
      exact h9
    have hcap : lcap k = k + max 1 (k / 2) := by unfold lcap; rw [if_neg (by omega)]
    have hmax : max 1 (k / 2) ≤ k := by omega
    have el : nI k + (if nI 1 < nI (k / 2) then nI (k / 2) else nI 1) = nI (lcap k) := by
      rw [hcap]
      by_cases c9 : 1 < k / 2
      · rw [if_pos (nI_lt c9 (by omega)), show max 1 (k / 2) = k / 2 by omega]
        exact nI_add k (k / 2)
      · rw [if_neg (nI_nlt (by omega) (by decide)), show max 1 (k / 2) = 1 by omega]
        exact nI_add k 1
    have hcl : lcap k ≤ 200000 := by omega
    have hcg : 0 < lcap k := by omega
    have hkl : k ≤ lcap k := by omega
    refine lv_aload_n hx hb dJx4a65c_grow_92f84_0 rfl (lv_at hl 0 rfl) ?_
    refine l_ged hx hb hts hown hG hat dJx4a65c_grow_92f84_1 ?_
    refine va_alen (v := nI k) hx hb hG.1 hP 1 3 rfl rfl rfl dJx4a65c_grow_92f84_4 ?_
    refine lv_istore_n hx hb dJx4a65c_grow_92f84_5 rfl hl (by decide) rfl (fun ls1 hl1 => ?_)
    refine lv_iload_n hx hb dJx4a65c_grow_92f84_6 rfl (lv_at hl1 0 rfl) ?_
    refine lv_if_gt hx hb dJx4a65c_grow_92f84_7 (tgt := 20) rfl (fun _ => ?_) (fun q => absurd (show nI 0 < nI k from nI_lt hk0 ec) q)
    refine lv_iload_n hx hb dJx4a65c_grow_92f84_20 rfl (lv_at hl1 0 rfl) ?_
    refine lv_iload_n hx hb dJx4a65c_grow_92f84_21 rfl (lv_at hl1 2 rfl) ?_
    refine lv_iload_n hx hb dJx4a65c_grow_92f84_22 rfl (lv_at hl1 0 rfl) ?_
    refine lv_isub hx hb dJx4a65c_grow_92f84_23 ?_
    refine lv_iload_n hx hb dJx4a65c_grow_92f84_24 rfl (lv_at hl1 0 rfl) ?_
    refine lv_iconst (v := 1) hx hb dJx4a65c_grow_92f84_25 rfl ?_
    refine lv_ishr hx hb dJx4a65c_grow_92f84_26 ?_
    rw [ed, es]
    refine hm_S (n := 3) (As := [.int (nI k), .int (nI 1), .int (nI (k / 2))]) (rest := []) (jNL (A := AG a r k s.heap.size) (J := fun H => H = s.heap) (o := nI k) (mn := nI 1) (pf := nI (k / 2)) (by rw [el]; exact nI_nle hcg (by omega)) (by rw [el]; exact (show ¬ nI 2147483639 < nI (lcap k) from nI_nlt (by omega) (by decide)))) hx hb (by rw [hml]; exact hl1.1.symm) hown hts hG va_S.rf (fun q h => h) rfl jw_121 jw_122 jw_8 jw_123 ⟨by decide +kernel, by decide +kernel⟩ rfl (Nat.zero_le _) (by omega) (by omega) (by omega) (by omega) rfl dJx4a65c_grow_92f84_27 ?_
    rintro v H1 locs1 ⟨rfl, rfl⟩ - - hS1
    rw [el]
    refine lv_istore_n hx hb dJx4a65c_grow_92f84_30 rfl hl1 (by decide) rfl (fun ls2 hl2 => ?_)
    refine lv_aload_n hx hb dJx4a65c_grow_92f84_31 rfl (lv_at hl2 2 rfl) ?_
    refine lv_aload_n hx hb dJx4a65c_grow_92f84_32 rfl (lv_at hl2 2 rfl) ?_
    refine l_ged hx hb hts hown hG hat dJx4a65c_grow_92f84_33 ?_
    refine lv_iload_n hx hb dJx4a65c_grow_92f84_36 rfl (lv_at hl2 0 rfl) ?_
    refine hm_S (n := 2) (As := [.ref r, .int (nI (lcap k))]) (rest := [.ref a]) (jCO (n := s.heap.size) (r := r) (k := k) (k' := lcap k) (f := refs xs) hrn hkl (by omega)) hx hb (by rw [hml]; exact hl2.1.symm) hown hts hG hS1 (fun q h => h.elim (fun h => Or.inr (Or.inl ⟨hk0, h⟩)) (fun h => Or.inr (Or.inr h))) ⟨rfl, at_one (hP 1 _ rfl), hE.mono (fun q h => h.elim (fun h => Or.inr (Or.inl ⟨hk0, h⟩)) (fun h => Or.inr (Or.inr h)))⟩ jw_131 jw_132 jw_10 jw_133 ⟨by decide +kernel, by decide +kernel⟩ rfl (Nat.le_of_ble_eq_true rfl) (by omega) (by omega) (by omega) (by omega) rfl dJx4a65c_grow_92f84_37 ?_
    rintro v H2 locs2 ⟨rfl, hz2, hP2⟩ - hk2 hS2
    rw [refs_cpy hk] at hP2
    have hat2 := hat.kept (hk2 a han (fun h => h.elim (fun h => har h) (fun h => by omega)))
    refine lv_dup_x1 hx hb dJx4a65c_grow_92f84_40 rfl rfl ?_
    refine l_ped (A := AG a r k s.heap.size) (ws := [(s.heap.size, lrow G (lcap k) (refs xs))]) hx hb hts hown hG (va_P2 hat2 (hP2 1 _ rfl)) (va_D2 (Or.inl rfl) (Or.inr (Or.inr (Nat.le_refl _))) (by omega)) hS2 dJx4a65c_grow_92f84_41 (fun H3 locs3 hP3 hD3 hS3 => ?_)
    refine hm_size (fun hz => ?_)
    have hlt : s.heap.size < H3.size := (hP3 1 _ rfl).lt
    exact hm_ret hx hb hr hlocks rfl dJx4a65c_grow_92f84_44 ⟨rfl, by omega, hP3⟩ hS3 (by omega) (by omega)
theorem jGW {a n r k : Nat} {m : Int32} {xs : List Nat} (hk : xs.length = k) (hk5 : k ≤ 100000) (hAo : ∀ q, AG a r k n q → own G q) : HM l 4 yJx4a65c_grow_d5877 cJx4a65c_grow_d5877 1 (some (.array (.object "java/lang/Object"))) G [.ref a] (JG G n a m r k xs) (KG G n a m k xs) (AG a r k n) 1 (lcap k) := by
  refine hm_intro (by decide +kernel) (Nat.le_of_ble_eq_true rfl) ?_
  intro p e R s m9 below meth c ls r1 r2 r3 r4 hx hb hml hr hlocks hown hname hts hG hJ hl
  have hat := hJ.at
  refine lv_aload_n hx hb dJx4a65c_grow_d5877_0 rfl (lv_at hl 0 rfl) ?_
  refine lv_aload_n hx hb dJx4a65c_grow_d5877_1 rfl (lv_at hl 0 rfl) ?_
  refine l_gsz hx hb hts hown hG hat dJx4a65c_grow_d5877_2 ?_
  refine lv_iconst (v := 1) hx hb dJx4a65c_grow_d5877_5 rfl ?_
  refine lv_iadd hx hb dJx4a65c_grow_d5877_6 ?_
  rw [hk, nI_1 k]
  refine hm_V (n := 1) (b := a) (As := [.int (nI (k + 1))]) (rest := []) (jGR (m := m) hk hk5 hAo) hx hb (by rw [hml]; exact hl.1.symm) hown hts hG va_S.rf (fun q h => h) hJ (va_recv hG.1 (at_one hat) (kcl_at (by decide)) (q0 := 0) rfl) jw_117 jw_119 jp_2 jw_5 jw_120 ⟨by decide +kernel, by decide +kernel⟩ rfl (Nat.zero_le _) (by omega) (by omega) (by omega) (by omega) rfl dJx4a65c_grow_d5877_7 ?_
  rintro v H1 locs1 ⟨rfl, hz1, hP1⟩ - - hS1
  exact hm_ret hx hb hr hlocks rfl dJx4a65c_grow_d5877_10 ⟨rfl, hz1, hP1⟩ hS1 (by omega) (by omega)
end LWC
