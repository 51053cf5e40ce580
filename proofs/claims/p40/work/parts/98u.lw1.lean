/-! the lists' worlds, and rows over them -/
abbrev lrow (G : GP) (k : Nat) (f : Nat → Option Nat) : va_E := .inl (gA G 3, k, .inr (.inr (.inr (.inr f))))
abbrev lobj (m : Int32) (r : Nat) (c : Int32) : va_E := .inr (0, [.int m, .ref r, .int c])
def EL (G : GP) (A : Nat → Prop) (f : Nat → Option Nat) (H : Heap) : Prop := ∀ i y, f i = some y → ¬ A y ∧ ∃ ci fs, 1 ≤ ci ∧ ci < 9 ∧ va_at (gD G) kcl (y, .inr (ci, fs)) H
set_option maxRecDepth 100000 in
theorem el_cast : ∀ ci, 1 ≤ ci → ci < 9 → .castable (RN ci) "java/lang/Object" ∈ NWl := by
  intro ci h1 h2
  match ci, h1, h2 with
  | 1, _, _ => decide +kernel
  | 2, _, _ => decide +kernel
  | 3, _, _ => decide +kernel
  | 4, _, _ => decide +kernel
  | 5, _, _ => decide +kernel
  | 6, _, _ => decide +kernel
  | 7, _, _ => decide +kernel
  | 8, _, _ => decide +kernel
  | k + 9, _, h => omega
theorem el_any {G : GP} {s : State} {H : Heap} {y ci : Nat} {fs : List Value} (hG : GS G s) (h1 : 1 ≤ ci) (h2 : ci < 9) (h : va_at (gD G) kcl (y, .inr (ci, fs)) H) : va_Any "java/lang/Object" s H y :=
  va_rAny (q0 := 0) hG.1 (at_one h) rfl (kcl_at h2) (fun comp c0 q1 q2 => vb_asgC (hG.2.1 _ (el_cast ci h1 h2)) comp c0 q1 q2)
theorem EL.kept {G : GP} {A : Nat → Prop} {f : Nat → Option Nat} {H H1 : Heap} (h : EL G A f H) (hq : ∀ q, q < H.size → ¬ A q → H1[q]? = H[q]?) : EL G A f H1 := by
  intro i y e
  obtain ⟨h1, ci, fs, h2, h3, h4⟩ := h i y e
  exact ⟨h1, ci, fs, h2, h3, h4.kept (hq y h4.lt h1)⟩
section LWR
variable {p : Program} {l : Launch} {e : Env} {R : Room} {s : State} {m : MethodId} {args : Array Value} {below : List Frame} {meth : Method} {c : Code} {H : Heap} {locs : List Loc} {cells slots : Nat} {Q : State → Prop}
variable {cc : ByteArray} {pc : Nat} {ls : Array Slot} {G : GP} {A : Nat → Prop} {rest : List Value} {a : Nat} {x0 x1 x2 : Value}
theorem hm_size {g : JFrame} (kk : H.size ≤ s.heap.size + cells → W p l e R s m args below meth c H locs cells slots Q g) : W p l e R s m args below meth c H locs cells slots Q g := fun T hT X => kk (by rw [← hT]; exact X.same.2.2.1) T hT X
theorem l_gmc (hx : p.tables.exec = Jvm.exec) (hb : c.code = cc) (hts : ∀ w ∈ gw, w.before args s = true) (hown : s.vm.findClass RJx4a65c = some m.cls) (hG : GS G s) (hat : va_at (gD G) kcl (a, .inr (0, [x0, x1, x2])) H) (hd : decode cc pc = .ok (.getfield 63, 3)) (kk : W p l e R s m args below meth c H locs cells slots Q (F0 m (pc + 3) ls (x0 :: rest))) : W p l e R s m args below meth c H locs cells slots Q (F0 m pc ls (.ref a :: rest)) :=
  va_get hx hb hts (u_in (c := 0) (by decide)) hown hG.1 (at_one hat) 0 rfl (kcl_at (by decide)) 0 (by decide) (hts _ jw_70) (fun x h => u_same (hts _ jw_71) x h) rfl hd kk
theorem l_ged (hx : p.tables.exec = Jvm.exec) (hb : c.code = cc) (hts : ∀ w ∈ gw, w.before args s = true) (hown : s.vm.findClass RJx4a65c = some m.cls) (hG : GS G s) (hat : va_at (gD G) kcl (a, .inr (0, [x0, x1, x2])) H) (hd : decode cc pc = .ok (.getfield 9, 3)) (kk : W p l e R s m args below meth c H locs cells slots Q (F0 m (pc + 3) ls (x1 :: rest))) : W p l e R s m args below meth c H locs cells slots Q (F0 m pc ls (.ref a :: rest)) :=
  va_get hx hb hts (u_in (c := 0) (by decide)) hown hG.1 (at_one hat) 0 rfl (kcl_at (by decide)) 1 (by decide) (hts _ jw_67) (fun x h => h) rfl hd kk
theorem l_gsz (hx : p.tables.exec = Jvm.exec) (hb : c.code = cc) (hts : ∀ w ∈ gw, w.before args s = true) (hown : s.vm.findClass RJx4a65c = some m.cls) (hG : GS G s) (hat : va_at (gD G) kcl (a, .inr (0, [x0, x1, x2])) H) (hd : decode cc pc = .ok (.getfield 48, 3)) (kk : W p l e R s m args below meth c H locs cells slots Q (F0 m (pc + 3) ls (x2 :: rest))) : W p l e R s m args below meth c H locs cells slots Q (F0 m pc ls (.ref a :: rest)) :=
  va_get hx hb hts (u_in (c := 0) (by decide)) hown hG.1 (at_one hat) 0 rfl (kcl_at (by decide)) 2 (by decide) (hts _ jw_68) (fun x h => h) rfl hd kk
theorem l_pmc {ws : va_W} {v : Int32} (hx : p.tables.exec = Jvm.exec) (hb : c.code = cc) (hts : ∀ w ∈ gw, w.before args s = true) (hown : s.vm.findClass RJx4a65c = some m.cls) (hG : GS G s) (hP : va_P (gD G) kcl ((a, .inr (0, [x0, x1, x2])) :: ws) H) (hD : va_D A ((a, .inr (0, [x0, x1, x2])) :: ws)) (hS : va_S A s.heap H locs) (hd : decode cc pc = .ok (.putfield 63, 3))
    (kk : ∀ (H1 : Heap) (locs1 : List Loc), va_P (gD G) kcl ((a, .inr (0, [.int v, x1, x2])) :: ws) H1 → va_D A ((a, .inr (0, [.int v, x1, x2])) :: ws) → va_S A s.heap H1 locs1 → W p l e R s m args below meth c H1 locs1 cells slots Q (F0 m (pc + 3) ls rest)) : W p l e R s m args below meth c H locs cells slots Q (F0 m pc ls (.int v :: .ref a :: rest)) :=
  va_put hx hb hts (u_in (c := 0) (by decide)) (tyN 0) (ty_ok (by decide)) (nm_ok (by decide)) hown hG.1 hP hD hS 0 rfl (kcl_at (by decide)) 0 (by decide) (hts _ jw_70) (fun x h => u_same (hts _ jw_71) x h) rfl (ty_ok (c := 0) (by decide) 0 (by decide)) rfl rfl (by show 0 < 3; decide) hd kk
theorem l_ped {ws : va_W} {v : Nat} (hx : p.tables.exec = Jvm.exec) (hb : c.code = cc) (hts : ∀ w ∈ gw, w.before args s = true) (hown : s.vm.findClass RJx4a65c = some m.cls) (hG : GS G s) (hP : va_P (gD G) kcl ((a, .inr (0, [x0, x1, x2])) :: ws) H) (hD : va_D A ((a, .inr (0, [x0, x1, x2])) :: ws)) (hS : va_S A s.heap H locs) (hd : decode cc pc = .ok (.putfield 9, 3))
    (kk : ∀ (H1 : Heap) (locs1 : List Loc), va_P (gD G) kcl ((a, .inr (0, [x0, .ref v, x2])) :: ws) H1 → va_D A ((a, .inr (0, [x0, .ref v, x2])) :: ws) → va_S A s.heap H1 locs1 → W p l e R s m args below meth c H1 locs1 cells slots Q (F0 m (pc + 3) ls rest)) : W p l e R s m args below meth c H locs cells slots Q (F0 m pc ls (.ref v :: .ref a :: rest)) :=
  va_put hx hb hts (u_in (c := 0) (by decide)) (tyN 0) (ty_ok (by decide)) (nm_ok (by decide)) hown hG.1 hP hD hS 0 rfl (kcl_at (by decide)) 1 (by decide) (hts _ jw_67) (fun x h => h) rfl (ty_ok (c := 0) (by decide) 1 (by decide)) rfl rfl (by show 1 < 3; decide) hd kk
theorem l_psz {ws : va_W} {v : Int32} (hx : p.tables.exec = Jvm.exec) (hb : c.code = cc) (hts : ∀ w ∈ gw, w.before args s = true) (hown : s.vm.findClass RJx4a65c = some m.cls) (hG : GS G s) (hP : va_P (gD G) kcl ((a, .inr (0, [x0, x1, x2])) :: ws) H) (hD : va_D A ((a, .inr (0, [x0, x1, x2])) :: ws)) (hS : va_S A s.heap H locs) (hd : decode cc pc = .ok (.putfield 48, 3))
    (kk : ∀ (H1 : Heap) (locs1 : List Loc), va_P (gD G) kcl ((a, .inr (0, [x0, x1, .int v])) :: ws) H1 → va_D A ((a, .inr (0, [x0, x1, .int v])) :: ws) → va_S A s.heap H1 locs1 → W p l e R s m args below meth c H1 locs1 cells slots Q (F0 m (pc + 3) ls rest)) : W p l e R s m args below meth c H locs cells slots Q (F0 m pc ls (.int v :: .ref a :: rest)) :=
  va_put hx hb hts (u_in (c := 0) (by decide)) (tyN 0) (ty_ok (by decide)) (nm_ok (by decide)) hown hG.1 hP hD hS 0 rfl (kcl_at (by decide)) 2 (by decide) (hts _ jw_68) (fun x h => h) rfl (ty_ok (c := 0) (by decide) 2 (by decide)) rfl rfl (by show 2 < 3; decide) hd kk
end LWR
section LWA
variable {l : Launch} {G : GP} {A : Nat → Prop}
theorem jAC {a : Nat} {J : Heap → Prop} : HM l 1 yJxa1e45_init_da8c8 cJxa1e45_init_da8c8 1 none G [.ref a] J (fun v H => v = none ∧ J H) A 0 0 := by
  refine hm_intro (by decide +kernel) (Nat.le_of_ble_eq_true rfl) ?_
  intro p e R s m below meth c ls r1 r2 r3 r4 hx hb hml hr hlocks hown hname hts hG hJ hl
  refine lv_aload_n hx hb dJxa1e45_init_da8c8_0 rfl (lv_at hl 0 rfl) ?_
  refine W.objInit hx hb hown (hts _ jw_64) (hts _ (gw_of pObjI_ok rfl)) (hts _ (gw_of pObjC_ok rfl)) rfl (by rw [hml]; exact hl.1) rfl dJxa1e45_init_da8c8_1 (by omega) (by rw [r2]; exact Nat.le_of_ble_eq_true rfl) ?_
  exact hm_ret hx hb hr hlocks rfl dJxa1e45_init_da8c8_4 ⟨rfl, hJ⟩ va_S.rf (Nat.le_refl _) (Nat.le_refl _)
theorem jAL {a n : Nat} {x0 x1 x2 : Value} (hA : A a) : HM l 2 yJxc12de_init_da8c8 cJxc12de_init_da8c8 1 none G [.ref a] (fun H => H.size = n ∧ va_at (gD G) kcl (a, .inr (0, [x0, x1, x2])) H) (fun v H => v = none ∧ H.size = n ∧ va_at (gD G) kcl (a, .inr (0, [.int 0, x1, x2])) H) A 0 0 := by
  refine hm_intro (by decide +kernel) (Nat.le_of_ble_eq_true rfl) ?_
  intro p e R s m below meth c ls r1 r2 r3 r4 hx hb hml hr hlocks hown hname hts hG hJ hl
  refine lv_aload_n hx hb dJxc12de_init_da8c8_0 rfl (lv_at hl 0 rfl) ?_
  refine hm_I (n := 0) (b := a) (As := []) (rest := []) (jAC (A := A) (J := fun H => H.size = n ∧ va_at (gD G) kcl (a, .inr (0, [x0, x1, x2])) H)) hx hb (by rw [hml]; exact hl.1.symm) hown hts hG va_S.rf (fun q h => h) hJ jw_61 jw_62 rfl jw_3 jw_63 ⟨by decide +kernel, by decide +kernel⟩ rfl (Nat.zero_le _) (by omega) (by omega) (by omega) (by omega) rfl dJxc12de_init_da8c8_1 ?_
  rintro v H1 locs1 ⟨rfl, hn1, hat1⟩ - - hS1
  refine lv_aload_n hx hb dJxc12de_init_da8c8_4 rfl (lv_at hl 0 rfl) ?_
  refine lv_iconst hx hb dJxc12de_init_da8c8_5 rfl ?_
  refine m_put (C := RN 0) (T := TN 0) (N := NN 0) hx hb hts (u_in (c := 0) (by decide)) (tyN 0) (ty_ok (by decide)) (nm_ok (by decide)) hown hG.1 hS1 hA hat1 (kcl_at (by decide)) 0 (by decide) (hts _ jw_69) (fun x h => h) (Or.inl rfl) (ty_ok (c := 0) (by decide) 0 (by decide)) rfl rfl (by show 0 < 3; decide) dJxc12de_init_da8c8_6 (fun H2 locs2 z oq hat2 hS2 => ?_)
  exact hm_ret hx hb hr hlocks rfl dJxc12de_init_da8c8_9 ⟨rfl, z.trans hn1, hat2⟩ hS2 (Nat.le_refl _) (Nat.le_refl _)
theorem jPC {i n : Int32} {J : Heap → Prop} (h0 : ¬ i < 0) (h1 : i < n) : HM l 1 yJ3_checkIndex_8e157 cJ3_checkIndex_8e157 3 (some .int) G [.int i, .int n, .null] J (fun v H => v = some (.int i) ∧ J H) A 0 0 := by
  refine hm_intro (by decide +kernel) (Nat.le_of_ble_eq_true rfl) ?_
  intro p e R s m below meth c ls r1 r2 r3 r4 hx hb hml hr hlocks hown hname hts hG hJ hl
  refine lv_iload_n hx hb dJ3_checkIndex_8e157_0 rfl (lv_at hl 0 rfl) ?_
  refine lv_if_lt hx hb dJ3_checkIndex_8e157_1 (tgt := 9) rfl (fun q => absurd q h0) (fun _ => ?_)
  refine lv_iload_n hx hb dJ3_checkIndex_8e157_4 rfl (lv_at hl 0 rfl) ?_
  refine lv_iload_n hx hb dJ3_checkIndex_8e157_5 rfl (lv_at hl 1 rfl) ?_
  refine lv_icmp_lt hx hb dJ3_checkIndex_8e157_6 (tgt := 16) rfl (fun _ => ?_) (fun q => absurd h1 q)
  refine lv_iload_n hx hb dJ3_checkIndex_8e157_16 rfl (lv_at hl 0 rfl) ?_
  exact hm_ret hx hb hr hlocks rfl dJ3_checkIndex_8e157_17 ⟨rfl, hJ⟩ va_S.rf (Nat.le_refl _) (Nat.le_refl _)
theorem jOC {i n : Int32} {J : Heap → Prop} (h0 : ¬ i < 0) (h1 : i < n) : HM l 2 yJ15_checkIndex_7cf53 cJ15_checkIndex_7cf53 2 (some .int) G [.int i, .int n] J (fun v H => v = some (.int i) ∧ J H) A 0 0 := by
  refine hm_intro (by decide +kernel) (Nat.le_of_ble_eq_true rfl) ?_
  intro p e R s m below meth c ls r1 r2 r3 r4 hx hb hml hr hlocks hown hname hts hG hJ hl
  refine lv_iload_n hx hb dJ15_checkIndex_7cf53_0 rfl (lv_at hl 0 rfl) ?_
  refine lv_iload_n hx hb dJ15_checkIndex_7cf53_1 rfl (lv_at hl 1 rfl) ?_
  refine lv_null hx hb dJ15_checkIndex_7cf53_2 ?_
  refine hm_S (n := 3) (As := [.int i, .int n, .null]) (rest := []) (jPC (A := A) (J := J) h0 h1) hx hb (by rw [hml]; exact hl.1.symm) hown hts hG va_S.rf (fun q h => h) hJ jw_272 jw_273 jw_19 jw_274 ⟨by decide +kernel, by decide +kernel⟩ rfl (Nat.zero_le _) (by omega) (by omega) (by omega) (by omega) rfl dJ15_checkIndex_7cf53_3 ?_
  rintro v H1 locs1 ⟨rfl, hJ1⟩ - - hS1
  exact hm_ret hx hb hr hlocks rfl dJ15_checkIndex_7cf53_6 ⟨rfl, hJ1⟩ hS1 (Nat.le_refl _) (Nat.le_refl _)
end LWA
