/-! the machine's steps on the heap -/
/-- words of the tables that no call carries by itself -/
def NWl : List Jvm.Cond := [.methodLinkNest "DedupVault$Row" 29 ⟨"DedupVault", "noSpan", "(III)Z"⟩ "DedupVault", .methodLinkNest "DedupVault$Version" 47 ⟨"DedupVault", "noPlace", "(II)Z"⟩ "DedupVault", .methodLinkNest "DedupVault$Shelf" 51 ⟨"DedupVault", "noPlace", "(II)Z"⟩ "DedupVault",
  .castable "java/lang/IllegalArgumentException" "java/lang/IllegalArgumentException", .castable "java/lang/IllegalStateException" "java/lang/IllegalStateException", .castable "java/lang/IndexOutOfBoundsException" "java/lang/IndexOutOfBoundsException",
  .castable "DedupVault" "java/lang/Object", .castable "DedupVault$Row" "java/lang/Object", .castable "DedupVault$Shelf" "java/lang/Object", .castable "DedupVault$Container" "java/lang/Object", .castable "DedupVault$Version" "java/lang/Object", .castable "DedupVault$Piece" "java/lang/Object", .castable "DedupVault$Chunk" "java/lang/Object",
  .declares ⟨"java/lang/RuntimeException", "<init>", "()V"⟩, .declares ⟨"java/lang/RuntimeException", "<init>", "(Ljava/lang/String;)V"⟩, .declares ⟨"java/lang/Exception", "<init>", "()V"⟩, .declares ⟨"java/lang/Exception", "<init>", "(Ljava/lang/String;)V"⟩, .declares ⟨"java/lang/Throwable", "<init>", "()V"⟩, .declares ⟨"java/lang/Throwable", "<init>", "(Ljava/lang/String;)V"⟩, .declares ⟨"java/lang/Object", "getClass", "()Ljava/lang/Class;"⟩]
/-- what stands of a state whatever the store: tables, and what lay there before the law -/
def GS (G : GP) (s : State) : Prop := va_K (gD G) kcl (gtys G) s ∧ (∀ w ∈ NWl, va_Nw w s) ∧ vx_Zq Bundle.tN "UNASSIGNED_STACK" Bundle.steD (own G) s (gH G) ∧ vx_Zq Bundle.tN "SUPPRESSED_SENTINEL" Bundle.listD (own G) s (gH G) ∧ va_X (gB G) (gS G) (gX G) s (gH G) ∧ gB G < (gH G).size ∧ va_Z "java/util/ArrayList" "DEFAULTCAPACITY_EMPTY_ELEMENTDATA" "[Ljava/lang/Object;" (.ref (gE G)) (own G) s (gH G) ∧ (∃ f, va_T (.object "java/lang/Object") (gE G) 0 f (own G) s (gH G)) ∧ va_AO "java/lang/Object" s ∧ ∃ mi, va_Mi "[Ljava/lang/Object;" mi s
theorem map_set {f f' : Nat → Value} {n k : Nat} {v : Value} (hk : k < n) (h1 : f' k = v) (h2 : ∀ j, j ≠ k → f' j = f j) : (List.range n).map f' = ((List.range n).map f).set k v := by
  apply List.ext_getElem?
  intro j
  by_cases hj : j = k
  · subst hj
    rw [List.getElem?_set_self (by simpa using hk), List.getElem?_map, List.getElem?_range hk, ← h1]
    rfl
  · rw [List.getElem?_set_ne (Ne.symm hj), List.getElem?_map, List.getElem?_map]
    by_cases hn : j < n
    · rw [List.getElem?_range hn]
      show some (f' j) = some (f j)
      rw [h2 j hj]
    · rw [List.getElem?_eq_none (by simpa using hn)]
      rfl
theorem up2_ne {α : Type} (g : Nat → Nat → α) (f a : Nat) (v : α) {h b : Nat} (hb : b ≠ a) : up2 g f a v h b = g h b := by
  unfold up2; rw [if_neg (fun z => hb z.2)]
theorem up2_nf {α : Type} (g : Nat → Nat → α) (f a : Nat) (v : α) {h b : Nat} (hb : h ≠ f) : up2 g f a v h b = g h b := by
  unfold up2; rw [if_neg (fun z => hb z.1)]
theorem up2_at {α : Type} (g : Nat → Nat → α) (f a : Nat) (v : α) : up2 g f a v f a = v := by
  unfold up2; rw [if_pos ⟨rfl, rfl⟩]
theorem up1_ne {α : Type} (g : Nat → α) (a : Nat) (v : α) {b : Nat} (hb : b ≠ a) : up1 g a v b = g b := by
  unfold up1; rw [if_neg hb]
theorem up1_at {α : Type} (g : Nat → α) (a : Nat) (v : α) : up1 g a v a = v := by
  unfold up1; rw [if_pos rfl]
/-- cells are told alike by stores that say alike of an address -/
theorem cel_congr {G : GP} {g : GG} {T T' : TS} {b : Nat} (hK : tK T' b = tK T b) (hI : ∀ f, tI T' f b = tI T f b) (hR : ∀ f, tR T' f b = tR T f b) (hA : tA T' b = tA T b) (hl : tl T' b = tl T b) (hJ : tJ T' b = tJ T b) (hL : tL T' = tL T) (hc : tc T' = tc T) : cel G g T' b = cel G g T b := by
  have hf : ∀ c, flds T' c b = flds T c b := fun c => by
    unfold flds
    apply List.map_congr_left
    intro k _
    unfold fvl
    rw [hI, hR]
  unfold cel
  rw [hK, hA, hl, hJ, hL, hc, hf]
theorem flds_sI {T : TS} {c a k : Nat} {v : Int32} (hk : k < NN c) (hi : fI c k = true) : flds (sI (32 * c + k) a v T) c a = (flds T c a).set k (.int v) := by
  refine map_set hk ?_ (fun j hj => ?_)
  · unfold fvl
    rw [if_pos hi]
    show Value.int (up2 (tI T) (32 * c + k) a v (32 * c + k) a) = _
    rw [up2_at]
  · unfold fvl
    show (if fI c j = true then Value.int (up2 (tI T) (32 * c + k) a v (32 * c + j) a) else va_rf (tR T (32 * c + j) a)) = _
    rw [up2_nf _ _ _ _ (by omega)]
theorem flds_sR {T : TS} {c a k : Nat} {v : Option Nat} (hk : k < NN c) (hi : fI c k = false) : flds (sR (32 * c + k) a v T) c a = (flds T c a).set k (va_rf v) := by
  refine map_set hk ?_ (fun j hj => ?_)
  · unfold fvl
    rw [if_neg (by rw [hi]; decide)]
    show va_rf (up2 (tR T) (32 * c + k) a v (32 * c + k) a) = _
    rw [up2_at]
  · unfold fvl
    show (if fI c j = true then Value.int (tI T (32 * c + j) a) else va_rf (up2 (tR T) (32 * c + k) a v (32 * c + j) a)) = _
    rw [up2_nf _ _ _ _ (by omega)]
theorem fld_ok {o idx ci k : Nat} (h : fldOf o idx = some (ci, k)) : .fieldLink (RN o) idx (RN ci) (TN ci k).2.1 (TN ci k).2.2.1 ∈ gw ∧ k < NN ci ∧ ci < 9 ∧ 1 ≤ ci := by
  unfold fldOf at h
  cases hz : fldT.lookup (o, idx) with
  | none => rw [hz] at h; cases h
  | some e =>
    rw [hz] at h
    simp at h
    obtain ⟨rfl, rfl⟩ := h
    obtain ⟨h1, h2, h3, h4, h5⟩ := fld_all _ (lookup_mem hz)
    exact ⟨gw_of h1 h2, h3, h4, h5⟩
theorem cl_ok {o idx ci : Nat} (h : clOf o idx = some ci) : .classLink (RN o) idx (cN ci) ∈ gw := by
  unfold clOf at h
  cases hz : clT.lookup (o, idx) with
  | none => rw [hz] at h; cases h
  | some e =>
    rw [hz] at h
    simp at h
    subst h
    obtain ⟨h1, h2⟩ := cl_all _ (lookup_mem hz)
    exact gw_of h1 h2
theorem up2_ne' {α : Type} {g : Nat → Nat → α} {f a : Nat} {v : α} {h b : Nat} (hb : h ≠ f) : up2 g f a v h b = g h b := up2_nf _ _ _ _ hb
theorem up2_row {g : Nat → Nat → Int32} {a i : Nat} {v : Int32} {j : Nat} : up2 g a i v a j = upd (g a) i v j := by
  unfold up2 upd
  by_cases h : j = i
  · rw [if_pos ⟨rfl, h⟩]; simp [h]
  · rw [if_neg (fun z => h z.2)]; simp [h]
theorem up2_rowL {g : Nat → Nat → Int64} {a i : Nat} {v : Int64} {j : Nat} : up2 g a i v a j = vp_updL (g a) i v j := by
  unfold up2 vp_updL
  by_cases h : j = i
  · rw [if_pos ⟨rfl, h⟩]; simp [h]
  · rw [if_neg (fun z => h z.2)]; simp [h]
theorem cel_int {G : GP} {g : GG} {T : TS} {a : Nat} (h : tK T a = 20) : cel G g T a = some (.inl (gA G 0, tl T a, .inl (tA T a))) := by unfold cel; rw [h]; rfl
theorem cel_byte {G : GP} {g : GG} {T : TS} {a : Nat} (h : tK T a = 21) : cel G g T a = some (.inl (gA G 1, tl T a, .inl (tA T a))) := by unfold cel; rw [h]; rfl
theorem cel_long {G : GP} {g : GG} {T : TS} {a : Nat} (h : tK T a = 22) : cel G g T a = some (.inl (gA G 2, tl T a, .inr (.inl (tJ T a)))) := by unfold cel; rw [h]; rfl
section HPS
variable {p : Program} {l : Launch} {e : Env} {R : Room} {s : State} {m : MethodId} {args : Array Value} {below : List Frame} {meth : Method} {c : Code} {H : Heap} {locs : List Loc} {cells slots : Nat} {Q : State → Prop}
variable {cc : ByteArray} {pc : Nat} {ls : Array Slot} {G : GP} {T T' : TS}
/-- what is kept of a store when a step has changed it -/
def Go (G : GP) (T T' : TS) (R : Room) (cells slots : Nat) (s : State) (k : Heap → List Loc → Prop) : Prop :=
  ∀ H' locs', Rel G T' H' → va_S (own G) s.heap H' locs' → k H' locs'
theorem getf_sound {o idx ci k : Nat} {a : Nat} {st : List Value} (hx : p.tables.exec = Jvm.exec) (hb : c.code = cc) (hown : s.vm.findClass (RN o) = some m.cls) (hts : ∀ w ∈ gw, w.before args s = true) (hG : GS G s) (hR : Rel G T H) (hf : fldOf o idx = some (ci, k)) (hK : tK T a = ci + 1) (hd : decode cc pc = .ok (.getfield idx, 3)) (kk : W p l e R s m args below meth c H locs cells slots Q (F0 m (pc + 3) ls (fvl T ci a k :: st))) : W p l e R s m args below meth c H locs cells slots Q (F0 m pc ls (.ref a :: st)) := by
  obtain ⟨-, -, -, hk, g, hl, hbk, hP⟩ := hR
  obtain ⟨f1, f2, f3, f4⟩ := fld_ok hf
  have hat := hP a _ (cel_obj hK f3)
  exact va_get hx hb hts (u_in f3) hown hG.1 (at_one hat) 0 rfl (kcl_at f3) k f2 (hts _ f1) (fun x h => by rw [(fld_facts ci f3 k f2).2.2.1 f4] at h; exact h) (flds_get f2) hd kk
theorem put_sound {o idx ci k : Nat} {a : Nat} {ini : Bool} {st : List Value} {v : Value} (hx : p.tables.exec = Jvm.exec) (hb : c.code = cc) (hown : s.vm.findClass (RN o) = some m.cls) (hts : ∀ w ∈ gw, w.before args s = true) (hini : ini = true → meth.name = "<init>") (hG : GS G s) (hR : Rel G T H) (hS : va_S (own G) s.heap H locs) (hf : fldOf o idx = some (ci, k)) (hK : tK T a = ci + 1) (hfin : fF ci k = false ∨ (ini = true ∧ ci = o)) (hv : narrow (tyN ci k) v = v ∧ fits (tyN ci k) v = true) (hKT : tK T' = tK T) (hnT : tn T' = tn T) (hAT : tA T' = tA T) (hlT : tl T' = tl T) (hJT : tJ T' = tJ T) (hLT : tL T' = tL T) (hcT : tc T' = tc T) (hI : ∀ f b, b ≠ a → tI T' f b = tI T f b) (hRf : ∀ f b, b ≠ a → tR T' f b = tR T f b) (hfl : flds T' ci a = (flds T ci a).set k v) (hd : decode cc pc = .ok (.putfield idx, 3))
    (kk : ∀ H' locs', Rel G T' H' → va_S (own G) s.heap H' locs' → W p l e R s m args below meth c H' locs' cells slots Q (F0 m (pc + 3) ls st)) : W p l e R s m args below meth c H locs cells slots Q (F0 m pc ls (v :: .ref a :: st)) := by
  obtain ⟨z1, z2, z3, hk, g, hl, hbk, hP⟩ := hR
  obtain ⟨f1, f2, f3, f4⟩ := fld_ok hf
  have hc0 := cel_obj (G := G) (g := g) hK f3
  have hat := hP a _ hc0
  have hlt := cel_lt hk hbk hc0
  obtain ⟨g1, -, g3, -⟩ := fld_facts ci f3 k f2
  refine m_put hx hb hts (u_in f3) (tyN ci) (ty_ok f3) (nm_ok f3) hown hG.1 hS (show own G a from hlt.1) hat (kcl_at f3) k f2 (hts _ f1) (fun x h => by rw [g3 f4] at h; exact h) ?_ (ty_ok f3 k f2) hv.1 hv.2 (by rw [flds_len]; exact f2) hd (fun H1 locs1 e1 e2 e3 e4 => ?_)
  · cases hq : (TN ci k).2.2.2 with
    | false => exact Or.inl rfl
    | true =>
      rw [hq] at g1
      rcases hfin with h | ⟨h, rfl⟩
      · rw [g1] at h; cases h
      · exact Or.inr ⟨rfl, hini h, g3 f4⟩
  · refine kk H1 locs1 (Rel.put (g' := g) ⟨z1, z2, z3⟩ hP hnT ?_ ?_ ?_ hlt.1 e1 e2 e3 ?_ (fun b hb => ?_)) e4
    · intro b hb
      rw [hKT] at hb ⊢
      rw [hnT, hlT, hAT]
      exact hk b hb
    · intro b hb
      rw [hKT] at hb ⊢
      rw [hLT, hcT]
      exact hl b hb
    · intro b o9 hb
      rw [hKT, hnT, hcT]
      exact hbk b o9 hb
    · rw [cel_obj (by rw [hKT]; exact hK) f3, hfl]
    · exact cel_congr (by rw [hKT]) (fun f => hI f b hb) (fun f => hRf f b hb) (by rw [hAT]) (by rw [hlT]) (by rw [hJT]) hLT hcT
/-- a row's place changed -/
theorem sA_rel {a i : Nat} {v : Int32} {e : va_E} {H1 : Heap} {g : GG} (hR : H.size = tn T ∧ (gH G).size ≤ tn T ∧ (∀ q, q < (gH G).size → H[q]? = (gH G)[q]?)) (hk : kOk G T) (hl : lsOk G g T) (hbk : bkOk G g T) (hP : ∀ b x, cel G g T b = some x → va_at (gD G) kcl (b, x) H) (hge : (gH G).size ≤ a) (hz : H1.size = H.size) (ho : ∀ q, q ≠ a → H1[q]? = H[q]?) (ha : va_at (gD G) kcl (a, e) H1) (hc : cel G g (sA a i v T) a = some e) : Rel G (sA a i v T) H1 := by
  refine Rel.put (g' := g) hR hP rfl (fun b hb => ?_) hl hbk hge hz ho ha hc (fun b hb => ?_)
  · rcases hk b hb with h | ⟨h1, h2, h3, h4, h5⟩
    · exact Or.inl h
    · refine Or.inr ⟨h1, h2, h3, ?_, h5⟩
      rw [← h4]
      funext j
      exact up2_ne' (by omega)
  · exact cel_congr rfl (fun f => rfl) (fun f => rfl) (funext fun j => up2_ne' hb) rfl rfl rfl rfl
theorem sJ_rel {a i : Nat} {v : Int64} {e : va_E} {H1 : Heap} {g : GG} (hR : H.size = tn T ∧ (gH G).size ≤ tn T ∧ (∀ q, q < (gH G).size → H[q]? = (gH G)[q]?)) (hk : kOk G T) (hl : lsOk G g T) (hbk : bkOk G g T) (hP : ∀ b x, cel G g T b = some x → va_at (gD G) kcl (b, x) H) (hge : (gH G).size ≤ a) (hz : H1.size = H.size) (ho : ∀ q, q ≠ a → H1[q]? = H[q]?) (ha : va_at (gD G) kcl (a, e) H1) (hc : cel G g (sJ a i v T) a = some e) : Rel G (sJ a i v T) H1 := by
  refine Rel.put (g' := g) hR hP rfl hk hl hbk hge hz ho ha hc (fun b hb => ?_)
  exact cel_congr rfl (fun f => rfl) (fun f => rfl) rfl rfl (funext fun j => up2_ne' hb) rfl rfl
theorem new_rel {k : Nat} {e : va_E} {H1 : Heap} {g : GG} (hk23 : k ≠ 23) (hk0 : k ≠ 0) (hkle : k ≤ 23) (hR : H.size = tn T ∧ (gH G).size ≤ tn T ∧ (∀ q, q < (gH G).size → H[q]? = (gH G)[q]?)) (hk : kOk G T) (hl : lsOk G g T) (hbk : bkOk G g T) (hP : ∀ b x, cel G g T b = some x → va_at (gD G) kcl (b, x) H) (hn : tn T' = tn T + 1) (hKT : tK T' = up1 (tK T) (tn T) k) (hAT : ∀ b, b ≠ tn T → tA T' b = tA T b) (hlT : ∀ b, b ≠ tn T → tl T' b = tl T b) (hJT : ∀ b, b ≠ tn T → tJ T' b = tJ T b) (hLT : tL T' = tL T) (hcT : tc T' = tc T) (hI : ∀ f b, b ≠ tn T → tI T' f b = tI T f b) (hRf : ∀ f b, b ≠ tn T → tR T' f b = tR T f b) (hz : H1.size = H.size + 1) (ho : ∀ q, q < H.size → H1[q]? = H[q]?) (ha : va_at (gD G) kcl (tn T, e) H1) (hc : cel G g T' (tn T) = some e) : Rel G T' H1 := by
  have hne : ∀ b, tK T b ≠ 0 → b ≠ tn T := by
    intro b hb
    rcases hk b hb with h | ⟨h1, h2, h3, h4, h5⟩
    · omega
    · omega
  have hKn : ∀ b, b ≠ tn T → tK T' b = tK T b := fun b hb => by rw [hKT, up1_ne _ _ _ hb]
  have hKa : tK T' (tn T) = k := by rw [hKT, up1_at]
  refine Rel.new (g' := g) hR hP (fun b x h => (cel_lt hk hbk h).2) hn (fun b hb => ?_) (fun b hb => ?_) (fun b o hb => ?_) hz ho ha hc (fun b x hb hx => ?_)
  · by_cases hbn : b = tn T
    · subst hbn
      refine Or.inl ⟨hR.2.1, by omega, by rw [hKa]; exact hkle⟩
    · rw [hKn b hbn] at hb
      rcases hk b hb with h | ⟨h1, h2, h3, h4, h5⟩
      · refine Or.inl ⟨h.1, by omega, by rw [hKn b hbn]; exact h.2.2⟩
      · exact Or.inr ⟨by rw [hKn b hbn]; exact h1, h2, by rw [hlT b hbn]; exact h3, by rw [hAT b hbn]; exact h4, h5⟩
  · have hbn : b ≠ tn T := by
      intro z
      subst z
      rw [hKa] at hb
      exact hk23 hb
    rw [hKn b hbn] at hb
    obtain ⟨q1, q2, q3⟩ := hl b hb
    rw [hLT, hcT]
    refine ⟨q1, fun y hy => ?_, q3⟩
    rw [hKn y (hne y (by have := (q2 y hy).1; omega))]
    exact q2 y hy
  · obtain ⟨q1, q2, q3, q4, q5, q6⟩ := hbk b o hb
    rw [hKn b (by omega), hKn o (hne o (by omega)), hcT, hn]
    exact ⟨q1, by omega, q3, q4, q5, q6⟩
  · rw [← hx]
    exact (cel_congr (hKn b hb) (fun f => hI f b hb) (fun f => hRf f b hb) (hAT b hb) (hlT b hb) (hJT b hb) hLT hcT).symm
theorem aw {w : Jvm.Cond} (hts : ∀ w ∈ gw, w.before args s = true) (h : w ∈ lw_tbl) (g : goodWord w = true) : w.before args s = true := hts w (List.mem_filter.mpr ⟨h, g⟩)
theorem hp_sound {o : Nat} {i : Instr} {ini : Bool} {st st' : List Value} (hx : p.tables.exec = Jvm.exec) (hb : c.code = cc) (hown : s.vm.findClass (RN o) = some m.cls) (hts : ∀ w ∈ gw, w.before args s = true) (hini : ini = true → meth.name = "<init>") (hG : GS G s) (hs0 : ∀ q, q < (gH G).size → s.heap[q]? = (gH G)[q]?) (hs1 : (gH G).size ≤ s.heap.size) (hR : Rel G T H) (hS : va_S (own G) s.heap H locs) (h : hpF o ini i st T = some (st', T')) (hd : decode cc pc = .ok (i, ilen i)) (hc1 : cells + (tn T' - tn T) ≤ R.cells) (hc2 : slots + (tu T' - tu T) ≤ R.slots)
    (kk : ∀ H' locs', Rel G T' H' → va_S (own G) s.heap H' locs' → W p l e R s m args below meth c H' locs' (cells + (tn T' - tn T)) (slots + (tu T' - tu T)) Q (F0 m (pc + ilen i) ls st')) : W p l e R s m args below meth c H locs cells slots Q (F0 m pc ls st) := by
  have e0 : ∀ n x : Nat, n + (x - x) = n := fun n x => by omega
  obtain ⟨z1, z2, z3, hk, g, hl, hbk, hP⟩ := id hR
  have hscr : va_X (gB G) (gS G) (gX G) s s.heap := hG.2.2.2.2.1.kept (hs0 _ hG.2.2.2.2.2.1)
  have hsl : gB G < s.heap.size := Nat.lt_of_lt_of_le hG.2.2.2.2.2.1 hs1
  have hsA : ¬ own G (gB G) := Nat.not_le.mpr hG.2.2.2.2.2.1
  unfold hpF at h
  split at h
  · -- getfield
    split at h
    · rename_i idx st a st0
      cases hf : fldOf o idx with
      | none => rw [hf] at h; cases h
      | some f =>
        obtain ⟨ci, k⟩ := f
        rw [hf] at h
        simp only [Option.bind_some] at h
        split at h
        · rename_i hK
          cases h
          rw [e0, e0] at kk
          exact getf_sound hx hb hown hts hG hR hf hK hd (kk H locs hR hS)
        · cases h
    · cases h
  · -- putfield
    split at h
    · rename_i idx st v a st0
      cases hf : fldOf o idx with
      | none => rw [hf] at h; cases h
      | some f =>
        obtain ⟨ci, k⟩ := f
        rw [hf] at h
        simp only [Option.bind_some] at h
        split at h
        · rename_i hK
          obtain ⟨f1, f2, f3, f4⟩ := fld_ok hf
          cases h
          have hty : tyN ci k = .int := by
            have := (fld_facts ci f3 k f2).2.1
            rw [if_pos hK.2.1] at this
            exact this
          rw [show tn (sI (32 * ci + k) a v T) = tn T from rfl, show tu (sI (32 * ci + k) a v T) = tu T from rfl, e0, e0] at kk
          exact put_sound (T' := sI (32 * ci + k) a v T) hx hb hown hts hini hG hR hS hf hK.1 hK.2.2 (by rw [hty]; exact ⟨rfl, rfl⟩) rfl rfl rfl rfl rfl rfl rfl (fun f b hb => up2_ne _ _ _ _ hb) (fun f b hb => rfl) (flds_sI f2 hK.2.1) hd kk
        · cases h
    · rename_i idx st v a st0
      cases hf : fldOf o idx with
      | none => rw [hf] at h; cases h
      | some f =>
        obtain ⟨ci, k⟩ := f
        rw [hf] at h
        simp only [Option.bind_some] at h
        split at h
        · rename_i hK
          obtain ⟨f1, f2, f3, f4⟩ := fld_ok hf
          cases h
          have hty := (fld_facts ci f3 k f2).2.1
          rw [if_neg (by rw [hK.2.1]; decide)] at hty
          have hr := refty hty (some v)
          rw [show tn (sR (32 * ci + k) a (some v) T) = tn T from rfl, show tu (sR (32 * ci + k) a (some v) T) = tu T from rfl, e0, e0] at kk
          exact put_sound (T' := sR (32 * ci + k) a (some v) T) hx hb hown hts hini hG hR hS hf hK.1 hK.2.2 ⟨hr.1, hr.2.1⟩ rfl rfl rfl rfl rfl rfl rfl (fun f b hb => rfl) (fun f b hb => up2_ne _ _ _ _ hb) (flds_sR f2 hK.2.1) hd kk
        · cases h
    · rename_i idx st a st0
      cases hf : fldOf o idx with
      | none => rw [hf] at h; cases h
      | some f =>
        obtain ⟨ci, k⟩ := f
        rw [hf] at h
        simp only [Option.bind_some] at h
        split at h
        · rename_i hK
          obtain ⟨f1, f2, f3, f4⟩ := fld_ok hf
          cases h
          have hty := (fld_facts ci f3 k f2).2.1
          rw [if_neg (by rw [hK.2.1]; decide)] at hty
          have hr := refty hty none
          rw [show tn (sR (32 * ci + k) a none T) = tn T from rfl, show tu (sR (32 * ci + k) a none T) = tu T from rfl, e0, e0] at kk
          exact put_sound (T' := sR (32 * ci + k) a none T) hx hb hown hts hini hG hR hS hf hK.1 hK.2.2 ⟨hr.1, hr.2.1⟩ rfl rfl rfl rfl rfl rfl rfl (fun f b hb => rfl) (fun f b hb => up2_ne _ _ _ _ hb) (flds_sR f2 hK.2.1) hd kk
        · cases h
    · cases h
  · -- arraylength
    split at h
    · rename_i st a st0
      split at h
      · rename_i hK
        cases h
        rw [e0, e0] at kk
        rcases hK with hK | hK
        · exact va_alen hx hb hG.1 (at_one (hP a _ (cel_int hK))) 0 0 rfl rfl rfl hd (kk H locs hR hS)
        · rcases hk a (by omega) with h3 | ⟨h1, h2, h3, h4, h5⟩
          · omega
          · subst h2
            refine va_slen hx hb hscr hsl hsA hS hd ?_
            have k2 := kk H locs hR hS
            rw [h3] at k2
            exact k2
      · cases h
    · cases h
  · -- iaload
    split at h
    · rename_i st i a st0
      split at h
      · rename_i hK
        cases h
        rw [e0, e0] at kk
        obtain ⟨hK, hin⟩ := hK
        rcases hK with hK | hK
        · exact va_iald hx hb hG.1 (at_one (hP a _ (cel_int hK))) 0 0 rfl rfl hin hd (kk H locs hR hS)
        · rcases hk a (by omega) with h3 | ⟨h1, h2, h3, h4, h5⟩
          · omega
          · subst h2
            rw [h3] at hin
            refine va_sld hx hb hscr hsl hsA hS hin hd ?_
            have k2 := kk H locs hR hS
            rw [h4] at k2
            exact k2
      · cases h
    · cases h
  · -- laload
    split at h
    · rename_i st i a st0
      split at h
      · rename_i hK
        cases h
        rw [e0, e0] at kk
        exact va_lald hx hb hG.1 (at_one (hP a _ (cel_long hK.1))) 0 2 rfl rfl hK.2 hd (kk H locs hR hS)
      · cases h
    · cases h
  · -- iastore
    split at h
    · rename_i st v i a st0
      split at h
      · rename_i hK
        cases h
        rw [show tn (sA a i.toNatClampNeg v T) = tn T from rfl, show tu (sA a i.toNatClampNeg v T) = tu T from rfl, e0, e0] at kk
        have hc0 := cel_int (G := G) (g := g) hK.1
        have hlt := cel_lt hk hbk hc0
        refine m_iast hx hb hG.1 hS (show own G a from hlt.1) 0 (hP a _ hc0) rfl hK.2 hd (fun H1 locs1 q1 q2 q3 q4 => kk H1 locs1 (sA_rel ⟨z1, z2, z3⟩ hk hl hbk hP hlt.1 q1 q2 q3 ?_) q4)
        rw [cel_int (show tK (sA a i.toNatClampNeg v T) a = 20 from hK.1)]
        rw [show tA (sA a i.toNatClampNeg v T) a = upd (tA T a) i.toNatClampNeg v from funext fun j => up2_row]
        rfl
      · cases h
    · cases h
  · -- lastore
    split at h
    · rename_i st v i a st0
      split at h
      · rename_i hK
        cases h
        rw [show tn (sJ a i.toNatClampNeg v T) = tn T from rfl, show tu (sJ a i.toNatClampNeg v T) = tu T from rfl, e0, e0] at kk
        have hc0 := cel_long (G := G) (g := g) hK.1
        have hlt := cel_lt hk hbk hc0
        refine m_last hx hb hG.1 hS (show own G a from hlt.1) 2 (hP a _ hc0) rfl hK.2 hd (fun H1 locs1 q1 q2 q3 q4 => kk H1 locs1 (sJ_rel ⟨z1, z2, z3⟩ hk hl hbk hP hlt.1 q1 q2 q3 ?_) q4)
        rw [cel_long (show tK (sJ a i.toNatClampNeg v T) a = 22 from hK.1)]
        rw [show tJ (sJ a i.toNatClampNeg v T) a = vp_updL (tJ T a) i.toNatClampNeg v from funext fun j => up2_rowL]
        rfl
      · cases h
    · cases h
  · -- newarray
    split at h
    · rename_i t st n st0
      split at h
      · rename_i hK
        obtain ⟨hn, hN, hk0⟩ := hK
        cases h
        have en : tn (nA (kOf t) n.toNatClampNeg T) - tn T = 1 := by show tn T + 1 - tn T = 1; omega
        have eu : tu (nA (kOf t) n.toNatClampNeg T) - tu T = n.toNatClampNeg := by show tu T + _ - tu T = _; omega
        rw [en, eu] at kk
        rw [en] at hc1
        rw [eu] at hc2
        rw [← z1] at kk
        have key : ∀ {ty : FieldType} {cA : ClassId} {a0 : vp_A} (kz : Nat), kOf t = kz → newarray.typeOf t = ty → Jvm.Cond.arrayClass ty ∈ lw_tbl → s.vm.findClass ("[" ++ ty.toString) = some cA → vp_cell cA a0 = arrV cA n.toNatClampNeg (fun _ => defaultValue ty) → componentBytes ty ≤ 8 → cel G g (nA kz n.toNatClampNeg T) (tn T) = some (.inl (cA, a0)) → kz ≠ 23 → kz ≠ 0 → kz ≤ 23 → W p l e R s m args below meth c H locs cells slots Q (F0 m pc ls (.int n :: st0)) := by
          intro ty cA a0 kz ek ety hw hcA ha hby hcel h23 h00 hle
          subst ek
          refine m_newa (D := gD G) (cl := kcl) hx hb (by rw [ety]; exact aw hts hw rfl) ety hS hcA ha hn rfl (Nat.le_trans (Nat.mul_le_mul hN hby) (by decide)) hc1 hc2 hd (fun H1 q1 q2 q3 q4 => ?_)
          refine kk H1 locs (new_rel (T' := nA (kOf t) n.toNatClampNeg T) h23 h00 hle ⟨z1, z2, z3⟩ hk hl hbk hP rfl rfl (fun b hb => up1_ne _ _ _ hb) (fun b hb => up1_ne _ _ _ hb) (fun b hb => up1_ne _ _ _ hb) rfl rfl (fun f b hb => rfl) (fun f b hb => rfl) q1 q2 (by rw [← z1]; exact q3) hcel) q4
        have hat : ∀ kz, up1 (tK T) (tn T) kz (tn T) = kz := fun kz => up1_at _ _ _
        cases t <;> first | exact absurd rfl hk0 | skip
        · refine key 20 rfl rfl (by decide +kernel) (hG.1.2 0 _ rfl).2 (a0 := (n.toNatClampNeg, .inl (fun _ => 0))) (by rw [vp_cell_i]; rfl) (by decide) ?_ (by decide) (by decide) (by decide)
          rw [cel_int (T := nA 20 n.toNatClampNeg T) (hat 20)]
          show (some (.inl (gA G 0, up1 (tl T) (tn T) n.toNatClampNeg (tn T), .inl (up1 (tA T) (tn T) (fun _ => 0) (tn T)))) : Option va_E) = _
          rw [up1_at, up1_at]
        · refine key 22 rfl rfl (by decide +kernel) (hG.1.2 2 _ rfl).2 (a0 := (n.toNatClampNeg, .inr (.inl (fun _ => 0)))) (by rw [vp_cell_l]; rfl) (by decide) ?_ (by decide) (by decide) (by decide)
          rw [cel_long (T := nA 22 n.toNatClampNeg T) (hat 22)]
          show (some (.inl (gA G 2, up1 (tl T) (tn T) n.toNatClampNeg (tn T), .inr (.inl (up1 (tJ T) (tn T) (fun _ => 0) (tn T))))) : Option va_E) = _
          rw [up1_at, up1_at]
      · cases h
    · cases h
  · -- checkcast
    split at h
    · rename_i idx st a st0
      cases hf : clOf o idx with
      | none => rw [hf] at h; cases h
      | some ci =>
        rw [hf] at h
        simp only [Option.bind_some] at h
        split at h
        · rename_i hK
          cases h
          rw [e0, e0] at kk
          obtain ⟨hK, hc1, hc8⟩ := hK
          have hc9 : ci < 9 := by omega
          have hlink := hts _ (cl_ok hf)
          have hcn : cN ci = RN ci := by unfold cN; rw [if_pos (by omega)]
          rw [hcn] at hlink
          have hrec := va_recv hG.1 (at_one (hP a _ (cel_obj hK hc9))) (kcl_at hc9) (q0 := 0) rfl
          obtain ⟨cell, r1, r2, r3⟩ := hrec
          refine va_castY hx hb (C := RN ci) hown hlink ?_ ⟨cell, r1, r2, r3⟩ hd (kk H locs hR hS)
          unfold va_Nw
          simp [Cond.before, Cond.holds, Cond.value, r3, va_asg]
        · cases h
    · cases h
  · -- new
    rename_i idx
    cases hf : clOf o idx with
    | none => rw [hf] at h; cases h
    | some ci =>
      rw [hf] at h
      simp only [Option.bind_some] at h
      split at h
      · rename_i hc8
        cases h
        have hc9 : ci < 9 := by omega
        have en : tn (nO ci T) - tn T = 1 := by show tn T + 1 - tn T = 1; omega
        have eu : tu (nO ci T) - tu T = NN ci := by show tu T + _ - tu T = _; omega
        rw [en, eu] at kk
        rw [en] at hc1
        rw [eu] at hc2
        rw [← z1] at kk
        have hlink := hts _ (cl_ok hf)
        have hcn : cN ci = RN ci := by unfold cN; rw [if_pos (by omega)]
        rw [hcn] at hlink
        obtain ⟨i1, i2⟩ := inst_all ci hc9
        refine m_new (cl := kcl) (D := gD G) (fs := flds (nO ci T) ci (tn T)) hx hb hts (u_in hc9) (tyN ci) (ty_ok hc9) hown hlink (aw hts i1 rfl) (aw hts i2 rfl) hG.1 hS (kcl_at hc9) (fun j hj => ?_) hc1 hc2 hd (fun H1 q1 q2 q3 q4 => ?_)
        · unfold vp_V
          rw [List.getD_eq_getElem?_getD, flds_get hj]
          show _ = fvl (nO ci T) ci (tn T) j
          obtain ⟨-, g2, -⟩ := fld_facts ci hc9 j hj
          unfold fvl
          cases hq : fI ci j with
          | true =>
            rw [hq, if_pos rfl] at g2
            rw [if_pos rfl, g2]
            show Value.int 0 = Value.int (if tn T = tn T then 0 else _)
            rw [if_pos rfl]
          | false =>
            rw [hq, if_neg (by decide)] at g2
            rw [if_neg (by decide), (refty g2 none).2.2]
            show Value.null = va_rf (if tn T = tn T then none else _)
            rw [if_pos rfl]
            rfl
        · refine kk H1 locs (new_rel (T' := nO ci T) (k := ci + 1) (by omega) (by omega) (by omega) ⟨z1, z2, z3⟩ hk hl hbk hP rfl rfl (fun b hb => rfl) (fun b hb => rfl) (fun b hb => rfl) rfl rfl (fun f b hb => if_neg hb) (fun f b hb => if_neg hb) q1 q2 (by rw [← z1]; rw [← z1] at q3; exact q3) (cel_obj (up1_at _ _ _) hc9)) q4
      · cases h
  · cases h
end HPS
