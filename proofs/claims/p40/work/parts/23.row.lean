/-! what the store says of one address; frames -/
abbrev Cell : Type := Nat × (Nat → Int32) × (Nat → Option Nat) × (Nat → Int32) × Nat × (Nat → Int64) × List Nat × Nat
def cell (T : TS) (a : Nat) : Cell := (tK T a, fun f => tI T f a, fun f => tR T f a, tA T a, tl T a, tJ T a, tL T a, tc T a)
theorem ce_K {T T' : TS} {a : Nat} (h : cell T' a = cell T a) : tK T' a = tK T a := congrArg (fun c => c.1) h
theorem ce_I {T T' : TS} {a : Nat} (h : cell T' a = cell T a) (f : Nat) : tI T' f a = tI T f a := congrFun (congrArg (fun c => c.2.1) h) f
theorem ce_R {T T' : TS} {a : Nat} (h : cell T' a = cell T a) (f : Nat) : tR T' f a = tR T f a := congrFun (congrArg (fun c => c.2.2.1) h) f
theorem ce_A {T T' : TS} {a : Nat} (h : cell T' a = cell T a) : tA T' a = tA T a := congrArg (fun c => c.2.2.2.1) h
theorem ce_l {T T' : TS} {a : Nat} (h : cell T' a = cell T a) : tl T' a = tl T a := congrArg (fun c => c.2.2.2.2.1) h
theorem ce_J {T T' : TS} {a : Nat} (h : cell T' a = cell T a) : tJ T' a = tJ T a := congrArg (fun c => c.2.2.2.2.2.1) h
theorem ce_L {T T' : TS} {a : Nat} (h : cell T' a = cell T a) : tL T' a = tL T a := congrArg (fun c => c.2.2.2.2.2.2.1) h
theorem ce_c {T T' : TS} {a : Nat} (h : cell T' a = cell T a) : tc T' a = tc T a := congrArg (fun c => c.2.2.2.2.2.2.2) h
/-- a row's places all at once -/
def sAs (c : Nat) (g : Nat → Int32) (T : TS) : TS := (tn T, tu T, tK T, tI T, tR T, up1 (tA T) c g, tl T, tJ T, tL T, tc T)
theorem sAs_id (c : Nat) (T : TS) : sAs c (tA T c) T = T := by
  have : up1 (tA T) c (tA T c) = tA T := by
    funext b
    rw [up1_e]
    split
    · rename_i h; rw [h]
    · rfl
  unfold sAs
  rw [this]
  rfl
theorem sA_sAs (c i : Nat) (v : Int32) (g : Nat → Int32) (T : TS) : sA c i v (sAs c g T) = sAs c (fun j => if j = i then v else g j) T := by
  have : up2 (tA (sAs c g T)) c i v = up1 (tA T) c (fun j => if j = i then v else g j) := by
    funext b j
    show (if b = c ∧ j = i then v else up1 (tA T) c g b j) = _
    rw [up1_e, up1_e]
    by_cases h : b = c
    · rw [if_pos h, if_pos h]
      by_cases h2 : j = i
      · rw [if_pos ⟨h, h2⟩, if_pos h2]
      · rw [if_neg (fun q => h2 q.2), if_neg h2]
    · rw [if_neg h, if_neg h, if_neg (fun q => h q.1)]
  unfold sA
  rw [this]
  rfl
theorem sAs_sAs (c : Nat) (g g' : Nat → Int32) (T : TS) : sAs c g (sAs c g' T) = sAs c g T := by
  have : up1 (up1 (tA T) c g') c g = up1 (tA T) c g := by
    funext b
    rw [up1_e, up1_e, up1_e]
    split <;> rfl
  unfold sAs
  show (_, _, _, _, _, up1 (up1 (tA T) c g') c g, _) = _
  rw [this]
  rfl
theorem sAs_tA (c : Nat) (g : Nat → Int32) (T : TS) : tA (sAs c g T) c = g := by
  show up1 (tA T) c g c = g
  rw [up1_e, if_pos rfl]
theorem sAs_all (c : Nat) (g : Nat → Int32) (T : TS) : tn (sAs c g T) = tn T ∧ tu (sAs c g T) = tu T ∧ tK (sAs c g T) = tK T ∧ tI (sAs c g T) = tI T ∧ tR (sAs c g T) = tR T ∧ tl (sAs c g T) = tl T ∧ tJ (sAs c g T) = tJ T ∧ tL (sAs c g T) = tL T ∧ tc (sAs c g T) = tc T := ⟨rfl, rfl, rfl, rfl, rfl, rfl, rfl, rfl, rfl⟩
theorem tn_sAs (c : Nat) (g : Nat → Int32) (T : TS) : tn (sAs c g T) = tn T := rfl
theorem tu_sAs (c : Nat) (g : Nat → Int32) (T : TS) : tu (sAs c g T) = tu T := rfl
theorem tK_sAs (c : Nat) (g : Nat → Int32) (T : TS) : tK (sAs c g T) = tK T := rfl
theorem tI_sAs (c : Nat) (g : Nat → Int32) (T : TS) : tI (sAs c g T) = tI T := rfl
theorem tR_sAs (c : Nat) (g : Nat → Int32) (T : TS) : tR (sAs c g T) = tR T := rfl
theorem tl_sAs (c : Nat) (g : Nat → Int32) (T : TS) : tl (sAs c g T) = tl T := rfl
theorem tL_sAs (c : Nat) (g : Nat → Int32) (T : TS) : tL (sAs c g T) = tL T := rfl
theorem tc_sAs (c : Nat) (g : Nat → Int32) (T : TS) : tc (sAs c g T) = tc T := rfl
theorem tA_sAs (c : Nat) (g : Nat → Int32) (T : TS) : tA (sAs c g T) = up1 (tA T) c g := rfl
theorem ce_sAs {c a : Nat} {g : Nat → Int32} {T : TS} (h : a ≠ c) : cell (sAs c g T) a = cell T a := by
  unfold cell
  rw [tK_sAs, tI_sAs, tR_sAs, tA_sAs, tl_sAs, tL_sAs, tc_sAs, up1_e, if_neg h]
  rfl
theorem up2_nea {α : Type} {g : Nat → Nat → α} {f a : Nat} {v : α} {b : Nat} (h : b ≠ a) : (fun x => up2 g f a v x b) = fun x => g x b := by
  funext x
  rw [up2_e, if_neg (fun q => h q.2)]
theorem up2_nef {α : Type} {g : Nat → Nat → α} {f a : Nat} {v : α} {b : Nat} (h : b ≠ f) : up2 g f a v b = g b := by
  funext x
  rw [up2_e, if_neg (fun q => h q.1)]
theorem up1_nea {α : Type} {g : Nat → α} {a : Nat} {v : α} {b : Nat} (h : b ≠ a) : up1 g a v b = g b := by rw [up1_e, if_neg h]
theorem ce_sI {f b a : Nat} {v : Int32} {T : TS} (h : a ≠ b) : cell (sI f b v T) a = cell T a := by
  unfold cell
  rw [tI_sI, up2_nea h]
  rfl
theorem ce_sR {f b a : Nat} {v : Option Nat} {T : TS} (h : a ≠ b) : cell (sR f b v T) a = cell T a := by
  unfold cell
  rw [tR_sR, up2_nea h]
  rfl
theorem ce_sA {c i a : Nat} {v : Int32} {T : TS} (h : a ≠ c) : cell (sA c i v T) a = cell T a := by
  unfold cell
  rw [tA_sA, up2_nef h]
  rfl
theorem ce_sJ {c i a : Nat} {v : Int64} {T : TS} (h : a ≠ c) : cell (sJ c i v T) a = cell T a := by
  unfold cell
  rw [tJ_sJ, up2_nef h]
  rfl
theorem ce_sL {b a : Nat} {xs : List Nat} {T : TS} (h : a ≠ b) : cell (sL b xs T) a = cell T a := by
  unfold cell
  rw [tL_sL, up1_nea h]
  rfl
theorem ce_nL {b a : Nat} {T : TS} (h : a ≠ b) : cell (nL b T) a = cell T a := by
  unfold cell
  rw [tL_nL, tK_nL, tc_nL, up1_nea h, up1_nea h, up1_nea h]
  rfl
theorem ce_gL {b c a : Nat} {T : TS} (h : a ≠ b) : cell (gL b c T) a = cell T a := by
  unfold cell
  rw [tc_gL, up1_nea h]
  rfl
theorem ce_fit {b a : Nat} {T : TS} (h : a ≠ b) : cell (fit b T) a = cell T a := by
  unfold fit
  split
  · exact ce_gL h
  · rfl
theorem ce_nO {c a : Nat} {T : TS} (h : a ≠ tn T) : cell (nO c T) a = cell T a := by
  unfold cell
  rw [tK_nO, tI_nO, tR_nO, up1_nea h]
  simp only [if_neg h]
  rfl
theorem ce_nA {k n a : Nat} {T : TS} (h : a ≠ tn T) : cell (nA k n T) a = cell T a := by
  unfold cell
  rw [tK_nA, tA_nA, tl_nA, tJ_nA, up1_nea h, up1_nea h, up1_nea h, up1_nea h]
  rfl
theorem ce_nX {a : Nat} {T : TS} : cell (nX T) a = cell T a := rfl
/-- what is not made yet is of no kind -/
def wf (T : TS) : Prop := ∀ a, tn T ≤ a → tK T a = 0
theorem wf.lt {T : TS} (h : wf T) {a k : Nat} (hk : tK T a = k + 1) : a < tn T := by
  by_cases e : a < tn T
  · exact e
  · rw [h a (by omega)] at hk
    omega
theorem neK {T : TS} {a b i j : Nat} (h1 : tK T a = i) (h2 : tK T b = j) (h : i ≠ j) : a ≠ b := by
  rintro rfl
  exact h (h1.symm.trans h2)
/-- nothing but W has changed; so many cells and slots more at most -/
def fr (W : Nat → Prop) (n u : Nat) (T T' : TS) : Prop := wf T' ∧ tn T ≤ tn T' ∧ tn T' ≤ tn T + n ∧ tu T ≤ tu T' ∧ tu T' ≤ tu T + u ∧ ∀ a, tK T a ≠ 0 → ¬ W a → cell T' a = cell T a
theorem fr.rf {W : Nat → Prop} {T : TS} (h : wf T) : fr W 0 0 T T := ⟨h, Nat.le_refl _, Nat.le_refl _, Nat.le_refl _, Nat.le_refl _, fun _ _ _ => rfl⟩
theorem fr.ok {W : Nat → Prop} {n u : Nat} {T T' : TS} (h : fr W n u T T') : wf T' := h.1
theorem fr.tr {W W' : Nat → Prop} {n u n' u' : Nat} {T T' T'' : TS} (h : fr W n u T T') (h' : fr W' n' u' T' T'') (hw : ∀ a, tK T a ≠ 0 → W' a → W a) : fr W (n + n') (u + u') T T'' := by
  obtain ⟨a0, a1, a2, a3, a4, a5⟩ := h
  obtain ⟨b0, b1, b2, b3, b4, b5⟩ := h'
  refine ⟨b0, by omega, by omega, by omega, by omega, fun a ha hn => ?_⟩
  have e := a5 a ha hn
  rw [b5 a (by rw [ce_K e]; exact ha) (fun q => hn (hw a ha q))]
  exact e
theorem fr.wd {W W' : Nat → Prop} {n u n' u' : Nat} {T T' : TS} (h : fr W n u T T') (hn : n ≤ n') (hu : u ≤ u') (hw : ∀ a, tK T a ≠ 0 → W a → W' a) : fr W' n' u' T T' := by
  obtain ⟨a0, a1, a2, a3, a4, a5⟩ := h
  exact ⟨a0, a1, by omega, a3, by omega, fun a ha hq => a5 a ha (fun q => hq (hw a ha q))⟩
theorem fr.ce {W : Nat → Prop} {n u k : Nat} {T T' : TS} (h : fr W n u T T') {a : Nat} (ha : tK T a = k + 1) (hn : ¬ W a) : cell T' a = cell T a := h.2.2.2.2.2 a (by omega) hn
/-! loops -/
section LPS
variable {d : Nat} {M : MI} {hs : Hn} {pc : Nat} {Q : Post}
theorem lpE (L : Nat → Loc0) (S : Nat → TS) (n : Nat) (h : ∀ i, i < n → (Ev d M hs pc (L i) [] (S i) Q ↔ Ev d M hs pc (L (i + 1)) [] (S (i + 1)) Q)) : Ev d M hs pc (L 0) [] (S 0) Q ↔ Ev d M hs pc (L n) [] (S n) Q := by
  induction n with
  | zero => exact Iff.rfl
  | succ n ih => exact (ih (fun i hi => h i (Nat.lt_succ_of_lt hi))).trans (h n (Nat.lt_succ_self n))
theorem lpS (L : Nat → Loc0) (I : Nat → TS → Prop) (n : Nat) (h : ∀ i T, i < n → I i T → ∃ T', I (i + 1) T' ∧ (Ev d M hs pc (L (i + 1)) [] T' Q → Ev d M hs pc (L i) [] T Q)) (he : ∀ T, I n T → Ev d M hs pc (L n) [] T Q) (T : TS) (h0 : I 0 T) : Ev d M hs pc (L 0) [] T Q := by
  have key : ∀ k i T, i + k = n → I i T → Ev d M hs pc (L i) [] T Q := by
    intro k
    induction k with
    | zero => intro i T hi hI; have : i = n := by omega
              subst this; exact he T hI
    | succ k ih =>
      intro i T hi hI
      obtain ⟨T', h1, h2⟩ := h i T (by omega) hI
      exact h2 (ih (i + 1) T' (by omega) h1)
  exact key n 0 T (by omega) h0
theorem lpX {l : Loc0} {T : TS} (L : Nat → Loc0) (S : Nat → TS) (n : Nat) (hl : l = L 0) (hT : T = S 0) (h : ∀ i, i < n → Ev d M hs pc (L (i + 1)) [] (S (i + 1)) Q → Ev d M hs pc (L i) [] (S i) Q) (he : Ev d M hs pc (L n) [] (S n) Q) : Ev d M hs pc l [] T Q := by
  subst hl; subst hT
  induction n with
  | zero => exact he
  | succ n ih => exact ih (fun i hi => h i (Nat.lt_succ_of_lt hi)) (h n (Nat.lt_succ_self n) he)
theorem ev_eq {l l' : Loc0} {st : List Value} {T T' : TS} (hl : l = l') (hT : T = T') (h : Ev d M hs pc l' st T' Q) : Ev d M hs pc l st T Q := by
  subst hl; subst hT; exact h
end LPS
theorem sAs_x {c : Nat} {g g' : Nat → Int32} {T : TS} (h : ∀ j, g j = g' j) : sAs c g T = sAs c g' T := by rw [funext h]
/-! DedupVault$Row -/
def rowIs (T : TS) (r : Nat) (xs : List Nat) (cap : Nat) : Prop := tK T r = 5 ∧ tR T 128 r = some (r + 1) ∧ tI T 129 r = nI xs.length ∧ tK T (r + 1) = 20 ∧ tl T (r + 1) = cap ∧ xs.length ≤ cap ∧ cap ≤ 1000000 ∧ ∀ i, i < xs.length → tA T (r + 1) i = nI (xs.getD i 0)
theorem rowIs.of {T T' : TS} {r cap : Nat} {xs : List Nat} (h : rowIs T r xs cap) (e1 : cell T' r = cell T r) (e2 : cell T' (r + 1) = cell T (r + 1)) : rowIs T' r xs cap := by
  unfold rowIs
  rw [ce_K e1, ce_R e1, ce_I e1, ce_K e2, ce_l e2, ce_A e2]
  exact h
theorem c_X3_get {d r cap k : Nat} {xs : List Nat} {T : TS} {Q : Post} (h : rowIs T r xs cap) (hk : k < xs.length) : CallQ (d + 1) 39 [.ref r, .int (nI k)] T Q ↔ Q (.inl (some (.int (nI (xs.getD k 0))))) T := by
  obtain ⟨h1, h2, h3, h4, h5, h6, h7, h8⟩ := h
  simp (disch := omega) only [ev_iload_n (M := MX3_get) (k := 1) rfl dX3_get_0 (pc' := 1) rfl, ev_if_lt (M := MX3_get) (t := 21) dX3_get_1 (by decide) (pc' := 4) rfl, ev_iload_n (M := MX3_get) (k := 1) rfl dX3_get_4 (pc' := 5) rfl, ev_aload_n (M := MX3_get) (k := 0) rfl dX3_get_5 (pc' := 6) rfl, ev_getI (M := MX3_get) (f := 129) (kk := 5) f_4_13 rfl rfl rfl dX3_get_6 (pc' := 9) rfl, ev_icmp_ge (M := MX3_get) (t := 21) dX3_get_9 (by decide) (pc' := 12) rfl, ev_iload_n (M := MX3_get) (k := 1) rfl dX3_get_12 (pc' := 13) rfl, ev_aload_n (M := MX3_get) (k := 0) rfl dX3_get_13 (pc' := 14) rfl, ev_getR (M := MX3_get) (f := 128) (kk := 5) f_4_7 rfl rfl rfl dX3_get_14 (pc' := 17) rfl, ev_alen (M := MX3_get) dX3_get_17 (pc' := 18) rfl, ev_icmp_lt (M := MX3_get) (t := 23) dX3_get_18 (by decide) (pc' := 21) rfl, ev_iconst (M := MX3_get) (v := (nI 0)) rfl dX3_get_21 (pc' := 22) rfl, ev_iret (M := MX3_get) rfl dX3_get_22, ev_aload_n (M := MX3_get) (k := 0) rfl dX3_get_23 (pc' := 24) rfl, ev_getR (M := MX3_get) (f := 128) (kk := 5) f_4_7 rfl rfl rfl dX3_get_24 (pc' := 27) rfl, ev_iload_n (M := MX3_get) (k := 1) rfl dX3_get_27 (pc' := 28) rfl, ev_iald (M := MX3_get) dX3_get_28 (pc' := 29) rfl, ev_iret (M := MX3_get) rfl dX3_get_29, uX3_get, lI_some, lJ_some, lR_ref, lR_null, lD_some, lget_cons, ldel_cons, ldel_nil, evR_v, evR_0, evR_x, vrf_s, vrf_n, Value.category, Nat.reduceEqDiff, Nat.reduceAdd, Nat.reduceSub, Nat.reduceMul, Nat.reduceLeDiff, reduceIte, if_true, if_false, or_self, or_false, false_or, or_true, true_or, and_self, and_true, true_and, and_false, false_and, not_true_eq_false, not_false_eq_true, List.length_cons, List.length_nil, Nat.zero_le, Nat.add_eq_zero_iff, Nat.succ_ne_zero, Nat.zero_add, Nat.add_zero, nle_t, nle_f, nlt_t, nlt_f, neq_t, neq_f, i_lt0, i_le0, i_0le, i_0lt, i_eq0, i_lt, i_le, i_eq, nI_add, i_sub, i_cl, i_m1a, i_m1b, i_m1c, i_m1d, i_m1e, i_am1, i_ite0, h1, h2, h3, h4, h5, h8]
theorem c_X3_size {d r cap : Nat} {xs : List Nat} {T : TS} {Q : Post} (h : rowIs T r xs cap) : CallQ (d + 1) 38 [.ref r] T Q ↔ Q (.inl (some (.int (nI xs.length)))) T := by
  obtain ⟨h1, h2, h3, h4, h5, h6, h7, h8⟩ := h
  simp (disch := omega) only [ev_aload_n (M := MX3_size) (k := 0) rfl dX3_size_0 (pc' := 1) rfl, ev_getI (M := MX3_size) (f := 129) (kk := 5) f_4_13 rfl rfl rfl dX3_size_1 (pc' := 4) rfl, ev_iret (M := MX3_size) rfl dX3_size_4, uX3_size, lI_some, lJ_some, lR_ref, lR_null, lD_some, lget_cons, ldel_cons, ldel_nil, evR_v, evR_0, evR_x, vrf_s, vrf_n, Value.category, Nat.reduceEqDiff, Nat.reduceAdd, Nat.reduceSub, Nat.reduceMul, Nat.reduceLeDiff, reduceIte, if_true, if_false, or_self, or_false, false_or, or_true, true_or, and_self, and_true, true_and, and_false, false_and, not_true_eq_false, not_false_eq_true, List.length_cons, List.length_nil, Nat.zero_le, Nat.add_eq_zero_iff, Nat.succ_ne_zero, Nat.zero_add, Nat.add_zero, nle_t, nle_f, nlt_t, nlt_f, neq_t, neq_f, i_lt0, i_le0, i_0le, i_0lt, i_eq0, i_lt, i_le, i_eq, nI_add, i_sub, i_cl, i_m1a, i_m1b, i_m1c, i_m1d, i_m1e, i_am1, i_ite0, h1, h2, h3, h4, h5, h8]
/-- the row's new content -/
def rowPut (r : Nat) (g : Nat → Int32) (n : Nat) (T : TS) : TS := sI 129 r (nI n) (sAs (r + 1) g T)
theorem rowPut_is {T : TS} {r cap : Nat} {xs ys : List Nat} {g : Nat → Int32} (h : rowIs T r xs cap) (hy : ys.length ≤ cap) (hg : ∀ i, i < ys.length → g i = nI (ys.getD i 0)) : rowIs (rowPut r g ys.length T) r ys cap := by
  obtain ⟨h1, h2, h3, h4, h5, h6, h7, h8⟩ := h
  refine ⟨h1, h2, ?_, h4, h5, hy, h7, fun i hi => ?_⟩
  · show up2 _ 129 r _ 129 r = _
    rw [up2_e, if_pos ⟨rfl, rfl⟩]
  · show up1 _ (r + 1) g (r + 1) i = _
    rw [up1_e, if_pos rfl]
    exact hg i hi
theorem rowPut_fr {T : TS} {r n : Nat} {g : Nat → Int32} (hw : wf T) : fr (fun a => a = r ∨ a = r + 1) 0 0 T (rowPut r g n T) := by
  refine ⟨hw, Nat.le_refl _, Nat.le_refl _, Nat.le_refl _, Nat.le_refl _, fun a _ hn => ?_⟩
  unfold rowPut
  rw [ce_sI (fun e => hn (Or.inl e)), ce_sAs (fun e => hn (Or.inr e))]
theorem getD_ins (xs : List Nat) (p v : Nat) (hp : p ≤ xs.length) (j : Nat) : (xs.insertIdx p v).getD j 0 = if j < p then xs.getD j 0 else if j = p then v else xs.getD (j - 1) 0 := by
  simp only [List.getD_eq_getElem?_getD]
  rw [List.getElem?_insertIdx]
  split
  · rfl
  · split
    · rename_i h; rw [if_pos (by omega)]; rfl
    · rfl
theorem C_X3_putIn {d r cap p v : Nat} {xs : List Nat} {T : TS} (hw : wf T) (h : rowIs T r xs cap) (hp : p ≤ xs.length) (hn : xs.length < cap) : CallQ (d + 1) 42 [.ref r, .int (nI p), .int (nI v)] T (fun q T' => q = .inl none ∧ rowIs T' r (xs.insertIdx p v) cap ∧ fr (fun a => a = r ∨ a = r + 1) 0 0 T T') := by
  have h0 := h
  obtain ⟨h1, h2, h3, h4, h5, h6, h7, h8⟩ := h
  simp (disch := omega) only [ev_iload_n (M := MX3_putIn) (k := 1) rfl dX3_putIn_0 (pc' := 1) rfl, ev_if_lt (M := MX3_putIn) (t := 24) dX3_putIn_1 (by decide) (pc' := 4) rfl, ev_iload_n (M := MX3_putIn) (k := 1) rfl dX3_putIn_4 (pc' := 5) rfl, ev_aload_n (M := MX3_putIn) (k := 0) rfl dX3_putIn_5 (pc' := 6) rfl, ev_getI (M := MX3_putIn) (f := 129) (kk := 5) f_4_13 rfl rfl rfl dX3_putIn_6 (pc' := 9) rfl, ev_icmp_gt (M := MX3_putIn) (t := 24) dX3_putIn_9 (by decide) (pc' := 12) rfl, ev_aload_n (M := MX3_putIn) (k := 0) rfl dX3_putIn_12 (pc' := 13) rfl, ev_getI (M := MX3_putIn) (f := 129) (kk := 5) f_4_13 rfl rfl rfl dX3_putIn_13 (pc' := 16) rfl, ev_aload_n (M := MX3_putIn) (k := 0) rfl dX3_putIn_16 (pc' := 17) rfl, ev_getR (M := MX3_putIn) (f := 128) (kk := 5) f_4_7 rfl rfl rfl dX3_putIn_17 (pc' := 20) rfl, ev_alen (M := MX3_putIn) dX3_putIn_20 (pc' := 21) rfl, ev_icmp_lt (M := MX3_putIn) (t := 25) dX3_putIn_21 (by decide) (pc' := 24) rfl, ev_vret (M := MX3_putIn) rfl dX3_putIn_24, ev_aload_n (M := MX3_putIn) (k := 0) rfl dX3_putIn_25 (pc' := 26) rfl, ev_getI (M := MX3_putIn) (f := 129) (kk := 5) f_4_13 rfl rfl rfl dX3_putIn_26 (pc' := 29) rfl, ev_istore_n (M := MX3_putIn) (k := 3) rfl dX3_putIn_29 (by decide) (pc' := 30) rfl, ev_iload_n (M := MX3_putIn) (k := 1) rfl dX3_putIn_31 (pc' := 32) rfl, ev_icmp_le (M := MX3_putIn) (t := 55) dX3_putIn_32 (by decide) (pc' := 35) rfl, ev_aload_n (M := MX3_putIn) (k := 0) rfl dX3_putIn_35 (pc' := 36) rfl, ev_getR (M := MX3_putIn) (f := 128) (kk := 5) f_4_7 rfl rfl rfl dX3_putIn_36 (pc' := 39) rfl, ev_iload_n (M := MX3_putIn) (k := 3) rfl dX3_putIn_39 (pc' := 40) rfl, ev_aload_n (M := MX3_putIn) (k := 0) rfl dX3_putIn_40 (pc' := 41) rfl, ev_getR (M := MX3_putIn) (f := 128) (kk := 5) f_4_7 rfl rfl rfl dX3_putIn_41 (pc' := 44) rfl, ev_iload_n (M := MX3_putIn) (k := 3) rfl dX3_putIn_44 (pc' := 45) rfl, ev_iconst (M := MX3_putIn) (v := (nI 1)) rfl dX3_putIn_45 (pc' := 46) rfl, ev_isub (M := MX3_putIn) dX3_putIn_46 (pc' := 47) rfl, ev_iald (M := MX3_putIn) dX3_putIn_47 (pc' := 48) rfl, ev_iast (M := MX3_putIn) dX3_putIn_48 (pc' := 49) rfl, ev_iinc (M := MX3_putIn) (v := (-1)) rfl dX3_putIn_49 (by decide) (pc' := 52) rfl, ev_goto (M := MX3_putIn) (pc' := 30) dX3_putIn_52 (by decide), ev_aload_n (M := MX3_putIn) (k := 0) rfl dX3_putIn_55 (pc' := 56) rfl, ev_getR (M := MX3_putIn) (f := 128) (kk := 5) f_4_7 rfl rfl rfl dX3_putIn_56 (pc' := 59) rfl, ev_iload_n (M := MX3_putIn) (k := 1) rfl dX3_putIn_59 (pc' := 60) rfl, ev_iload_n (M := MX3_putIn) (k := 2) rfl dX3_putIn_60 (pc' := 61) rfl, ev_iast (M := MX3_putIn) dX3_putIn_61 (pc' := 62) rfl, ev_aload_n (M := MX3_putIn) (k := 0) rfl dX3_putIn_62 (pc' := 63) rfl, ev_dupI (M := MX3_putIn) dX3_putIn_63 (pc' := 64) rfl, ev_dupR (M := MX3_putIn) dX3_putIn_63 (pc' := 64) rfl, ev_getI (M := MX3_putIn) (f := 129) (kk := 5) f_4_13 rfl rfl rfl dX3_putIn_64 (pc' := 67) rfl, ev_iconst (M := MX3_putIn) (v := (nI 1)) rfl dX3_putIn_67 (pc' := 68) rfl, ev_iadd (M := MX3_putIn) dX3_putIn_68 (pc' := 69) rfl, ev_putI (M := MX3_putIn) (f := 129) (kk := 5) f_4_13 rfl rfl rfl rfl dX3_putIn_69 (pc' := 72) rfl, ev_vret (M := MX3_putIn) rfl dX3_putIn_72, uX3_putIn, lI_some, lJ_some, lR_ref, lR_null, lD_some, lget_cons, ldel_cons, ldel_nil, evR_v, evR_0, evR_x, vrf_s, vrf_n, Value.category, Nat.reduceEqDiff, Nat.reduceAdd, Nat.reduceSub, Nat.reduceMul, Nat.reduceLeDiff, reduceIte, if_true, if_false, or_self, or_false, false_or, or_true, true_or, and_self, and_true, true_and, and_false, false_and, not_true_eq_false, not_false_eq_true, List.length_cons, List.length_nil, Nat.zero_le, Nat.add_eq_zero_iff, Nat.succ_ne_zero, Nat.zero_add, Nat.add_zero, nle_t, nle_f, nlt_t, nlt_f, neq_t, neq_f, i_lt0, i_le0, i_0le, i_0lt, i_eq0, i_lt, i_le, i_eq, nI_add, i_sub, i_cl, i_m1a, i_m1b, i_m1c, i_m1d, i_m1e, i_am1, i_ite0, h1, h2, h3, h4, h5]
  refine lpX (fun k => [(3, .int (nI (xs.length - k))), (0, .ref r), (1, .int (nI p)), (2, .int (nI v))]) (fun k => sAs (r + 1) (fun j => if xs.length - k < j ∧ j ≤ xs.length then tA T (r + 1) (j - 1) else tA T (r + 1) j) T) (xs.length - p) rfl ?_ ?_ ?_
  · refine (sAs_id _ _).symm.trans (sAs_x fun j => ?_)
    rw [if_neg (by omega)]
  · intro k hk hq
    rw [ev_iload_n (M := MX3_putIn) (k := 3) rfl dX3_putIn_30 (pc' := 31) rfl]
    simp (disch := omega) only [ev_iload_n (M := MX3_putIn) (k := 1) rfl dX3_putIn_0 (pc' := 1) rfl, ev_if_lt (M := MX3_putIn) (t := 24) dX3_putIn_1 (by decide) (pc' := 4) rfl, ev_iload_n (M := MX3_putIn) (k := 1) rfl dX3_putIn_4 (pc' := 5) rfl, ev_aload_n (M := MX3_putIn) (k := 0) rfl dX3_putIn_5 (pc' := 6) rfl, ev_getI (M := MX3_putIn) (f := 129) (kk := 5) f_4_13 rfl rfl rfl dX3_putIn_6 (pc' := 9) rfl, ev_icmp_gt (M := MX3_putIn) (t := 24) dX3_putIn_9 (by decide) (pc' := 12) rfl, ev_aload_n (M := MX3_putIn) (k := 0) rfl dX3_putIn_12 (pc' := 13) rfl, ev_getI (M := MX3_putIn) (f := 129) (kk := 5) f_4_13 rfl rfl rfl dX3_putIn_13 (pc' := 16) rfl, ev_aload_n (M := MX3_putIn) (k := 0) rfl dX3_putIn_16 (pc' := 17) rfl, ev_getR (M := MX3_putIn) (f := 128) (kk := 5) f_4_7 rfl rfl rfl dX3_putIn_17 (pc' := 20) rfl, ev_alen (M := MX3_putIn) dX3_putIn_20 (pc' := 21) rfl, ev_icmp_lt (M := MX3_putIn) (t := 25) dX3_putIn_21 (by decide) (pc' := 24) rfl, ev_vret (M := MX3_putIn) rfl dX3_putIn_24, ev_aload_n (M := MX3_putIn) (k := 0) rfl dX3_putIn_25 (pc' := 26) rfl, ev_getI (M := MX3_putIn) (f := 129) (kk := 5) f_4_13 rfl rfl rfl dX3_putIn_26 (pc' := 29) rfl, ev_istore_n (M := MX3_putIn) (k := 3) rfl dX3_putIn_29 (by decide) (pc' := 30) rfl, ev_iload_n (M := MX3_putIn) (k := 1) rfl dX3_putIn_31 (pc' := 32) rfl, ev_icmp_le (M := MX3_putIn) (t := 55) dX3_putIn_32 (by decide) (pc' := 35) rfl, ev_aload_n (M := MX3_putIn) (k := 0) rfl dX3_putIn_35 (pc' := 36) rfl, ev_getR (M := MX3_putIn) (f := 128) (kk := 5) f_4_7 rfl rfl rfl dX3_putIn_36 (pc' := 39) rfl, ev_iload_n (M := MX3_putIn) (k := 3) rfl dX3_putIn_39 (pc' := 40) rfl, ev_aload_n (M := MX3_putIn) (k := 0) rfl dX3_putIn_40 (pc' := 41) rfl, ev_getR (M := MX3_putIn) (f := 128) (kk := 5) f_4_7 rfl rfl rfl dX3_putIn_41 (pc' := 44) rfl, ev_iload_n (M := MX3_putIn) (k := 3) rfl dX3_putIn_44 (pc' := 45) rfl, ev_iconst (M := MX3_putIn) (v := (nI 1)) rfl dX3_putIn_45 (pc' := 46) rfl, ev_isub (M := MX3_putIn) dX3_putIn_46 (pc' := 47) rfl, ev_iald (M := MX3_putIn) dX3_putIn_47 (pc' := 48) rfl, ev_iast (M := MX3_putIn) dX3_putIn_48 (pc' := 49) rfl, ev_iinc (M := MX3_putIn) (v := (-1)) rfl dX3_putIn_49 (by decide) (pc' := 52) rfl, ev_goto (M := MX3_putIn) (pc' := 30) dX3_putIn_52 (by decide), ev_aload_n (M := MX3_putIn) (k := 0) rfl dX3_putIn_55 (pc' := 56) rfl, ev_getR (M := MX3_putIn) (f := 128) (kk := 5) f_4_7 rfl rfl rfl dX3_putIn_56 (pc' := 59) rfl, ev_iload_n (M := MX3_putIn) (k := 1) rfl dX3_putIn_59 (pc' := 60) rfl, ev_iload_n (M := MX3_putIn) (k := 2) rfl dX3_putIn_60 (pc' := 61) rfl, ev_iast (M := MX3_putIn) dX3_putIn_61 (pc' := 62) rfl, ev_aload_n (M := MX3_putIn) (k := 0) rfl dX3_putIn_62 (pc' := 63) rfl, ev_dupI (M := MX3_putIn) dX3_putIn_63 (pc' := 64) rfl, ev_dupR (M := MX3_putIn) dX3_putIn_63 (pc' := 64) rfl, ev_getI (M := MX3_putIn) (f := 129) (kk := 5) f_4_13 rfl rfl rfl dX3_putIn_64 (pc' := 67) rfl, ev_iconst (M := MX3_putIn) (v := (nI 1)) rfl dX3_putIn_67 (pc' := 68) rfl, ev_iadd (M := MX3_putIn) dX3_putIn_68 (pc' := 69) rfl, ev_putI (M := MX3_putIn) (f := 129) (kk := 5) f_4_13 rfl rfl rfl rfl dX3_putIn_69 (pc' := 72) rfl, ev_vret (M := MX3_putIn) rfl dX3_putIn_72, lI_some, lJ_some, lR_ref, lR_null, lD_some, lget_cons, ldel_cons, ldel_nil, evR_v, evR_0, evR_x, vrf_s, vrf_n, Value.category, Nat.reduceEqDiff, Nat.reduceAdd, Nat.reduceSub, Nat.reduceMul, Nat.reduceLeDiff, reduceIte, if_true, if_false, or_self, or_false, false_or, or_true, true_or, and_self, and_true, true_and, and_false, false_and, not_true_eq_false, not_false_eq_true, List.length_cons, List.length_nil, Nat.zero_le, Nat.add_eq_zero_iff, Nat.succ_ne_zero, Nat.zero_add, Nat.add_zero, nle_t, nle_f, nlt_t, nlt_f, neq_t, neq_f, i_lt0, i_le0, i_0le, i_0lt, i_eq0, i_lt, i_le, i_eq, nI_add, i_sub, i_cl, i_m1a, i_m1b, i_m1c, i_m1d, i_m1e, i_am1, i_ite0, tn_sI, tu_sI, tK_sI, tI_sI, tR_sI, tA_sI, tl_sI, tJ_sI, tL_sI, tc_sI, tn_sR, tu_sR, tK_sR, tI_sR, tR_sR, tA_sR, tl_sR, tJ_sR, tL_sR, tc_sR, tn_sA, tu_sA, tK_sA, tI_sA, tR_sA, tA_sA, tl_sA, tJ_sA, tL_sA, tc_sA, tn_sJ, tu_sJ, tK_sJ, tI_sJ, tR_sJ, tA_sJ, tl_sJ, tJ_sJ, tL_sJ, tc_sJ, tn_nO, tu_nO, tK_nO, tI_nO, tR_nO, tA_nO, tl_nO, tJ_nO, tL_nO, tc_nO, tn_nA, tu_nA, tK_nA, tI_nA, tR_nA, tA_nA, tl_nA, tJ_nA, tL_nA, tc_nA, tn_nX, tu_nX, tK_nX, tI_nX, tR_nX, tA_nX, tl_nX, tJ_nX, tL_nX, tc_nX, tn_sL, tu_sL, tK_sL, tI_sL, tR_sL, tA_sL, tl_sL, tJ_sL, tL_sL, tc_sL, tn_nL, tu_nL, tK_nL, tI_nL, tR_nL, tA_nL, tl_nL, tJ_nL, tL_nL, tc_nL, tn_gL, tu_gL, tK_gL, tI_gL, tR_gL, tA_gL, tl_gL, tJ_gL, tL_gL, tc_gL, tK_sAs, tR_sAs, tI_sAs, tl_sAs, sAs_tA, sA_sAs, h1, h2, h3, h4, h5]
    refine ev_eq rfl (sAs_x fun j => ?_) hq
    by_cases e : j = xs.length - k
    · subst e
      rw [if_pos rfl, if_pos (by omega)]
    · rw [if_neg e]
      by_cases e2 : xs.length - k < j ∧ j ≤ xs.length
      · rw [if_pos e2, if_pos (by omega)]
      · rw [if_neg e2, if_neg (by omega)]
  · rw [ev_iload_n (M := MX3_putIn) (k := 3) rfl dX3_putIn_30 (pc' := 31) rfl]
    simp (disch := omega) only [ev_iload_n (M := MX3_putIn) (k := 1) rfl dX3_putIn_0 (pc' := 1) rfl, ev_if_lt (M := MX3_putIn) (t := 24) dX3_putIn_1 (by decide) (pc' := 4) rfl, ev_iload_n (M := MX3_putIn) (k := 1) rfl dX3_putIn_4 (pc' := 5) rfl, ev_aload_n (M := MX3_putIn) (k := 0) rfl dX3_putIn_5 (pc' := 6) rfl, ev_getI (M := MX3_putIn) (f := 129) (kk := 5) f_4_13 rfl rfl rfl dX3_putIn_6 (pc' := 9) rfl, ev_icmp_gt (M := MX3_putIn) (t := 24) dX3_putIn_9 (by decide) (pc' := 12) rfl, ev_aload_n (M := MX3_putIn) (k := 0) rfl dX3_putIn_12 (pc' := 13) rfl, ev_getI (M := MX3_putIn) (f := 129) (kk := 5) f_4_13 rfl rfl rfl dX3_putIn_13 (pc' := 16) rfl, ev_aload_n (M := MX3_putIn) (k := 0) rfl dX3_putIn_16 (pc' := 17) rfl, ev_getR (M := MX3_putIn) (f := 128) (kk := 5) f_4_7 rfl rfl rfl dX3_putIn_17 (pc' := 20) rfl, ev_alen (M := MX3_putIn) dX3_putIn_20 (pc' := 21) rfl, ev_icmp_lt (M := MX3_putIn) (t := 25) dX3_putIn_21 (by decide) (pc' := 24) rfl, ev_vret (M := MX3_putIn) rfl dX3_putIn_24, ev_aload_n (M := MX3_putIn) (k := 0) rfl dX3_putIn_25 (pc' := 26) rfl, ev_getI (M := MX3_putIn) (f := 129) (kk := 5) f_4_13 rfl rfl rfl dX3_putIn_26 (pc' := 29) rfl, ev_istore_n (M := MX3_putIn) (k := 3) rfl dX3_putIn_29 (by decide) (pc' := 30) rfl, ev_iload_n (M := MX3_putIn) (k := 1) rfl dX3_putIn_31 (pc' := 32) rfl, ev_icmp_le (M := MX3_putIn) (t := 55) dX3_putIn_32 (by decide) (pc' := 35) rfl, ev_aload_n (M := MX3_putIn) (k := 0) rfl dX3_putIn_35 (pc' := 36) rfl, ev_getR (M := MX3_putIn) (f := 128) (kk := 5) f_4_7 rfl rfl rfl dX3_putIn_36 (pc' := 39) rfl, ev_iload_n (M := MX3_putIn) (k := 3) rfl dX3_putIn_39 (pc' := 40) rfl, ev_aload_n (M := MX3_putIn) (k := 0) rfl dX3_putIn_40 (pc' := 41) rfl, ev_getR (M := MX3_putIn) (f := 128) (kk := 5) f_4_7 rfl rfl rfl dX3_putIn_41 (pc' := 44) rfl, ev_iload_n (M := MX3_putIn) (k := 3) rfl dX3_putIn_44 (pc' := 45) rfl, ev_iconst (M := MX3_putIn) (v := (nI 1)) rfl dX3_putIn_45 (pc' := 46) rfl, ev_isub (M := MX3_putIn) dX3_putIn_46 (pc' := 47) rfl, ev_iald (M := MX3_putIn) dX3_putIn_47 (pc' := 48) rfl, ev_iast (M := MX3_putIn) dX3_putIn_48 (pc' := 49) rfl, ev_iinc (M := MX3_putIn) (v := (-1)) rfl dX3_putIn_49 (by decide) (pc' := 52) rfl, ev_goto (M := MX3_putIn) (pc' := 30) dX3_putIn_52 (by decide), ev_aload_n (M := MX3_putIn) (k := 0) rfl dX3_putIn_55 (pc' := 56) rfl, ev_getR (M := MX3_putIn) (f := 128) (kk := 5) f_4_7 rfl rfl rfl dX3_putIn_56 (pc' := 59) rfl, ev_iload_n (M := MX3_putIn) (k := 1) rfl dX3_putIn_59 (pc' := 60) rfl, ev_iload_n (M := MX3_putIn) (k := 2) rfl dX3_putIn_60 (pc' := 61) rfl, ev_iast (M := MX3_putIn) dX3_putIn_61 (pc' := 62) rfl, ev_aload_n (M := MX3_putIn) (k := 0) rfl dX3_putIn_62 (pc' := 63) rfl, ev_dupI (M := MX3_putIn) dX3_putIn_63 (pc' := 64) rfl, ev_dupR (M := MX3_putIn) dX3_putIn_63 (pc' := 64) rfl, ev_getI (M := MX3_putIn) (f := 129) (kk := 5) f_4_13 rfl rfl rfl dX3_putIn_64 (pc' := 67) rfl, ev_iconst (M := MX3_putIn) (v := (nI 1)) rfl dX3_putIn_67 (pc' := 68) rfl, ev_iadd (M := MX3_putIn) dX3_putIn_68 (pc' := 69) rfl, ev_putI (M := MX3_putIn) (f := 129) (kk := 5) f_4_13 rfl rfl rfl rfl dX3_putIn_69 (pc' := 72) rfl, ev_vret (M := MX3_putIn) rfl dX3_putIn_72, lI_some, lJ_some, lR_ref, lR_null, lD_some, lget_cons, ldel_cons, ldel_nil, evR_v, evR_0, evR_x, vrf_s, vrf_n, Value.category, Nat.reduceEqDiff, Nat.reduceAdd, Nat.reduceSub, Nat.reduceMul, Nat.reduceLeDiff, reduceIte, if_true, if_false, or_self, or_false, false_or, or_true, true_or, and_self, and_true, true_and, and_false, false_and, not_true_eq_false, not_false_eq_true, List.length_cons, List.length_nil, Nat.zero_le, Nat.add_eq_zero_iff, Nat.succ_ne_zero, Nat.zero_add, Nat.add_zero, nle_t, nle_f, nlt_t, nlt_f, neq_t, neq_f, i_lt0, i_le0, i_0le, i_0lt, i_eq0, i_lt, i_le, i_eq, nI_add, i_sub, i_cl, i_m1a, i_m1b, i_m1c, i_m1d, i_m1e, i_am1, i_ite0, tn_sI, tu_sI, tK_sI, tI_sI, tR_sI, tA_sI, tl_sI, tJ_sI, tL_sI, tc_sI, tn_sR, tu_sR, tK_sR, tI_sR, tR_sR, tA_sR, tl_sR, tJ_sR, tL_sR, tc_sR, tn_sA, tu_sA, tK_sA, tI_sA, tR_sA, tA_sA, tl_sA, tJ_sA, tL_sA, tc_sA, tn_sJ, tu_sJ, tK_sJ, tI_sJ, tR_sJ, tA_sJ, tl_sJ, tJ_sJ, tL_sJ, tc_sJ, tn_nO, tu_nO, tK_nO, tI_nO, tR_nO, tA_nO, tl_nO, tJ_nO, tL_nO, tc_nO, tn_nA, tu_nA, tK_nA, tI_nA, tR_nA, tA_nA, tl_nA, tJ_nA, tL_nA, tc_nA, tn_nX, tu_nX, tK_nX, tI_nX, tR_nX, tA_nX, tl_nX, tJ_nX, tL_nX, tc_nX, tn_sL, tu_sL, tK_sL, tI_sL, tR_sL, tA_sL, tl_sL, tJ_sL, tL_sL, tc_sL, tn_nL, tu_nL, tK_nL, tI_nL, tR_nL, tA_nL, tl_nL, tJ_nL, tL_nL, tc_nL, tn_gL, tu_gL, tK_gL, tI_gL, tR_gL, tA_gL, tl_gL, tJ_gL, tL_gL, tc_gL, tK_sAs, tR_sAs, tI_sAs, tl_sAs, sAs_tA, sA_sAs, h1, h2, h3, h4, h5]
    have e1 : (xs.insertIdx p v).length = xs.length + 1 := List.length_insertIdx_of_le_length hp v
    rw [← e1]
    refine ⟨rowPut_is h0 (by omega) (fun i hi => ?_), rowPut_fr hw⟩
    rw [getD_ins xs p v hp]
    by_cases e : i = p
    · subst e
      rw [if_pos rfl, if_neg (by omega), if_pos rfl]
    · rw [if_neg e]
      by_cases e2 : i < p
      · rw [if_pos e2, if_neg (by omega), h8 i (by omega)]
      · rw [if_neg e2, if_pos (by omega), if_neg e, h8 (i - 1) (by omega)]
theorem getD_cut (xs : List Nat) (p m : Nat) (j : Nat) : (xs.take p ++ xs.drop (p + m)).getD j 0 = if j < p then xs.getD j 0 else xs.getD (j + m) 0 := by
  simp only [List.getD_eq_getElem?_getD, List.getElem?_append, List.getElem?_take, List.getElem?_drop, List.length_take]
  split
  · split
    · rfl
    · omega
  · split
    · rw [List.getElem?_eq_none (by omega), List.getElem?_eq_none (by omega)]
    · by_cases e : p ≤ xs.length
      · rw [show p + m + (j - min p xs.length) = j + m by omega]
      · rw [List.getElem?_eq_none (by omega), List.getElem?_eq_none (by omega)]
theorem C_X3_takeOut {d r cap p m : Nat} {xs : List Nat} {T : TS} (hw : wf T) (h : rowIs T r xs cap) (hp : p + m ≤ xs.length) : CallQ (d + 2) 43 [.ref r, .int (nI p), .int (nI m)] T (fun q T' => q = .inl none ∧ rowIs T' r (xs.take p ++ xs.drop (p + m)) cap ∧ fr (fun a => a = r ∨ a = r + 1) 0 0 T T') := by
  have h0 := h
  obtain ⟨h1, h2, h3, h4, h5, h6, h7, h8⟩ := h
  simp (disch := omega) only [ev_iload_n (M := MX3_takeOut) (k := 1) rfl dX3_takeOut_0 (pc' := 1) rfl, ev_iload_n (M := MX3_takeOut) (k := 2) rfl dX3_takeOut_1 (pc' := 2) rfl, ev_aload_n (M := MX3_takeOut) (k := 0) rfl dX3_takeOut_2 (pc' := 3) rfl, ev_getI (M := MX3_takeOut) (f := 129) (kk := 5) f_4_13 rfl rfl rfl dX3_takeOut_3 (pc' := 6) rfl, ev_cS3 (M := MX3_takeOut) dX3_takeOut_6 c_4_29 (by decide) mX6_noSpan rfl rfl (pc' := 9) rfl, ev_if_ne (M := MX3_takeOut) (t := 24) dX3_takeOut_9 (by decide) (pc' := 12) rfl, ev_aload_n (M := MX3_takeOut) (k := 0) rfl dX3_takeOut_12 (pc' := 13) rfl, ev_getI (M := MX3_takeOut) (f := 129) (kk := 5) f_4_13 rfl rfl rfl dX3_takeOut_13 (pc' := 16) rfl, ev_aload_n (M := MX3_takeOut) (k := 0) rfl dX3_takeOut_16 (pc' := 17) rfl, ev_getR (M := MX3_takeOut) (f := 128) (kk := 5) f_4_7 rfl rfl rfl dX3_takeOut_17 (pc' := 20) rfl, ev_alen (M := MX3_takeOut) dX3_takeOut_20 (pc' := 21) rfl, ev_icmp_le (M := MX3_takeOut) (t := 25) dX3_takeOut_21 (by decide) (pc' := 24) rfl, ev_vret (M := MX3_takeOut) rfl dX3_takeOut_24, ev_iload_n (M := MX3_takeOut) (k := 1) rfl dX3_takeOut_25 (pc' := 26) rfl, ev_istore_n (M := MX3_takeOut) (k := 3) rfl dX3_takeOut_26 (by decide) (pc' := 27) rfl, ev_aload_n (M := MX3_takeOut) (k := 0) rfl dX3_takeOut_28 (pc' := 29) rfl, ev_getI (M := MX3_takeOut) (f := 129) (kk := 5) f_4_13 rfl rfl rfl dX3_takeOut_29 (pc' := 32) rfl, ev_iload_n (M := MX3_takeOut) (k := 2) rfl dX3_takeOut_32 (pc' := 33) rfl, ev_isub (M := MX3_takeOut) dX3_takeOut_33 (pc' := 34) rfl, ev_icmp_ge (M := MX3_takeOut) (t := 57) dX3_takeOut_34 (by decide) (pc' := 37) rfl, ev_aload_n (M := MX3_takeOut) (k := 0) rfl dX3_takeOut_37 (pc' := 38) rfl, ev_getR (M := MX3_takeOut) (f := 128) (kk := 5) f_4_7 rfl rfl rfl dX3_takeOut_38 (pc' := 41) rfl, ev_iload_n (M := MX3_takeOut) (k := 3) rfl dX3_takeOut_41 (pc' := 42) rfl, ev_aload_n (M := MX3_takeOut) (k := 0) rfl dX3_takeOut_42 (pc' := 43) rfl, ev_getR (M := MX3_takeOut) (f := 128) (kk := 5) f_4_7 rfl rfl rfl dX3_takeOut_43 (pc' := 46) rfl, ev_iload_n (M := MX3_takeOut) (k := 3) rfl dX3_takeOut_46 (pc' := 47) rfl, ev_iload_n (M := MX3_takeOut) (k := 2) rfl dX3_takeOut_47 (pc' := 48) rfl, ev_iadd (M := MX3_takeOut) dX3_takeOut_48 (pc' := 49) rfl, ev_iald (M := MX3_takeOut) dX3_takeOut_49 (pc' := 50) rfl, ev_iast (M := MX3_takeOut) dX3_takeOut_50 (pc' := 51) rfl, ev_iinc (M := MX3_takeOut) (v := (nI 1)) rfl dX3_takeOut_51 (by decide) (pc' := 54) rfl, ev_goto (M := MX3_takeOut) (pc' := 27) dX3_takeOut_54 (by decide), ev_aload_n (M := MX3_takeOut) (k := 0) rfl dX3_takeOut_57 (pc' := 58) rfl, ev_dupI (M := MX3_takeOut) dX3_takeOut_58 (pc' := 59) rfl, ev_dupR (M := MX3_takeOut) dX3_takeOut_58 (pc' := 59) rfl, ev_getI (M := MX3_takeOut) (f := 129) (kk := 5) f_4_13 rfl rfl rfl dX3_takeOut_59 (pc' := 62) rfl, ev_iload_n (M := MX3_takeOut) (k := 2) rfl dX3_takeOut_62 (pc' := 63) rfl, ev_isub (M := MX3_takeOut) dX3_takeOut_63 (pc' := 64) rfl, ev_putI (M := MX3_takeOut) (f := 129) (kk := 5) f_4_13 rfl rfl rfl rfl dX3_takeOut_64 (pc' := 67) rfl, ev_vret (M := MX3_takeOut) rfl dX3_takeOut_67, uX3_takeOut, ev_iload_n (M := MX6_noSpan) (k := 0) rfl dX6_noSpan_0 (pc' := 1) rfl, ev_if_lt (M := MX6_noSpan) (t := 15) dX6_noSpan_1 (by decide) (pc' := 4) rfl, ev_iload_n (M := MX6_noSpan) (k := 1) rfl dX6_noSpan_4 (pc' := 5) rfl, ev_if_lt (M := MX6_noSpan) (t := 15) dX6_noSpan_5 (by decide) (pc' := 8) rfl, ev_iload_n (M := MX6_noSpan) (k := 1) rfl dX6_noSpan_8 (pc' := 9) rfl, ev_iload_n (M := MX6_noSpan) (k := 2) rfl dX6_noSpan_9 (pc' := 10) rfl, ev_iload_n (M := MX6_noSpan) (k := 0) rfl dX6_noSpan_10 (pc' := 11) rfl, ev_isub (M := MX6_noSpan) dX6_noSpan_11 (pc' := 12) rfl, ev_icmp_le (M := MX6_noSpan) (t := 19) dX6_noSpan_12 (by decide) (pc' := 15) rfl, ev_iconst (M := MX6_noSpan) (v := (nI 1)) rfl dX6_noSpan_15 (pc' := 16) rfl, ev_goto (M := MX6_noSpan) (pc' := 20) dX6_noSpan_16 (by decide), ev_iconst (M := MX6_noSpan) (v := (nI 0)) rfl dX6_noSpan_19 (pc' := 20) rfl, ev_zretI (M := MX6_noSpan) rfl dX6_noSpan_20, uX6_noSpan, lI_some, lJ_some, lR_ref, lR_null, lD_some, lget_cons, ldel_cons, ldel_nil, evR_v, evR_0, evR_x, vrf_s, vrf_n, Value.category, Nat.reduceEqDiff, Nat.reduceAdd, Nat.reduceSub, Nat.reduceMul, Nat.reduceLeDiff, reduceIte, if_true, if_false, or_self, or_false, false_or, or_true, true_or, and_self, and_true, true_and, and_false, false_and, not_true_eq_false, not_false_eq_true, List.length_cons, List.length_nil, Nat.zero_le, Nat.add_eq_zero_iff, Nat.succ_ne_zero, Nat.zero_add, Nat.add_zero, nle_t, nle_f, nlt_t, nlt_f, neq_t, neq_f, i_lt0, i_le0, i_0le, i_0lt, i_eq0, i_lt, i_le, i_eq, nI_add, i_sub, i_cl, i_m1a, i_m1b, i_m1c, i_m1d, i_m1e, i_am1, i_ite0, h1, h2, h3, h4, h5]
  refine lpX (fun k => [(3, .int (nI (p + k))), (0, .ref r), (1, .int (nI p)), (2, .int (nI m))]) (fun k => sAs (r + 1) (fun j => if p ≤ j ∧ j < p + k then tA T (r + 1) (j + m) else tA T (r + 1) j) T) (xs.length - m - p) rfl ?_ ?_ ?_
  · refine (sAs_id _ _).symm.trans (sAs_x fun j => ?_)
    rw [if_neg (by omega)]
  · intro k hk hq
    rw [ev_iload_n (M := MX3_takeOut) (k := 3) rfl dX3_takeOut_27 (pc' := 28) rfl]
    simp (disch := omega) only [ev_iload_n (M := MX3_takeOut) (k := 1) rfl dX3_takeOut_0 (pc' := 1) rfl, ev_iload_n (M := MX3_takeOut) (k := 2) rfl dX3_takeOut_1 (pc' := 2) rfl, ev_aload_n (M := MX3_takeOut) (k := 0) rfl dX3_takeOut_2 (pc' := 3) rfl, ev_getI (M := MX3_takeOut) (f := 129) (kk := 5) f_4_13 rfl rfl rfl dX3_takeOut_3 (pc' := 6) rfl, ev_cS3 (M := MX3_takeOut) dX3_takeOut_6 c_4_29 (by decide) mX6_noSpan rfl rfl (pc' := 9) rfl, ev_if_ne (M := MX3_takeOut) (t := 24) dX3_takeOut_9 (by decide) (pc' := 12) rfl, ev_aload_n (M := MX3_takeOut) (k := 0) rfl dX3_takeOut_12 (pc' := 13) rfl, ev_getI (M := MX3_takeOut) (f := 129) (kk := 5) f_4_13 rfl rfl rfl dX3_takeOut_13 (pc' := 16) rfl, ev_aload_n (M := MX3_takeOut) (k := 0) rfl dX3_takeOut_16 (pc' := 17) rfl, ev_getR (M := MX3_takeOut) (f := 128) (kk := 5) f_4_7 rfl rfl rfl dX3_takeOut_17 (pc' := 20) rfl, ev_alen (M := MX3_takeOut) dX3_takeOut_20 (pc' := 21) rfl, ev_icmp_le (M := MX3_takeOut) (t := 25) dX3_takeOut_21 (by decide) (pc' := 24) rfl, ev_vret (M := MX3_takeOut) rfl dX3_takeOut_24, ev_iload_n (M := MX3_takeOut) (k := 1) rfl dX3_takeOut_25 (pc' := 26) rfl, ev_istore_n (M := MX3_takeOut) (k := 3) rfl dX3_takeOut_26 (by decide) (pc' := 27) rfl, ev_aload_n (M := MX3_takeOut) (k := 0) rfl dX3_takeOut_28 (pc' := 29) rfl, ev_getI (M := MX3_takeOut) (f := 129) (kk := 5) f_4_13 rfl rfl rfl dX3_takeOut_29 (pc' := 32) rfl, ev_iload_n (M := MX3_takeOut) (k := 2) rfl dX3_takeOut_32 (pc' := 33) rfl, ev_isub (M := MX3_takeOut) dX3_takeOut_33 (pc' := 34) rfl, ev_icmp_ge (M := MX3_takeOut) (t := 57) dX3_takeOut_34 (by decide) (pc' := 37) rfl, ev_aload_n (M := MX3_takeOut) (k := 0) rfl dX3_takeOut_37 (pc' := 38) rfl, ev_getR (M := MX3_takeOut) (f := 128) (kk := 5) f_4_7 rfl rfl rfl dX3_takeOut_38 (pc' := 41) rfl, ev_iload_n (M := MX3_takeOut) (k := 3) rfl dX3_takeOut_41 (pc' := 42) rfl, ev_aload_n (M := MX3_takeOut) (k := 0) rfl dX3_takeOut_42 (pc' := 43) rfl, ev_getR (M := MX3_takeOut) (f := 128) (kk := 5) f_4_7 rfl rfl rfl dX3_takeOut_43 (pc' := 46) rfl, ev_iload_n (M := MX3_takeOut) (k := 3) rfl dX3_takeOut_46 (pc' := 47) rfl, ev_iload_n (M := MX3_takeOut) (k := 2) rfl dX3_takeOut_47 (pc' := 48) rfl, ev_iadd (M := MX3_takeOut) dX3_takeOut_48 (pc' := 49) rfl, ev_iald (M := MX3_takeOut) dX3_takeOut_49 (pc' := 50) rfl, ev_iast (M := MX3_takeOut) dX3_takeOut_50 (pc' := 51) rfl, ev_iinc (M := MX3_takeOut) (v := (nI 1)) rfl dX3_takeOut_51 (by decide) (pc' := 54) rfl, ev_goto (M := MX3_takeOut) (pc' := 27) dX3_takeOut_54 (by decide), ev_aload_n (M := MX3_takeOut) (k := 0) rfl dX3_takeOut_57 (pc' := 58) rfl, ev_dupI (M := MX3_takeOut) dX3_takeOut_58 (pc' := 59) rfl, ev_dupR (M := MX3_takeOut) dX3_takeOut_58 (pc' := 59) rfl, ev_getI (M := MX3_takeOut) (f := 129) (kk := 5) f_4_13 rfl rfl rfl dX3_takeOut_59 (pc' := 62) rfl, ev_iload_n (M := MX3_takeOut) (k := 2) rfl dX3_takeOut_62 (pc' := 63) rfl, ev_isub (M := MX3_takeOut) dX3_takeOut_63 (pc' := 64) rfl, ev_putI (M := MX3_takeOut) (f := 129) (kk := 5) f_4_13 rfl rfl rfl rfl dX3_takeOut_64 (pc' := 67) rfl, ev_vret (M := MX3_takeOut) rfl dX3_takeOut_67, lI_some, lJ_some, lR_ref, lR_null, lD_some, lget_cons, ldel_cons, ldel_nil, evR_v, evR_0, evR_x, vrf_s, vrf_n, Value.category, Nat.reduceEqDiff, Nat.reduceAdd, Nat.reduceSub, Nat.reduceMul, Nat.reduceLeDiff, reduceIte, if_true, if_false, or_self, or_false, false_or, or_true, true_or, and_self, and_true, true_and, and_false, false_and, not_true_eq_false, not_false_eq_true, List.length_cons, List.length_nil, Nat.zero_le, Nat.add_eq_zero_iff, Nat.succ_ne_zero, Nat.zero_add, Nat.add_zero, nle_t, nle_f, nlt_t, nlt_f, neq_t, neq_f, i_lt0, i_le0, i_0le, i_0lt, i_eq0, i_lt, i_le, i_eq, nI_add, i_sub, i_cl, i_m1a, i_m1b, i_m1c, i_m1d, i_m1e, i_am1, i_ite0, tn_sI, tu_sI, tK_sI, tI_sI, tR_sI, tA_sI, tl_sI, tJ_sI, tL_sI, tc_sI, tn_sR, tu_sR, tK_sR, tI_sR, tR_sR, tA_sR, tl_sR, tJ_sR, tL_sR, tc_sR, tn_sA, tu_sA, tK_sA, tI_sA, tR_sA, tA_sA, tl_sA, tJ_sA, tL_sA, tc_sA, tn_sJ, tu_sJ, tK_sJ, tI_sJ, tR_sJ, tA_sJ, tl_sJ, tJ_sJ, tL_sJ, tc_sJ, tn_nO, tu_nO, tK_nO, tI_nO, tR_nO, tA_nO, tl_nO, tJ_nO, tL_nO, tc_nO, tn_nA, tu_nA, tK_nA, tI_nA, tR_nA, tA_nA, tl_nA, tJ_nA, tL_nA, tc_nA, tn_nX, tu_nX, tK_nX, tI_nX, tR_nX, tA_nX, tl_nX, tJ_nX, tL_nX, tc_nX, tn_sL, tu_sL, tK_sL, tI_sL, tR_sL, tA_sL, tl_sL, tJ_sL, tL_sL, tc_sL, tn_nL, tu_nL, tK_nL, tI_nL, tR_nL, tA_nL, tl_nL, tJ_nL, tL_nL, tc_nL, tn_gL, tu_gL, tK_gL, tI_gL, tR_gL, tA_gL, tl_gL, tJ_gL, tL_gL, tc_gL, tK_sAs, tR_sAs, tI_sAs, tl_sAs, sAs_tA, sA_sAs, h1, h2, h3, h4, h5]
    refine ev_eq rfl (sAs_x fun j => ?_) hq
    by_cases e : j = p + k
    · subst e
      rw [if_pos rfl, if_pos (by omega)]
    · rw [if_neg e]
      by_cases e2 : p ≤ j ∧ j < p + k
      · rw [if_pos e2, if_pos (by omega)]
      · rw [if_neg e2, if_neg (by omega)]
  · rw [ev_iload_n (M := MX3_takeOut) (k := 3) rfl dX3_takeOut_27 (pc' := 28) rfl]
    simp (disch := omega) only [ev_iload_n (M := MX3_takeOut) (k := 1) rfl dX3_takeOut_0 (pc' := 1) rfl, ev_iload_n (M := MX3_takeOut) (k := 2) rfl dX3_takeOut_1 (pc' := 2) rfl, ev_aload_n (M := MX3_takeOut) (k := 0) rfl dX3_takeOut_2 (pc' := 3) rfl, ev_getI (M := MX3_takeOut) (f := 129) (kk := 5) f_4_13 rfl rfl rfl dX3_takeOut_3 (pc' := 6) rfl, ev_cS3 (M := MX3_takeOut) dX3_takeOut_6 c_4_29 (by decide) mX6_noSpan rfl rfl (pc' := 9) rfl, ev_if_ne (M := MX3_takeOut) (t := 24) dX3_takeOut_9 (by decide) (pc' := 12) rfl, ev_aload_n (M := MX3_takeOut) (k := 0) rfl dX3_takeOut_12 (pc' := 13) rfl, ev_getI (M := MX3_takeOut) (f := 129) (kk := 5) f_4_13 rfl rfl rfl dX3_takeOut_13 (pc' := 16) rfl, ev_aload_n (M := MX3_takeOut) (k := 0) rfl dX3_takeOut_16 (pc' := 17) rfl, ev_getR (M := MX3_takeOut) (f := 128) (kk := 5) f_4_7 rfl rfl rfl dX3_takeOut_17 (pc' := 20) rfl, ev_alen (M := MX3_takeOut) dX3_takeOut_20 (pc' := 21) rfl, ev_icmp_le (M := MX3_takeOut) (t := 25) dX3_takeOut_21 (by decide) (pc' := 24) rfl, ev_vret (M := MX3_takeOut) rfl dX3_takeOut_24, ev_iload_n (M := MX3_takeOut) (k := 1) rfl dX3_takeOut_25 (pc' := 26) rfl, ev_istore_n (M := MX3_takeOut) (k := 3) rfl dX3_takeOut_26 (by decide) (pc' := 27) rfl, ev_aload_n (M := MX3_takeOut) (k := 0) rfl dX3_takeOut_28 (pc' := 29) rfl, ev_getI (M := MX3_takeOut) (f := 129) (kk := 5) f_4_13 rfl rfl rfl dX3_takeOut_29 (pc' := 32) rfl, ev_iload_n (M := MX3_takeOut) (k := 2) rfl dX3_takeOut_32 (pc' := 33) rfl, ev_isub (M := MX3_takeOut) dX3_takeOut_33 (pc' := 34) rfl, ev_icmp_ge (M := MX3_takeOut) (t := 57) dX3_takeOut_34 (by decide) (pc' := 37) rfl, ev_aload_n (M := MX3_takeOut) (k := 0) rfl dX3_takeOut_37 (pc' := 38) rfl, ev_getR (M := MX3_takeOut) (f := 128) (kk := 5) f_4_7 rfl rfl rfl dX3_takeOut_38 (pc' := 41) rfl, ev_iload_n (M := MX3_takeOut) (k := 3) rfl dX3_takeOut_41 (pc' := 42) rfl, ev_aload_n (M := MX3_takeOut) (k := 0) rfl dX3_takeOut_42 (pc' := 43) rfl, ev_getR (M := MX3_takeOut) (f := 128) (kk := 5) f_4_7 rfl rfl rfl dX3_takeOut_43 (pc' := 46) rfl, ev_iload_n (M := MX3_takeOut) (k := 3) rfl dX3_takeOut_46 (pc' := 47) rfl, ev_iload_n (M := MX3_takeOut) (k := 2) rfl dX3_takeOut_47 (pc' := 48) rfl, ev_iadd (M := MX3_takeOut) dX3_takeOut_48 (pc' := 49) rfl, ev_iald (M := MX3_takeOut) dX3_takeOut_49 (pc' := 50) rfl, ev_iast (M := MX3_takeOut) dX3_takeOut_50 (pc' := 51) rfl, ev_iinc (M := MX3_takeOut) (v := (nI 1)) rfl dX3_takeOut_51 (by decide) (pc' := 54) rfl, ev_goto (M := MX3_takeOut) (pc' := 27) dX3_takeOut_54 (by decide), ev_aload_n (M := MX3_takeOut) (k := 0) rfl dX3_takeOut_57 (pc' := 58) rfl, ev_dupI (M := MX3_takeOut) dX3_takeOut_58 (pc' := 59) rfl, ev_dupR (M := MX3_takeOut) dX3_takeOut_58 (pc' := 59) rfl, ev_getI (M := MX3_takeOut) (f := 129) (kk := 5) f_4_13 rfl rfl rfl dX3_takeOut_59 (pc' := 62) rfl, ev_iload_n (M := MX3_takeOut) (k := 2) rfl dX3_takeOut_62 (pc' := 63) rfl, ev_isub (M := MX3_takeOut) dX3_takeOut_63 (pc' := 64) rfl, ev_putI (M := MX3_takeOut) (f := 129) (kk := 5) f_4_13 rfl rfl rfl rfl dX3_takeOut_64 (pc' := 67) rfl, ev_vret (M := MX3_takeOut) rfl dX3_takeOut_67, lI_some, lJ_some, lR_ref, lR_null, lD_some, lget_cons, ldel_cons, ldel_nil, evR_v, evR_0, evR_x, vrf_s, vrf_n, Value.category, Nat.reduceEqDiff, Nat.reduceAdd, Nat.reduceSub, Nat.reduceMul, Nat.reduceLeDiff, reduceIte, if_true, if_false, or_self, or_false, false_or, or_true, true_or, and_self, and_true, true_and, and_false, false_and, not_true_eq_false, not_false_eq_true, List.length_cons, List.length_nil, Nat.zero_le, Nat.add_eq_zero_iff, Nat.succ_ne_zero, Nat.zero_add, Nat.add_zero, nle_t, nle_f, nlt_t, nlt_f, neq_t, neq_f, i_lt0, i_le0, i_0le, i_0lt, i_eq0, i_lt, i_le, i_eq, nI_add, i_sub, i_cl, i_m1a, i_m1b, i_m1c, i_m1d, i_m1e, i_am1, i_ite0, tn_sI, tu_sI, tK_sI, tI_sI, tR_sI, tA_sI, tl_sI, tJ_sI, tL_sI, tc_sI, tn_sR, tu_sR, tK_sR, tI_sR, tR_sR, tA_sR, tl_sR, tJ_sR, tL_sR, tc_sR, tn_sA, tu_sA, tK_sA, tI_sA, tR_sA, tA_sA, tl_sA, tJ_sA, tL_sA, tc_sA, tn_sJ, tu_sJ, tK_sJ, tI_sJ, tR_sJ, tA_sJ, tl_sJ, tJ_sJ, tL_sJ, tc_sJ, tn_nO, tu_nO, tK_nO, tI_nO, tR_nO, tA_nO, tl_nO, tJ_nO, tL_nO, tc_nO, tn_nA, tu_nA, tK_nA, tI_nA, tR_nA, tA_nA, tl_nA, tJ_nA, tL_nA, tc_nA, tn_nX, tu_nX, tK_nX, tI_nX, tR_nX, tA_nX, tl_nX, tJ_nX, tL_nX, tc_nX, tn_sL, tu_sL, tK_sL, tI_sL, tR_sL, tA_sL, tl_sL, tJ_sL, tL_sL, tc_sL, tn_nL, tu_nL, tK_nL, tI_nL, tR_nL, tA_nL, tl_nL, tJ_nL, tL_nL, tc_nL, tn_gL, tu_gL, tK_gL, tI_gL, tR_gL, tA_gL, tl_gL, tJ_gL, tL_gL, tc_gL, tK_sAs, tR_sAs, tI_sAs, tl_sAs, sAs_tA, sA_sAs, h1, h2, h3, h4, h5]
    have e1 : (xs.take p ++ xs.drop (p + m)).length = xs.length - m := by
      rw [List.length_append, List.length_take, List.length_drop]
      omega
    rw [← e1]
    refine ⟨rowPut_is h0 (by omega) (fun i hi => ?_), rowPut_fr hw⟩
    rw [getD_cut xs p m]
    by_cases e2 : i < p
    · rw [if_pos e2, if_neg (by omega), h8 i (by omega)]
    · rw [if_neg e2, if_pos (by omega), h8 (i + m) (by omega)]
theorem C_X3_add {d r cap v : Nat} {xs : List Nat} {T : TS} (hw : wf T) (h : rowIs T r xs cap) (hn : xs.length < cap) : CallQ (d + 2) 40 [.ref r, .int (nI v)] T (fun q T' => q = .inl none ∧ rowIs T' r (xs ++ [v]) cap ∧ fr (fun a => a = r ∨ a = r + 1) 0 0 T T') := by
  obtain ⟨_, T', hc, rfl, h9, h10⟩ := C_X3_putIn (d := d) (v := v) hw h (Nat.le_refl _) hn
  obtain ⟨h1, h2, h3, h4, h5, h6, h7, h8⟩ := h
  simp (disch := omega) only [ev_aload_n (M := MX3_add) (k := 0) rfl dX3_add_0 (pc' := 1) rfl, ev_aload_n (M := MX3_add) (k := 0) rfl dX3_add_1 (pc' := 2) rfl, ev_getI (M := MX3_add) (f := 129) (kk := 5) f_4_13 rfl rfl rfl dX3_add_2 (pc' := 5) rfl, ev_iload_n (M := MX3_add) (k := 1) rfl dX3_add_5 (pc' := 6) rfl, ev_cV2 (M := MX3_add) (kk := 5) dX3_add_6 c_4_17 mX3_putIn rfl rfl (by decide) rfl (pc' := 9) rfl, ev_vret (M := MX3_add) rfl dX3_add_9, uX3_add, lI_some, lJ_some, lR_ref, lR_null, lD_some, lget_cons, ldel_cons, ldel_nil, evR_v, evR_0, evR_x, vrf_s, vrf_n, Value.category, Nat.reduceEqDiff, Nat.reduceAdd, Nat.reduceSub, Nat.reduceMul, Nat.reduceLeDiff, reduceIte, if_true, if_false, or_self, or_false, false_or, or_true, true_or, and_self, and_true, true_and, and_false, false_and, not_true_eq_false, not_false_eq_true, List.length_cons, List.length_nil, Nat.zero_le, Nat.add_eq_zero_iff, Nat.succ_ne_zero, Nat.zero_add, Nat.add_zero, nle_t, nle_f, nlt_t, nlt_f, neq_t, neq_f, i_lt0, i_le0, i_0le, i_0lt, i_eq0, i_lt, i_le, i_eq, nI_add, i_sub, i_cl, i_m1a, i_m1b, i_m1c, i_m1d, i_m1e, i_am1, i_ite0, h1, h2, h3, h4, h5, cq hc]
  rw [List.insertIdx_length_self] at h9
  exact ⟨h9, h10⟩
theorem C_X3_addPart {d r o f m cap cap2 : Nat} {xs ys : List Nat} {T : TS} (hw : wf T) (h : rowIs T r xs cap) (h9 : rowIs T o ys cap2) (ho : o ≠ r) (hf : f + m ≤ ys.length) (hm : xs.length + m ≤ cap) : CallQ (d + 3) 41 [.ref r, .ref o, .int (nI f), .int (nI m)] T (fun q T' => q = .inl none ∧ rowIs T' r (xs ++ (ys.drop f).take m) cap ∧ fr (fun a => a = r ∨ a = r + 1) 0 0 T T') := by
  have hr := h
  have hl := h9.2.2.2.2.2.1
  have hl2 := h9.2.2.2.2.2.2.1
  simp (disch := omega) only [ev_iconst (M := MX3_addPart) (v := (nI 0)) rfl dX3_addPart_0 (pc' := 1) rfl, ev_istore (M := MX3_addPart) dX3_addPart_1 (by decide) (pc' := 3) rfl, ev_iload_n (M := MX3_addPart) (k := 3) rfl dX3_addPart_5 (pc' := 6) rfl, ev_icmp_ge (M := MX3_addPart) (t := 27) dX3_addPart_6 (by decide) (pc' := 9) rfl, ev_aload_n (M := MX3_addPart) (k := 0) rfl dX3_addPart_9 (pc' := 10) rfl, ev_aload_n (M := MX3_addPart) (k := 1) rfl dX3_addPart_10 (pc' := 11) rfl, ev_iload_n (M := MX3_addPart) (k := 2) rfl dX3_addPart_11 (pc' := 12) rfl, ev_iload (M := MX3_addPart) dX3_addPart_12 (pc' := 14) rfl, ev_iadd (M := MX3_addPart) dX3_addPart_14 (pc' := 15) rfl, ev_cV1 (M := MX3_addPart) (kk := 5) dX3_addPart_15 c_4_21 mX3_get rfl rfl (by decide) rfl (pc' := 18) rfl, ev_cV1 (M := MX3_addPart) (kk := 5) dX3_addPart_18 c_4_25 mX3_add rfl rfl (by decide) rfl (pc' := 21) rfl, ev_iinc (M := MX3_addPart) (v := (nI 1)) rfl dX3_addPart_21 (by decide) (pc' := 24) rfl, ev_goto (M := MX3_addPart) (pc' := 3) dX3_addPart_24 (by decide), ev_vret (M := MX3_addPart) rfl dX3_addPart_27, uX3_addPart, lI_some, lJ_some, lR_ref, lR_null, lD_some, lget_cons, ldel_cons, ldel_nil, evR_v, evR_0, evR_x, vrf_s, vrf_n, Value.category, Nat.reduceEqDiff, Nat.reduceAdd, Nat.reduceSub, Nat.reduceMul, Nat.reduceLeDiff, reduceIte, if_true, if_false, or_self, or_false, false_or, or_true, true_or, and_self, and_true, true_and, and_false, false_and, not_true_eq_false, not_false_eq_true, List.length_cons, List.length_nil, Nat.zero_le, Nat.add_eq_zero_iff, Nat.succ_ne_zero, Nat.zero_add, Nat.add_zero, nle_t, nle_f, nlt_t, nlt_f, neq_t, neq_f, i_lt0, i_le0, i_0le, i_0lt, i_eq0, i_lt, i_le, i_eq, nI_add, i_sub, i_cl, i_m1a, i_m1b, i_m1c, i_m1d, i_m1e, i_am1, i_ite0]
  refine lpS (fun k => [(4, .int (nI k)), (0, .ref r), (1, .ref o), (2, .int (nI f)), (3, .int (nI m))]) (fun k T' => rowIs T' r (xs ++ (ys.drop f).take k) cap ∧ rowIs T' o ys cap2 ∧ fr (fun a => a = r ∨ a = r + 1) 0 0 T T') m ?_ ?_ T ⟨by simpa using h, h9, fr.rf hw⟩
  · rintro k T1 hk ⟨q1, q2, q3⟩
    have hlen : (xs ++ (ys.drop f).take k).length = xs.length + k := by
      rw [List.length_append, List.length_take, List.length_drop]
      omega
    obtain ⟨_, T2, hc, rfl, q4, q5⟩ := C_X3_add (d := d) (v := ys.getD (f + k) 0) q3.ok q1 (by omega)
    have ne1 := neK q2.1 q1.2.2.2.1 (by decide)
    have ne2 := neK q2.2.2.2.1 q1.1 (by decide)
    have b1 : cell T2 o = cell T1 o := q5.ce q2.1 (by omega)
    have b2 : cell T2 (o + 1) = cell T1 (o + 1) := q5.ce q2.2.2.2.1 (by omega)
    refine ⟨T2, ⟨?_, q2.of b1 b2, ?_⟩, fun hq => ?_⟩
    · have e1 : (ys.drop f).take (k + 1) = (ys.drop f).take k ++ [ys.getD (f + k) 0] := by
        rw [List.take_succ, List.getElem?_drop, List.getD_eq_getElem?_getD, List.getElem?_eq_getElem (by omega)]
        rfl
      rw [e1, ← List.append_assoc]
      exact q4
    · exact (q3.tr q5 (fun a _ h => h)).wd (by omega) (by omega) (fun a _ h => h)
    · rw [ev_iload (M := MX3_addPart) dX3_addPart_3 (pc' := 5) rfl]
      simp (disch := omega) only [ev_iconst (M := MX3_addPart) (v := (nI 0)) rfl dX3_addPart_0 (pc' := 1) rfl, ev_istore (M := MX3_addPart) dX3_addPart_1 (by decide) (pc' := 3) rfl, ev_iload_n (M := MX3_addPart) (k := 3) rfl dX3_addPart_5 (pc' := 6) rfl, ev_icmp_ge (M := MX3_addPart) (t := 27) dX3_addPart_6 (by decide) (pc' := 9) rfl, ev_aload_n (M := MX3_addPart) (k := 0) rfl dX3_addPart_9 (pc' := 10) rfl, ev_aload_n (M := MX3_addPart) (k := 1) rfl dX3_addPart_10 (pc' := 11) rfl, ev_iload_n (M := MX3_addPart) (k := 2) rfl dX3_addPart_11 (pc' := 12) rfl, ev_iload (M := MX3_addPart) dX3_addPart_12 (pc' := 14) rfl, ev_iadd (M := MX3_addPart) dX3_addPart_14 (pc' := 15) rfl, ev_cV1 (M := MX3_addPart) (kk := 5) dX3_addPart_15 c_4_21 mX3_get rfl rfl (by decide) rfl (pc' := 18) rfl, ev_cV1 (M := MX3_addPart) (kk := 5) dX3_addPart_18 c_4_25 mX3_add rfl rfl (by decide) rfl (pc' := 21) rfl, ev_iinc (M := MX3_addPart) (v := (nI 1)) rfl dX3_addPart_21 (by decide) (pc' := 24) rfl, ev_goto (M := MX3_addPart) (pc' := 3) dX3_addPart_24 (by decide), ev_vret (M := MX3_addPart) rfl dX3_addPart_27, lI_some, lJ_some, lR_ref, lR_null, lD_some, lget_cons, ldel_cons, ldel_nil, evR_v, evR_0, evR_x, vrf_s, vrf_n, Value.category, Nat.reduceEqDiff, Nat.reduceAdd, Nat.reduceSub, Nat.reduceMul, Nat.reduceLeDiff, reduceIte, if_true, if_false, or_self, or_false, false_or, or_true, true_or, and_self, and_true, true_and, and_false, false_and, not_true_eq_false, not_false_eq_true, List.length_cons, List.length_nil, Nat.zero_le, Nat.add_eq_zero_iff, Nat.succ_ne_zero, Nat.zero_add, Nat.add_zero, nle_t, nle_f, nlt_t, nlt_f, neq_t, neq_f, i_lt0, i_le0, i_0le, i_0lt, i_eq0, i_lt, i_le, i_eq, nI_add, i_sub, i_cl, i_m1a, i_m1b, i_m1c, i_m1d, i_m1e, i_am1, i_ite0, c_X3_get q2, cq hc, q1.1, q2.1]
      exact hq
  · rintro T1 ⟨q1, q2, q3⟩
    rw [ev_iload (M := MX3_addPart) dX3_addPart_3 (pc' := 5) rfl]
    simp (disch := omega) only [ev_iconst (M := MX3_addPart) (v := (nI 0)) rfl dX3_addPart_0 (pc' := 1) rfl, ev_istore (M := MX3_addPart) dX3_addPart_1 (by decide) (pc' := 3) rfl, ev_iload_n (M := MX3_addPart) (k := 3) rfl dX3_addPart_5 (pc' := 6) rfl, ev_icmp_ge (M := MX3_addPart) (t := 27) dX3_addPart_6 (by decide) (pc' := 9) rfl, ev_aload_n (M := MX3_addPart) (k := 0) rfl dX3_addPart_9 (pc' := 10) rfl, ev_aload_n (M := MX3_addPart) (k := 1) rfl dX3_addPart_10 (pc' := 11) rfl, ev_iload_n (M := MX3_addPart) (k := 2) rfl dX3_addPart_11 (pc' := 12) rfl, ev_iload (M := MX3_addPart) dX3_addPart_12 (pc' := 14) rfl, ev_iadd (M := MX3_addPart) dX3_addPart_14 (pc' := 15) rfl, ev_cV1 (M := MX3_addPart) (kk := 5) dX3_addPart_15 c_4_21 mX3_get rfl rfl (by decide) rfl (pc' := 18) rfl, ev_cV1 (M := MX3_addPart) (kk := 5) dX3_addPart_18 c_4_25 mX3_add rfl rfl (by decide) rfl (pc' := 21) rfl, ev_iinc (M := MX3_addPart) (v := (nI 1)) rfl dX3_addPart_21 (by decide) (pc' := 24) rfl, ev_goto (M := MX3_addPart) (pc' := 3) dX3_addPart_24 (by decide), ev_vret (M := MX3_addPart) rfl dX3_addPart_27, lI_some, lJ_some, lR_ref, lR_null, lD_some, lget_cons, ldel_cons, ldel_nil, evR_v, evR_0, evR_x, vrf_s, vrf_n, Value.category, Nat.reduceEqDiff, Nat.reduceAdd, Nat.reduceSub, Nat.reduceMul, Nat.reduceLeDiff, reduceIte, if_true, if_false, or_self, or_false, false_or, or_true, true_or, and_self, and_true, true_and, and_false, false_and, not_true_eq_false, not_false_eq_true, List.length_cons, List.length_nil, Nat.zero_le, Nat.add_eq_zero_iff, Nat.succ_ne_zero, Nat.zero_add, Nat.add_zero, nle_t, nle_f, nlt_t, nlt_f, neq_t, neq_f, i_lt0, i_le0, i_0le, i_0lt, i_eq0, i_lt, i_le, i_eq, nI_add, i_sub, i_cl, i_m1a, i_m1b, i_m1c, i_m1d, i_m1e, i_am1, i_ite0]
    exact ⟨q1, q3⟩
