/-! frames of the store's own changes -/
theorem wf.ne {T : TS} (hw : wf T) {a b : Nat} (h : tK T a ≠ 0) (hb : tn T ≤ b) : a ≠ b := by
  rintro rfl
  exact h (hw a hb)
theorem fr_nO {W : Nat → Prop} {c : Nat} {T : TS} (hw : wf T) : fr W 1 (NN c) T (nO c T) := by
  refine ⟨fun a ha => ?_, Nat.le_succ _, Nat.le_refl _, Nat.le_add_right _ _, Nat.le_refl _, fun a ha _ => ce_nO (hw.ne ha (Nat.le_refl _))⟩
  have h9 : tn T + 1 ≤ a := ha
  rw [tK_nO, up1_nea (by omega)]
  exact hw a (by omega)
theorem fr_nA {W : Nat → Prop} {k n : Nat} {T : TS} (hw : wf T) : fr W 1 n T (nA k n T) := by
  refine ⟨fun a ha => ?_, Nat.le_succ _, Nat.le_refl _, Nat.le_add_right _ _, Nat.le_refl _, fun a ha _ => ce_nA (hw.ne ha (Nat.le_refl _))⟩
  have h9 : tn T + 1 ≤ a := ha
  rw [tK_nA, up1_nea (by omega)]
  exact hw a (by omega)
theorem fr_sI {W : Nat → Prop} {f a : Nat} {v : Int32} {T : TS} (hw : wf T) (h : W a) : fr W 0 0 T (sI f a v T) :=
  ⟨hw, Nat.le_refl _, Nat.le_refl _, Nat.le_refl _, Nat.le_refl _, fun b _ hn => ce_sI (fun e => hn (e ▸ h))⟩
theorem fr_sR {W : Nat → Prop} {f a : Nat} {v : Option Nat} {T : TS} (hw : wf T) (h : W a) : fr W 0 0 T (sR f a v T) :=
  ⟨hw, Nat.le_refl _, Nat.le_refl _, Nat.le_refl _, Nat.le_refl _, fun b _ hn => ce_sR (fun e => hn (e ▸ h))⟩
theorem fr_sA {W : Nat → Prop} {a i : Nat} {v : Int32} {T : TS} (hw : wf T) (h : W a) : fr W 0 0 T (sA a i v T) :=
  ⟨hw, Nat.le_refl _, Nat.le_refl _, Nat.le_refl _, Nat.le_refl _, fun b _ hn => ce_sA (fun e => hn (e ▸ h))⟩
theorem fr_sJ {W : Nat → Prop} {a i : Nat} {v : Int64} {T : TS} (hw : wf T) (h : W a) : fr W 0 0 T (sJ a i v T) :=
  ⟨hw, Nat.le_refl _, Nat.le_refl _, Nat.le_refl _, Nat.le_refl _, fun b _ hn => ce_sJ (fun e => hn (e ▸ h))⟩
theorem fr_sL {W : Nat → Prop} {a : Nat} {xs : List Nat} {T : TS} (hw : wf T) (h : W a) : fr W 0 0 T (sL a xs T) :=
  ⟨hw, Nat.le_refl _, Nat.le_refl _, Nat.le_refl _, Nat.le_refl _, fun b _ hn => ce_sL (fun e => hn (e ▸ h))⟩
theorem fr_nL {W : Nat → Prop} {a : Nat} {T : TS} (hw : wf T) (h : W a) (ha : a < tn T) : fr W 0 0 T (nL a T) := by
  refine ⟨fun b hb => ?_, Nat.le_refl _, Nat.le_refl _, Nat.le_refl _, Nat.le_refl _, fun b _ hn => ce_nL (fun e => hn (e ▸ h))⟩
  have h9 : tn T ≤ b := hb
  rw [tK_nL, up1_nea (by omega)]
  exact hw b h9
theorem wf.mono {T : TS} (hw : wf T) : ∀ a, tn T + 1 ≤ a → tK T a = 0 := fun a ha => hw a (by omega)
/-- a list that grows when it is full -/
theorem fr_fit {W : Nat → Prop} {a : Nat} {T : TS} (hw : wf T) (h : W a) : fr W (if (tL T a).length = tc T a then 1 else 0) (if (tL T a).length = tc T a then lcap (tc T a) else 0) T (fit a T) := by
  unfold fit
  by_cases e : (tL T a).length = tc T a
  · rw [if_pos e, if_pos e, if_pos e]
    exact ⟨hw.mono, Nat.le_succ _, Nat.le_refl _, Nat.le_add_right _ _, Nat.le_refl _, fun b _ hn => ce_gL (fun e => hn (e ▸ h))⟩
  · rw [if_neg e, if_neg e, if_neg e]
    exact fr.rf hw
theorem fr.by {W : Nat → Prop} {n u n' u' : Nat} {T T' : TS} (h : fr W n u T T') (hn : n ≤ n') (hu : u ≤ u') : fr W n' u' T T' := h.wd hn hu (fun _ _ q => q)
/-- one after the other, the same W -/
theorem fr.th {W : Nat → Prop} {n u n' u' : Nat} {T T' T'' : TS} (h : fr W n u T T') (h' : fr W n' u' T' T'') : fr W (n + n') (u + u') T T'' := h.tr h' (fun _ _ q => q)
/-- what is new may be written -/
theorem fr.nw {W W' : Nat → Prop} {n u n' u' : Nat} {T T' T'' : TS} (hw : wf T) (h : fr W n u T T') (h' : fr W' n' u' T' T'') (hq : ∀ a, W' a → W a ∨ tn T ≤ a) : fr W (n + n') (u + u') T T'' := h.tr h' (fun a ha q => by
  rcases hq a q with h1 | h1
  · exact h1
  · exact absurd (hw a h1) ha)
theorem fit_L (a : Nat) (T : TS) : tL (fit a T) = tL T := by
  unfold fit; split <;> rfl
theorem fit_K (a : Nat) (T : TS) : tK (fit a T) = tK T := by
  unfold fit; split <;> rfl
theorem fit_I (a : Nat) (T : TS) : tI (fit a T) = tI T := by
  unfold fit; split <;> rfl
theorem fit_R (a : Nat) (T : TS) : tR (fit a T) = tR T := by
  unfold fit; split <;> rfl
theorem fit_A (a : Nat) (T : TS) : tA (fit a T) = tA T := by
  unfold fit; split <;> rfl
theorem fit_l (a : Nat) (T : TS) : tl (fit a T) = tl T := by
  unfold fit; split <;> rfl
theorem fit_c (a : Nat) (T : TS) : tc (fit a T) a = if (tL T a).length = tc T a then lcap (tc T a) else tc T a := by
  unfold fit
  by_cases e : (tL T a).length = tc T a
  · rw [if_pos e, if_pos e, tc_gL, up1_e, if_pos rfl]
  · rw [if_neg e, if_neg e]
/-- a new row -/
def newRow (n : Nat) (T : TS) : TS := sI 129 (tn T) (nI 0) (sR 128 (tn T) (some (tn T + 1)) (nA 20 n (nO 4 T)))
theorem newRow_is {n : Nat} {T : TS} (hn : n ≤ 1000000) : rowIs (newRow n T) (tn T) [] n := by
  unfold newRow
  refine ⟨?_, ?_, ?_, ?_, ?_, Nat.zero_le _, hn, fun i hi => absurd hi (Nat.not_lt_zero i)⟩
  all_goals simp only [tK_sI, tR_sI, tI_sI, tK_sR, tR_sR, tK_nA, tn_nO, up1_e, up2_e, tl_sI, tl_sR, tl_nA, tK_nO, and_self, if_true]
  · rw [if_neg (by omega)]
  · rfl
theorem newRow_fr {W : Nat → Prop} {n : Nat} {T : TS} (hw : wf T) : fr W 2 (n + 2) T (newRow n T) := by
  unfold newRow
  have f1 := fr_nO (W := W) (c := 4) hw
  have f2 := fr_nA (W := W) (k := 20) (n := n) f1.ok
  have f3 := f1.th f2
  have f4 := f3.nw hw (fr_sR (W := fun a => a = tn T) (f := 128) (a := tn T) (v := some (tn T + 1)) f3.ok rfl) (fun a e => Or.inr (Nat.le_of_eq e.symm))
  have f5 := f4.nw hw (fr_sI (W := fun a => a = tn T) (f := 129) (a := tn T) (v := nI 0) f4.ok rfl) (fun a e => Or.inr (Nat.le_of_eq e.symm))
  exact f5.by (Nat.le_refl _) (by show 2 + n + 0 + 0 ≤ n + 2; omega)
theorem tn_newRow (n : Nat) (T : TS) : tn (newRow n T) = tn T + 2 := rfl
/-- a new list -/
def newList (T : TS) : TS := nL (tn T) (nO 0 T)
theorem cqL_newO {d a : Nat} {T : TS} {Q : Post} (h : a = tn T) : CallQ (d + 1) 0 [.ref a] (nO 0 T) Q ↔ Q (.inl none) (newList T) := by
  subst h
  refine cqL_new ?_ ?_ ?_ ?_
  · rw [tK_nO, up1_e, if_pos rfl]
  · rw [tI_nO]; simp
  · rw [tR_nO]; simp
  · rw [tI_nO]; simp
theorem newList_is (T : TS) : tK (newList T) (tn T) = 23 ∧ tL (newList T) (tn T) = [] ∧ tc (newList T) (tn T) = 0 := by
  unfold newList
  rw [tK_nL, tL_nL, tc_nL, up1_e, up1_e, up1_e, if_pos rfl, if_pos rfl, if_pos rfl]
  exact ⟨rfl, rfl, rfl⟩
theorem newList_fr {W : Nat → Prop} {T : TS} (hw : wf T) : fr W 1 3 T (newList T) := by
  have f1 := fr_nO (W := W) (c := 0) hw
  have f2 := f1.nw hw (fr_nL (W := fun a => a = tn T) (a := tn T) f1.ok rfl (Nat.lt_succ_self _)) (fun a e => Or.inr (Nat.le_of_eq e.symm))
  exact f2
theorem tn_newList (T : TS) : tn (newList T) = tn T + 1 := rfl
