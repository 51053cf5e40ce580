/-! DedupVault: save, a piece -/
section SAV
variable {d s v : Nat} {ba ca us : Nat → Nat} {cb : Nat → List Nat} {bl cs : List Nat} {co : Nat → List Nat} {op hi re st : Nat} {T : TS}
abbrev ZS : Type := (Nat → List Nat) × (Nat → Nat) × List Nat × (Nat → List Nat) × Nat × List Nat × Nat × Nat × Nat × List Nat
def zcb (Z : ZS) := Z.1
def zus (Z : ZS) := Z.2.1
def zbl (Z : ZS) := Z.2.2.1
def zco (Z : ZS) := Z.2.2.2.1
def zop (Z : ZS) := Z.2.2.2.2.1
def zcs (Z : ZS) := Z.2.2.2.2.2.1
def zhi (Z : ZS) := Z.2.2.2.2.2.2.1
def zre (Z : ZS) := Z.2.2.2.2.2.2.2.1
def zst (Z : ZS) := Z.2.2.2.2.2.2.2.2.1
def zes (Z : ZS) := Z.2.2.2.2.2.2.2.2.2
/-- one piece is saved -/
def zS (Z : ZS) (bs : List Nat) : ZS :=
  match (zcs Z).findSome? (fin (zcb Z) (zco Z) bs) with
  | some n => (zcb Z, up1 (zus Z) n (zus Z n + 1), zbl Z, zco Z, zop Z, useC (cOf (zbl Z) (zco Z) n) (zcs Z), zhi Z + 1, zre Z, zst Z, zes Z ++ [n])
  | none => match (zbl Z).findSome? (fin (zcb Z) (zco Z) bs) with
    | some n => (zcb Z, up1 (zus Z) n (zus Z n + 1), zbl Z, zco Z, zop Z, useC (cOf (zbl Z) (zco Z) n) (zcs Z), zhi Z, zre Z + 1, zst Z, zes Z ++ [n])
    | none => (up1 (zcb Z) (zst Z) bs, up1 (zus Z) (zst Z) 1, blF (up1 (zcb Z) (zst Z) bs) (zco Z) (zop Z) bs.length (zbl Z), up1 (coF (up1 (zcb Z) (zst Z) bs) (zco Z) (zop Z) bs.length) (opF (up1 (zcb Z) (zst Z) bs) (zco Z) (zop Z) bs.length) (coF (up1 (zcb Z) (zst Z) bs) (zco Z) (zop Z) bs.length (opF (up1 (zcb Z) (zst Z) bs) (zco Z) (zop Z) bs.length) ++ [zst Z]), opF (up1 (zcb Z) (zst Z) bs) (zco Z) (zop Z) bs.length, useC (opF (up1 (zcb Z) (zst Z) bs) (zco Z) (zop Z) bs.length) (zcs Z), zhi Z, zre Z + 1, zst Z + 1, zes Z ++ [zst Z])
/-- what a piece wants -/
def zOK (Z : ZS) (bs : List Nat) : Prop := (∀ k ∈ zcs Z, k ∈ zbl Z) ∧ zhi Z + 1 < 1000000 ∧ zre Z + 1 < 1000000 ∧ 1 ≤ bs.length ∧ bs.length ≤ 128 ∧ zop Z + 1 < 1000000 ∧ (zbl Z).length < 1500 ∧ zst Z + 1 < 1000000 ∧ (∀ k ∈ zbl Z, ∀ n ∈ zco Z k, n < zst Z) ∧ (zco Z (zop Z)).length ≤ byS (zcb Z) (zco Z (zop Z)) ∧ (zes Z).length < 128 ∧ (∀ n ∈ zes Z, ∃ k ∈ zbl Z, n ∈ zco Z k) ∧ ∀ k ∈ zbl Z, ∀ n ∈ zco Z k, zus Z n + 1 < 1000000
def SZ (T : TS) (s : Nat) (ba ca : Nat → Nat) (Z : ZS) : Prop := SH T s ba ca (zcb Z) (zus Z) (zbl Z) (zco Z) (zop Z) (zcs Z) (zhi Z) (zre Z) (zst Z)
theorem keepF {cb : Nat → List Nat} {co : Nat → List Nat} {op m : Nat} {bl : List Nat} {k n x : Nat} (hno : op + 1 ∉ bl) (hk : k ∈ bl) (hn : n ∈ co k) : k ∈ blF cb co op m bl ∧ n ∈ up1 (coF cb co op m) (opF cb co op m) (coF cb co op m (opF cb co op m) ++ [x]) k := by
  have hk' : k ≠ op + 1 := fun e => hno (e ▸ hk)
  have h1 : k ∈ blF cb co op m bl := by
    unfold blF
    split
    · exact hk
    · exact List.mem_append_left _ hk
  have h2 : n ∈ coF cb co op m k := by
    unfold coF
    split
    · exact hn
    · rw [mem_up hk']; exact hn
  refine ⟨h1, ?_⟩
  by_cases e : k = opF cb co op m
  · rw [e, up1_e, if_pos rfl]
    exact List.mem_append_left _ (e ▸ h2)
  · rw [mem_up e]; exact h2
theorem fs_mem {bs : List Nat} {n : Nat} {ks : List Nat} (h : ks.findSome? (fin cb co bs) = some n) : ∃ k ∈ ks, n ∈ co k ∧ cb n = bs := by
  obtain ⟨k, hk, h⟩ := List.exists_of_findSome?_eq_some h
  unfold fin at h
  have h1 := List.mem_of_find?_eq_some h
  have h2 := List.find?_some h
  simp only [decide_eq_true_eq] at h2
  exact ⟨k, hk, h1, h2⟩
theorem cOf_is' (h : SH T s ba ca cb us bl co op cs hi re st) {k n : Nat} (hk : k ∈ bl) (hn : n ∈ co k) : cOf bl co n = k := by
  unfold cOf
  cases e : bl.find? (fun k => decide (n ∈ co k)) with
  | none =>
    have := List.find?_eq_none.mp e k hk
    simp only [decide_eq_true_eq] at this
    exact absurd hn this
  | some k' =>
    have h1 := List.mem_of_find?_eq_some e
    have h2 := List.find?_some e
    simp only [decide_eq_true_eq] at h2
    exact (h.ni h1 h2 hk hn rfl).2
/-- chunkFor, whatever it does; c is the chunk's number -/
theorem zFor {p r : Nat} {bs : List Nat} {Z : ZS} (hw : wf T) (h : SZ T s ba ca Z) (hp : pcs T p r bs) (hz : zOK Z bs) : ∃ (ba1 ca1 : Nat → Nat) (n : Nat) (us1 : Nat → Nat) (T1 : TS), Call (d + 6) 55 [.ref s, .ref p] T (.inl (some (.ref (ca1 n)))) T1 ∧ (∀ k, k ≤ zop Z → ba1 k = ba k) ∧ (∀ n, n < zst Z → ca1 n = ca n) ∧ SH T1 s ba1 ca1 (zcb (zS Z bs)) us1 (zbl (zS Z bs)) (zco (zS Z bs)) (zop (zS Z bs)) (zcs (zS Z bs)) (zhi (zS Z bs)) (zre (zS Z bs)) (zst (zS Z bs)) ∧ zus (zS Z bs) = up1 us1 n (us1 n + 1) ∧ us1 n + 1 < 1000000 ∧ zes (zS Z bs) = zes Z ++ [n] ∧ (∃ k ∈ zbl (zS Z bs), n ∈ zco (zS Z bs) k) ∧ (∃ n u, fr (shM s ba ca (zbl Z) (zco Z)) n u T T1) ∧ am 5 (20 + bs.length) T T1 (ba (zop Z)) (ba1 (zop (zS Z bs))) (zop Z) (zop (zS Z bs)) ∧ (∀ a, shM s ba1 ca1 (zbl (zS Z bs)) (zco (zS Z bs)) a → shM s ba ca (zbl Z) (zco Z) a ∨ tn T ≤ a) ∧ ∀ m, (∃ k ∈ zbl Z, m ∈ zco Z k) → ∃ k ∈ zbl (zS Z bs), m ∈ zco (zS Z bs) k := by
  obtain ⟨o1, o2, o3, o4, o5, o6, o7, o8, o9, o10, o11, o12, o13⟩ := hz
  have h := h
  unfold SZ at h
  have shm2 : ∀ a, (a = s ∨ a = s + 2) → shM s ba ca (zbl Z) (zco Z) a := fun a q => by
    rcases q with q | q
    · exact Or.inl q
    · exact Or.inr (Or.inr (Or.inl q))
  have tcE : ∀ {T1 n u}, fr (fun a => a = s ∨ a = s + 2) n u T T1 → tc T1 (ba (zop Z) + 1) = tc T (ba (zop Z) + 1) := fun F => ce_c (F.ce (k := 22) (h.kb h.2.2.2.1).2.1 (fun e => by
    rcases e with e | e
    · exact neK (h.kb h.2.2.2.1).2.1 h.ks.1 (by decide) e
    · exact neK (h.kb h.2.2.2.1).1 h.ks.2.1 (by decide) (by omega)))
  cases e1 : (zcs Z).findSome? (fin (zcb Z) (zco Z) bs) with
  | some n =>
    have ez : zS Z bs = (zcb Z, up1 (zus Z) n (zus Z n + 1), zbl Z, zco Z, zop Z, useC (cOf (zbl Z) (zco Z) n) (zcs Z), zhi Z + 1, zre Z, zst Z, zes Z ++ [n]) := by
      unfold zS; rw [e1]
    obtain ⟨k, hk, hn, -⟩ := fs_mem e1
    have hkb := o1 k hk
    have hc := cOf_is' h hkb hn
    rw [hc] at ez
    rw [ez]
    obtain ⟨_, T1, c1, rfl, g1, g2⟩ := C_forHit (d := d) hw h hp o1 o2 e1 hkb hn
    exact ⟨ba, ca, n, zus Z, T1, c1, fun _ _ => rfl, fun _ _ => rfl, g1, rfl, o13 k hkb n hn, rfl, ⟨k, hkb, hn⟩, ⟨_, _, g2.wd (Nat.le_refl _) (Nat.le_refl _) (fun a _ q => shm2 a q)⟩, (am_fr g2 (tcE g2)).by (by omega) (by omega), fun a q => Or.inl q, fun m hm => hm⟩
  | none =>
    cases e2 : (zbl Z).findSome? (fin (zcb Z) (zco Z) bs) with
    | some n =>
      have ez : zS Z bs = (zcb Z, up1 (zus Z) n (zus Z n + 1), zbl Z, zco Z, zop Z, useC (cOf (zbl Z) (zco Z) n) (zcs Z), zhi Z, zre Z + 1, zst Z, zes Z ++ [n]) := by
        unfold zS; rw [e1]; simp only; rw [e2]
      obtain ⟨k, hkb, hn, -⟩ := fs_mem e2
      have hc := cOf_is' h hkb hn
      rw [hc] at ez
      rw [ez]
      obtain ⟨_, T1, c1, rfl, g1, g2⟩ := C_forRead (d := d) hw h hp o1 o3 e1 e2 hkb hn
      exact ⟨ba, ca, n, zus Z, T1, c1, fun _ _ => rfl, fun _ _ => rfl, g1, rfl, o13 k hkb n hn, rfl, ⟨k, hkb, hn⟩, ⟨_, _, g2.wd (Nat.le_refl _) (Nat.le_refl _) (fun a _ q => shm2 a q)⟩, (am_fr g2 (tcE g2)).by (by omega) (by omega), fun a q => Or.inl q, fun m hm => hm⟩
    | none =>
      obtain ⟨cb', hcb'⟩ : ∃ cb', cb' = up1 (zcb Z) (zst Z) bs := ⟨_, rfl⟩
      have ez : zS Z bs = (cb', up1 (zus Z) (zst Z) 1, blF cb' (zco Z) (zop Z) bs.length (zbl Z), up1 (coF cb' (zco Z) (zop Z) bs.length) (opF cb' (zco Z) (zop Z) bs.length) (coF cb' (zco Z) (zop Z) bs.length (opF cb' (zco Z) (zop Z) bs.length) ++ [zst Z]), opF cb' (zco Z) (zop Z) bs.length, useC (opF cb' (zco Z) (zop Z) bs.length) (zcs Z), zhi Z, zre Z + 1, zst Z + 1, zes Z ++ [zst Z]) := by
        unfold zS; rw [e1]; simp only; rw [e2, hcb']
      have old : ∀ k ∈ zbl Z, ∀ n ∈ zco Z k, cb' n = zcb Z n := fun k hk n hn => by
        rw [hcb', up1_nea (by have := o9 k hk n hn; omega)]
      have ecb : cb' (zst Z) = bs := by rw [hcb', up1_e, if_pos rfl]
      have h' : SH T s ba ca cb' (up1 (zus Z) (zst Z) 0) (zbl Z) (zco Z) (zop Z) (zcs Z) (zhi Z) (zre Z) (zst Z) := h.ext (fun k hk n hn => ⟨rfl, old k hk n hn, up1_nea (by have := o9 k hk n hn; omega)⟩)
      have fE : ∀ ks : List Nat, (∀ k ∈ ks, k ∈ zbl Z) → ks.findSome? (fin cb' (zco Z) bs) = ks.findSome? (fin (zcb Z) (zco Z) bs) := by
        intro ks hks
        induction ks with
        | nil => rfl
        | cons k ks ih =>
          rw [List.findSome?_cons, List.findSome?_cons, ih (fun k hk => hks k (List.mem_cons_of_mem _ hk))]
          have : fin cb' (zco Z) bs k = fin (zcb Z) (zco Z) bs k := by
            unfold fin
            have hold := old k (hks k List.mem_cons_self)
            generalize zco Z k = ns at hold
            induction ns with
            | nil => rfl
            | cons n ns ih2 =>
              rw [List.find?_cons, List.find?_cons, hold n List.mem_cons_self, ih2 (fun n hn => hold n (List.mem_cons_of_mem _ hn))]
          rw [this]
      have byE : byS cb' (zco Z (zop Z)) = byS (zcb Z) (zco Z (zop Z)) := by
        unfold byS
        rw [List.map_congr_left (fun n hn => by rw [old _ h.2.2.2.1 n hn])]
      obtain ⟨_, T1, c1, ba1, ca1, rfl, g0, g0', g1, g2, g3, g4⟩ := C_forNew (d := d) hw h' (by rw [ecb]; exact hp) o1 o3 (by rw [ecb, fE _ o1]; exact e1) (by rw [ecb, fE _ (fun k hk => hk)]; exact e2) (by rw [ecb]; exact o4) (by rw [ecb]; exact o5) (by rw [up1_e, if_pos rfl]) o6 o7 o8 o9 (by rw [byE]; exact o10)
      rw [ecb] at g1 g3 g4
      rw [ez]
      have eus : up1 (zus Z) (zst Z) 1 = up1 (up1 (zus Z) (zst Z) 0) (zst Z) (up1 (zus Z) (zst Z) 0 (zst Z) + 1) := by
        funext y
        rw [up1_e, up1_e, up1_e, up1_e, if_pos rfl]
        split <;> rfl
      refine ⟨ba1, ca1, zst Z, up1 (zus Z) (zst Z) 0, T1, c1, g0, fun n hn => g0' n (by omega), g1, eus, by rw [up1_e, if_pos rfl]; omega, rfl, ⟨opF cb' (zco Z) (zop Z) bs.length, g1.2.2.2.1, ?_⟩, ⟨_, _, g2⟩, g3, g4, fun m hm => ?_⟩
      · show zst Z ∈ up1 _ _ _ _
        rw [up1_e, if_pos rfl]
        exact List.mem_append_right _ (List.mem_singleton.mpr rfl)
      · obtain ⟨k, hk, hn⟩ := hm
        obtain ⟨a1, a2⟩ := keepF (cb := cb') (m := bs.length) (x := zst Z) h'.notin hk hn
        exact ⟨k, a1, a2⟩
/-- a piece is saved: its chunk is found or stored, and is the version's next entry -/
theorem zStep {p r f n : Nat} {bs dr : List Nat} {Z : ZS} (hw : wf T) (h : SZ T s ba ca Z) (hp : pcs T p r bs) (hz : zOK Z bs) (hv : verR T v ca f n dr (zes Z) none) (hvs : ¬ shM s ba ca (zbl Z) (zco Z) (v + 3)) : ∃ (ba1 ca1 : Nat → Nat) (m : Nat) (T1 T2 : TS), Call (d + 6) 55 [.ref s, .ref p] T (.inl (some (.ref (ca1 m)))) T1 ∧ Call (d + 2) 70 [.ref v, .ref (ca1 m)] T1 (.inl none) T2 ∧ tK T1 v = 7 ∧ (∀ k, k ≤ zop Z → ba1 k = ba k) ∧ (∀ n, n < zst Z → ca1 n = ca n) ∧ SZ T2 s ba1 ca1 (zS Z bs) ∧ verR T2 v ca1 f n dr (zes (zS Z bs)) none ∧ (∃ n u, fr (fun a => shM s ba ca (zbl Z) (zco Z) a ∨ a = v + 3) n u T T2) ∧ (tn T2 + gcl (tc T (v + 3)) + gcl (tc T (ba (zop Z) + 1)) + 11 * zop Z ≤ tn T + 5 + gcl (tc T2 (v + 3)) + gcl (tc T2 (ba1 (zop (zS Z bs)) + 1)) + 11 * zop (zS Z bs) ∧ tu T2 + gsl (tc T (v + 3)) + gsl (tc T (ba (zop Z) + 1)) + 2740 * zop Z ≤ tu T + (20 + bs.length) + gsl (tc T2 (v + 3)) + gsl (tc T2 (ba1 (zop (zS Z bs)) + 1)) + 2740 * zop (zS Z bs)) ∧ (∀ a, shM s ba1 ca1 (zbl (zS Z bs)) (zco (zS Z bs)) a → shM s ba ca (zbl Z) (zco Z) a ∨ tn T ≤ a) ∧ ∀ n ∈ zes (zS Z bs), ∃ k ∈ zbl (zS Z bs), n ∈ zco (zS Z bs) k := by
  obtain ⟨ba1, ca1, m, us1, T1, c1, g0, g0', g1, g2, g3, g4, ⟨k1, hk1, hm1⟩, ⟨n1, u1, g6⟩, g7, g8, g9⟩ := zFor (d := d) hw h hp hz
  obtain ⟨v1, v2, v3, v4⟩ := hv.ks
  have hS : SH T s ba ca (zcb Z) (zus Z) (zbl Z) (zco Z) (zop Z) (zcs Z) (zhi Z) (zre Z) (zst Z) := h
  have nk : ∀ a, (tK T a = 7 ∨ tK T a = 5 ∨ tK T a = 20) → ¬ shM s ba ca (zbl Z) (zco Z) a := fun a ha q => by
    have := hS.km q
    omega
  have hv1 : verR T1 v ca f n dr (zes Z) none := hv.of (g6.ce v1 (nk _ (Or.inl v1))) (g6.ce v2 (nk _ (Or.inr (Or.inl v2)))) (g6.ce (a := v + 2) (k := 19) v3 (nk _ (Or.inr (Or.inr v3)))) (g6.ce v4 hvs)
  have hes : ∀ n ∈ zes Z, n < zst Z := fun n hn => by
    obtain ⟨k, hk, hkn⟩ := hz.2.2.2.2.2.2.2.2.2.2.2.1 n hn
    exact hz.2.2.2.2.2.2.2.2.1 k hk n hkn
  have hv2 : verR T1 v ca1 f n dr (zes Z) none := hv1.ext (fun n hn => g0' n (hes n hn))
  have ltv : v + 3 < tn T := hw.lt v4
  have hvs1 : ¬ shM s ba1 ca1 (zbl (zS Z bs)) (zco (zS Z bs)) (v + 3) := fun q => by
    rcases g8 _ q with q | q
    · exact hvs q
    · omega
  obtain ⟨_, T2, c2, rfl, e1, e2, e3, e4, e5⟩ := C_addEntry (d := d) g6.ok hv2 g1 ⟨fun q => hvs1 (Or.inr (Or.inl q)), fun q => hvs1 (Or.inr (Or.inr (Or.inl q))), fun k hk q => hvs1 (Or.inr (Or.inr (Or.inr ⟨k, hk, Or.inr (Or.inl q)⟩)))⟩ hk1 hm1 g3 hz.2.2.2.2.2.2.2.2.2.2.1
  have e0 : tc T1 (v + 3) = tc T (v + 3) := ce_c (g6.ce v4 hvs)
  have eo : tc T2 (ba1 (zop (zS Z bs)) + 1) = tc T1 (ba1 (zop (zS Z bs)) + 1) := by
    have hb := g1.kb g1.2.2.2.1
    have hmK := (g1.kn hk1 hm1).1
    refine ce_c (e5.ce (k := 22) hb.2.1 (fun q => ?_))
    rcases q with q | q
    · exact hvs1 (Or.inr (Or.inr (Or.inr ⟨_, g1.2.2.2.1, Or.inr (Or.inl q.symm)⟩)))
    · exact neK hb.2.1 hmK (by decide) q
  refine ⟨ba1, ca1, m, T1, T2, c1, c2, hv1.1, g0, g0', ?_, by rw [g4]; exact e1, ⟨_, _, (g6.wd (W' := fun a => shM s ba ca (zbl Z) (zco Z) a ∨ a = v + 3) (Nat.le_refl _) (Nat.le_refl _) (fun a _ q => Or.inl q)).nw hw e5 (fun a q => ?_)⟩, ?_, g8, fun n hn => ?_⟩
  · show SH _ _ _ _ _ (zus (zS Z bs)) _ _ _ _ _ _ _
    rw [g2]
    exact e2
  · rcases q with q | q
    · exact Or.inl (Or.inr q)
    · rcases g8 a (Or.inr (Or.inr (Or.inr ⟨k1, hk1, Or.inr (Or.inr ⟨m, hm1, q⟩)⟩))) with z | z
      · exact Or.inl (Or.inl z)
      · exact Or.inr z
  · obtain ⟨g71, g72⟩ := g7
    obtain ⟨-, f1, f2, f3, f4, -⟩ := e5
    rw [e0] at e3 e4 f2 f4
    rw [eo]
    constructor <;> omega
  · rw [g4] at hn
    rcases List.mem_append.mp hn with hn | hn
    · exact g9 n (hz.2.2.2.2.2.2.2.2.2.2.2.1 n hn)
    · rw [List.mem_singleton] at hn
      exact ⟨k1, hk1, hn ▸ hm1⟩
end SAV
