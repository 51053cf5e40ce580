/-! DedupVault: save, a piece -/
section SAV
variable {d s v : Nat} {ba ca us : Nat → Nat} {cb : Nat → List Nat} {bl cs : List Nat} {co : Nat → List Nat} {op hi re st : Nat} {T : TS}
abbrev ZS : Type := (Nat → List Nat) × (Nat → Nat) × List Nat × (Nat → List Nat) × Nat × List Nat × Nat × Nat × Nat × List Nat
def zcb (Z : ZS) := Z.1
def zus (Z : ZS) := Z.2.1
def zbl (Z : ZS) := Z.2.2.1
def zco (Z : ZS) := Z.2.2.2.1
def zop (Z : ZS) := Z.2.2.2.2.1
def zcs (Z : ZS) := Z.2.2.2.2.2.1
def zhi (Z : ZS) := Z.2.2.2.2.2.2.1
def zre (Z : ZS) := Z.2.2.2.2.2.2.2.1
def zst (Z : ZS) := Z.2.2.2.2.2.2.2.2.1
def zes (Z : ZS) := Z.2.2.2.2.2.2.2.2.2
/-- one piece is saved -/
def zS (Z : ZS) (bs : List Nat) : ZS :=
  match (zcs Z).findSome? (fin (zcb Z) (zco Z) bs) with
  | some n => (zcb Z, up1 (zus Z) n (zus Z n + 1), zbl Z, zco Z, zop Z, useC (cOf (zbl Z) (zco Z) n) (zcs Z), zhi Z + 1, zre Z, zst Z, zes Z ++ [n])
  | none => match (zbl Z).findSome? (fin (zcb Z) (zco Z) bs) with
    | some n => (zcb Z, up1 (zus Z) n (zus Z n + 1), zbl Z, zco Z, zop Z, useC (cOf (zbl Z) (zco Z) n) (zcs Z), zhi Z, zre Z + 1, zst Z, zes Z ++ [n])
    | none => (up1 (zcb Z) (zst Z) bs, up1 (zus Z) (zst Z) 1, blF (up1 (zcb Z) (zst Z) bs) (zco Z) (zop Z) bs.length (zbl Z), up1 (coF (up1 (zcb Z) (zst Z) bs) (zco Z) (zop Z) bs.length) (opF (up1 (zcb Z) (zst Z) bs) (zco Z) (zop Z) bs.length) (coF (up1 (zcb Z) (zst Z) bs) (zco Z) (zop Z) bs.length (opF (up1 (zcb Z) (zst Z) bs) (zco Z) (zop Z) bs.length) ++ [zst Z]), opF (up1 (zcb Z) (zst Z) bs) (zco Z) (zop Z) bs.length, useC (opF (up1 (zcb Z) (zst Z) bs) (zco Z) (zop Z) bs.length) (zcs Z), zhi Z, zre Z + 1, zst Z + 1, zes Z ++ [zst Z])
/-- what a piece wants -/
def zOK (Z : ZS) (bs : List Nat) : Prop := (∀ k ∈ zcs Z, k ∈ zbl Z) ∧ zhi Z + 1 < 1000000 ∧ zre Z + 1 < 1000000 ∧ 1 ≤ bs.length ∧ bs.length ≤ 128 ∧ zop Z + 1 < 1000000 ∧ (zbl Z).length < 1500 ∧ zst Z + 1 < 1000000 ∧ (∀ k ∈ zbl Z, ∀ n ∈ zco Z k, n < zst Z) ∧ (zco Z (zop Z)).length ≤ byS (zcb Z) (zco Z (zop Z)) ∧ (zes Z).length < 128 ∧ (∀ n ∈ zes Z, ∃ k ∈ zbl Z, n ∈ zco Z k) ∧ ∀ k ∈ zbl Z, ∀ n ∈ zco Z k, zus Z n + 1 < 1000000
def SZ (T : TS) (s : Nat) (ba ca : Nat → Nat) (Z : ZS) : Prop := SH T s ba ca (zcb Z) (zus Z) (zbl Z) (zco Z) (zop Z) (zcs Z) (zhi Z) (zre Z) (zst Z)
theorem fs_mem {bs : List Nat} {n : Nat} {ks : List Nat} (h : ks.findSome? (fin cb co bs) = some n) : ∃ k ∈ ks, n ∈ co k ∧ cb n = bs := by
  obtain ⟨k, hk, h⟩ := List.exists_of_findSome?_eq_some h
  unfold fin at h
  have h1 := List.mem_of_find?_eq_some h
  have h2 := List.find?_some h
  simp only [decide_eq_true_eq] at h2
  exact ⟨k, hk, h1, h2⟩
theorem cOf_is' (h : SH T s ba ca cb us bl co op cs hi re st) {k n : Nat} (hk : k ∈ bl) (hn : n ∈ co k) : cOf bl co n = k := by
  unfold cOf
  cases e : bl.find? (fun k => decide (n ∈ co k)) with
  | none =>
    have := List.find?_eq_none.mp e k hk
    simp only [decide_eq_true_eq] at this
    exact absurd hn this
  | some k' =>
    have h1 := List.mem_of_find?_eq_some e
    have h2 := List.find?_some e
    simp only [decide_eq_true_eq] at h2
    exact (h.ni h1 h2 hk hn rfl).2
/-- chunkFor, whatever it does; c is the chunk's number -/
theorem zFor {p r : Nat} {bs : List Nat} {Z : ZS} (hw : wf T) (h : SZ T s ba ca Z) (hp : pcs T p r bs) (hz : zOK Z bs) : ∃ (ba1 ca1 : Nat → Nat) (n : Nat) (us1 : Nat → Nat) (T1 : TS), Call (d + 6) 55 [.ref s, .ref p] T (.inl (some (.ref (ca1 n)))) T1 ∧ (∀ k, k ≤ zop Z → ba1 k = ba k) ∧ (∀ n, n < zst Z → ca1 n = ca n) ∧ SH T1 s ba1 ca1 (zcb (zS Z bs)) us1 (zbl (zS Z bs)) (zco (zS Z bs)) (zop (zS Z bs)) (zcs (zS Z bs)) (zhi (zS Z bs)) (zre (zS Z bs)) (zst (zS Z bs)) ∧ zus (zS Z bs) = up1 us1 n (us1 n + 1) ∧ us1 n + 1 < 1000000 ∧ zes (zS Z bs) = zes Z ++ [n] ∧ (∃ k ∈ zbl (zS Z bs), n ∈ zco (zS Z bs) k) ∧ (∃ n u, fr (shM s ba ca (zbl Z) (zco Z)) n u T T1) ∧ am 5 (20 + bs.length) T T1 (ba (zop Z)) (ba1 (zop (zS Z bs))) (zop Z) (zop (zS Z bs)) ∧ (∀ a, shM s ba1 ca1 (zbl (zS Z bs)) (zco (zS Z bs)) a → shM s ba ca (zbl Z) (zco Z) a ∨ tn T ≤ a) ∧ ∀ m, (∃ k ∈ zbl Z, m ∈ zco Z k) → ∃ k ∈ zbl (zS Z bs), m ∈ zco (zS Z bs) k := by
  obtain ⟨o1, o2, o3, o4, o5, o6, o7, o8, o9, o10, o11, o12, o13⟩ := hz
  have h := h
  unfold SZ at h
  have shm2 : ∀ a, (a = s ∨ a = s + 2) → shM s ba ca (zbl Z) (zco Z) a := fun a q => by
    rcases q with q | q
    · exact Or.inl q
    · exact Or.inr (Or.inr (Or.inl q))
  have tcE : ∀ {T1 n u}, fr (fun a => a = s ∨ a = s + 2) n u T T1 → tc T1 (ba (zop Z) + 1) = tc T (ba (zop Z) + 1) := fun F => ce_c (F.ce (k := 22) (h.kb h.2.2.2.1).2.1 (fun e => by
    rcases e with e | e
    · exact neK (h.kb h.2.2.2.1).2.1 h.ks.1 (by decide) e
    · exact neK (h.kb h.2.2.2.1).1 h.ks.2.1 (by decide) (by omega)))
  cases e1 : (zcs Z).findSome? (fin (zcb Z) (zco Z) bs) with
  | some n =>
    have ez : zS Z bs = (zcb Z, up1 (zus Z) n (zus Z n + 1), zbl Z, zco Z, zop Z, useC (cOf (zbl Z) (zco Z) n) (zcs Z), zhi Z + 1, zre Z, zst Z, zes Z ++ [n]) := by
      unfold zS; rw [e1]
    obtain ⟨k, hk, hn, -⟩ := fs_mem e1
    have hkb := o1 k hk
    have hc := cOf_is' h hkb hn
    rw [hc] at ez
    rw [ez]
    obtain ⟨_, T1, c1, rfl, g1, g2⟩ := C_forHit (d := d) hw h hp o1 o2 e1 hkb hn
    exact ⟨ba, ca, n, zus Z, T1, c1, fun _ _ => rfl, fun _ _ => rfl, g1, rfl, o13 k hkb n hn, rfl, ⟨k, hkb, hn⟩, ⟨_, _, g2.wd (Nat.le_refl _) (Nat.le_refl _) (fun a _ q => shm2 a q)⟩, (am_fr g2 (tcE g2)).by (by omega) (by omega), fun a q => Or.inl q, fun m hm => hm⟩
  | none =>
    cases e2 : (zbl Z).findSome? (fin (zcb Z) (zco Z) bs) with
    | some n =>
      have ez : zS Z bs = (zcb Z, up1 (zus Z) n (zus Z n + 1), zbl Z, zco Z, zop Z, useC (cOf (zbl Z) (zco Z) n) (zcs Z), zhi Z, zre Z + 1, zst Z, zes Z ++ [n]) := by
        unfold zS; rw [e1]; simp only; rw [e2]
      obtain ⟨k, hkb, hn, -⟩ := fs_mem e2
      have hc := cOf_is' h hkb hn
      rw [hc] at ez
      rw [ez]
      obtain ⟨_, T1, c1, rfl, g1, g2⟩ := C_forRead (d := d) hw h hp o1 o3 e1 e2 hkb hn
      exact ⟨ba, ca, n, zus Z, T1, c1, fun _ _ => rfl, fun _ _ => rfl, g1, rfl, o13 k hkb n hn, rfl, ⟨k, hkb, hn⟩, ⟨_, _, g2.wd (Nat.le_refl _) (Nat.le_refl _) (fun a _ q => shm2 a q)⟩, (am_fr g2 (tcE g2)).by (by omega) (by omega), fun a q => Or.inl q, fun m hm => hm⟩
    | none =>
      obtain ⟨cb', hcb'⟩ : ∃ cb', cb' = up1 (zcb Z) (zst Z) bs := ⟨_, rfl⟩
      have ez : zS Z bs = (cb', up1 (zus Z) (zst Z) 1, blF cb' (zco Z) (zop Z) bs.length (zbl Z), up1 (coF cb' (zco Z) (zop Z) bs.length) (opF cb' (zco Z) (zop Z) bs.length) (coF cb' (zco Z) (zop Z) bs.length (opF cb' (zco Z) (zop Z) bs.length) ++ [zst Z]), opF cb' (zco Z) (zop Z) bs.length, useC (opF cb' (zco Z) (zop Z) bs.length) (zcs Z), zhi Z, zre Z + 1, zst Z + 1, zes Z ++ [zst Z]) := by
        unfold zS; rw [e1]; simp only; rw [e2, hcb']
      have old : ∀ k ∈ zbl Z, ∀ n ∈ zco Z k, cb' n = zcb Z n := fun k hk n hn => by
        rw [hcb', up1_nea (by have := o9 k hk n hn; omega)]
      have ecb : cb' (zst Z) = bs := by rw [hcb', up1_e, if_pos rfl]
      have h' : SH T s ba ca cb' (up1 (zus Z) (zst Z) 0) (zbl Z) (zco Z) (zop Z) (zcs Z) (zhi Z) (zre Z) (zst Z) := h.ext (fun k hk n hn => ⟨rfl, old k hk n hn, up1_nea (by have := o9 k hk n hn; omega)⟩)
      have fE : ∀ ks : List Nat, (∀ k ∈ ks, k ∈ zbl Z) → ks.findSome? (fin cb' (zco Z) bs) = ks.findSome? (fin (zcb Z) (zco Z) bs) := by
        intro ks hks
        induction ks with
        | nil => rfl
        | cons k ks ih =>
          rw [List.findSome?_cons, List.findSome?_cons, ih (fun k hk => hks k (List.mem_cons_of_mem _ hk))]
          have : fin cb' (zco Z) bs k = fin (zcb Z) (zco Z) bs k := by
            unfold fin
            have hold := old k (hks k List.mem_cons_self)
            generalize zco Z k = ns at hold
            induction ns with
            | nil => rfl
            | cons n ns ih2 =>
              rw [List.find?_cons, List.find?_cons, hold n List.mem_cons_self, ih2 (fun n hn => hold n (List.mem_cons_of_mem _ hn))]
          rw [this]
      have byE : byS cb' (zco Z (zop Z)) = byS (zcb Z) (zco Z (zop Z)) := by
        unfold byS
        rw [List.map_congr_left (fun n hn => by rw [old _ h.2.2.2.1 n hn])]
      obtain ⟨_, T1, c1, ba1, ca1, rfl, g0, g0', g1, ⟨g2⟩⟩ := C_forNew (d := d) hw h' (by rw [ecb]; exact hp) o1 o3 (by rw [ecb, fE _ o1]; exact e1) (by rw [ecb, fE _ (fun k hk => hk)]; exact e2) (by rw [ecb]; exact o4) (by rw [ecb]; exact o5) (by rw [up1_e, if_pos rfl]) o6 o7 o8 o9 (by rw [byE]; exact o10)
      sorry
end SAV
