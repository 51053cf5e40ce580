/-! DedupVault: save, put together -/
section SA4
variable {d X : Nat} {va ba ca : Nat → Nat} {dr kl : List Nat} {vf vn : Nat → Nat} {vb ve : Nat → List Nat} {vp : Nat → Option Nat} {nx : Nat → Nat} {sv : Nat} {cb : Nat → List Nat} {us : Nat → Nat} {bl cs : List Nat} {co : Nat → List Nat} {op hi re st : Nat} {T : TS}
/-- the state behind the pieces -/
def zEnd (dr : List Nat) (cb : Nat → List Nat) (us : Nat → Nat) (bl : List Nat) (co : Nat → List Nat) (op : Nat) (cs : List Nat) (hi re st : Nat) : ZS := zSn (pbs dr) (Z0 cb us bl co op cs hi re st) (cuts dr 0).length
theorem X_save3 {j z : Nat} (hw : wf T) (h : XR T X va ba ca dr kl vf vn vb ve vp nx sv cb us bl co op cs hi re st) (hj : j < 6) (hl : kl.length < 20) (hsv : sv < 512) (hnx : nx j < 999999) (hfr : ∀ k ∈ bl, ∀ n ∈ co k, n < st) (hzz : z ∉ kl) (hz : ∀ m, m < (cuts dr 0).length → zOK (zSn (pbs dr) (Z0 cb us bl co op cs hi re st) m) (pbs dr m)) :
    CallQ (d + 8) 87 [.ref X, .int (nI j)] T (fun q T' => q = .inl (some (.int (nI (nx j)))) ∧ ∃ (ba1 ca1 : Nat → Nat) (v : Nat), XR T' X (up1 va z v) ba1 ca1 dr (kl ++ [z]) (up1 vf z j) (up1 vn z (nx j)) (up1 vb z dr) (up1 ve z (zes (zEnd dr cb us bl co op cs hi re st))) (up1 vp z (newB kl vf ve vp j (zes (zEnd dr cb us bl co op cs hi re st)))) (up1 nx j (nx j + 1)) (sv + 1) (zcb (zEnd dr cb us bl co op cs hi re st)) (zus (zEnd dr cb us bl co op cs hi re st)) (zbl (zEnd dr cb us bl co op cs hi re st)) (zco (zEnd dr cb us bl co op cs hi re st)) (zop (zEnd dr cb us bl co op cs hi re st)) (zcs (zEnd dr cb us bl co op cs hi re st)) (zhi (zEnd dr cb us bl co op cs hi re st)) (zre (zEnd dr cb us bl co op cs hi re st)) (zst (zEnd dr cb us bl co op cs hi re st)) ∧ (∃ n u, fr (fun a => shM (X + 5) ba ca bl co a ∨ a = X ∨ a = X + 3 ∨ a = X + 4) n u T T') ∧ am 209 3355 T T' (ba op) (ba1 (zop (zEnd dr cb us bl co op cs hi re st))) op (zop (zEnd dr cb us bl co op cs hi re st))) := by
  obtain ⟨ba1, ca1, T3, g1, g2, ⟨n0, u0, g3⟩, g4, g5, L, l5, g6⟩ := save_loop (d := d) hw h hj hl hsv hfr hz
  have hlen := cuts_len (xs := dr) 0
  have hl0 := h.2.1.1.2.2.2.2.2.1
  have hel := (zSn_mono (pbs dr) (Z0 cb us bl co op cs hi re st) (cuts dr 0).length).2.2
  have he0 : (zes (Z0 cb us bl co op cs hi re st)).length = 0 := rfl
  have eZ : zSn (pbs dr) (Z0 cb us bl co op cs hi re st) (cuts dr 0).length = zEnd dr cb us bl co op cs hi re st := rfl
  rw [eZ] at g1 g2 g4 g5 hel
  have x1 := h.1.1
  have hK := h.2.2.2.1.1.1.1
  have lX := hw.lt x1
  have lX3 := hw.lt hK
  have h4' := g1.2.2.2.2.1
  have nsh : ¬ shD (X + 5) ba1 ca1 (zbl (zEnd dr cb us bl co op cs hi re st)) (zcs (zEnd dr cb us bl co op cs hi re st)) (zco (zEnd dr cb us bl co op cs hi re st)) (tn T) := h4'.notK (Or.inl g2.1)
  obtain ⟨T7, e1, e2, e3, e4⟩ := save_end (d := d) (L := L) (l5 := l5) (z := z) g3.ok g1 g2 hj hl hsv hnx g5 (by omega) hzz (fun k hk q => by
    have := (h.2.2.2.1.1.2 k hk).1.1
    have := hw.lt this
    omega) (by omega) nsh
  have FF : fr (fun a => shM (X + 5) ba ca bl co a ∨ a = X ∨ a = X + 3 ∨ a = X + 4) (n0 + 8) (u0 + 474) T T7 := (g3.wd (W' := fun a => shM (X + 5) ba ca bl co a ∨ a = X ∨ a = X + 3 ∨ a = X + 4) (Nat.le_refl _) (Nat.le_refl _) (fun a _ q => Or.inl q)).nw hw e2 (fun a q => by
    rcases q with q | q
    · exact Or.inr (by omega)
    · exact Or.inl (Or.inr q))
  refine CallQ.mono (g6 _ (e4 (fun q T' => q = .inl (some (.int (nI (nx j)))) ∧ T' = T7) ⟨rfl, rfl⟩)) ?_
  rintro q T' ⟨rfl, rfl⟩
  exact ⟨rfl, ba1, ca1, tn T, e1, ⟨_, _, FF⟩, (g4.tr (am_fr e2 e3)).by (by omega) (by omega)⟩
end SA4
