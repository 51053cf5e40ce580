/-! DedupVault$Shelf: empty -/
section EMP
variable {d s : Nat} {ba ca us : Nat → Nat} {cb : Nat → List Nat} {bl cs : List Nat} {co : Nat → List Nat} {op hi re st : Nat} {T : TS}
abbrev BX : Type := List Nat × (Nat → List Nat) × Nat
/-- a chunk is put behind the others: the containers then -/
def pS (cb : Nat → List Nat) (S : BX) (n : Nat) : BX := (blF cb S.2.1 S.2.2 (cb n).length S.1, up1 (coF cb S.2.1 S.2.2 (cb n).length) (opF cb S.2.1 S.2.2 (cb n).length) (coF cb S.2.1 S.2.2 (cb n).length (opF cb S.2.1 S.2.2 (cb n).length) ++ [n]), opF cb S.2.1 S.2.2 (cb n).length)
def pSs (cb : Nat → List Nat) (S : BX) (ms : List Nat) : BX := ms.foldl (pS cb) S
theorem pSs_s {cb : Nat → List Nat} {S : BX} {ms : List Nat} {k : Nat} (h : k < ms.length) : pSs cb S (ms.take (k + 1)) = pS cb (pSs cb S (ms.take k)) (ms.getD k 0) := by
  unfold pSs
  rw [take_s h, List.foldl_append]
  rfl
theorem opF_ge (cb : Nat → List Nat) (co : Nat → List Nat) (op m : Nat) : op ≤ opF cb co op m := by
  unfold opF
  split <;> omega
/-- openFor and put of one chunk, as the shelf sees it -/
theorem put1 {c n : Nat} (hc0 : c = ca n) (hw : wf T) (h : SH T s ba ca cb us bl co op cs hi re st) (hc : chk T (ca n) n (cb n) (us n)) (hn : ∀ k ∈ bl, n ∉ co k) (hl1 : 1 ≤ (cb n).length) (h128 : (cb n).length ≤ 128) (hop : op + 1 < 1000000) (hbl : bl.length < 1500) (hcs : ∀ k ∈ cs, k ≤ op) (hne : (co op).length ≤ byS cb (co op)) : ∃ (ba1 : Nat → Nat) (T1 T2 : TS), Call (d + 3) 58 [.ref s, .ref (ca n + 3)] T (.inl (some (.ref (ba1 (opF cb co op (cb n).length))))) T1 ∧ fr (fun a => a = s ∨ a = s + 1) 3 2256 T T1 ∧ Call (d + 2) 25 [.ref (ba1 (opF cb co op (cb n).length)), .ref (ca n)] T1 (.inl none) T2 ∧ tK T1 (ba1 (opF cb co op (cb n).length)) = 3 ∧ (∀ k, k ≤ op → ba1 k = ba k) ∧ SH T2 s ba1 ca cb us (pS cb (bl, co, op) n).1 (pS cb (bl, co, op) n).2.1 (pS cb (bl, co, op) n).2.2 cs hi re st ∧ fr (fun a => shM s ba ca bl co a ∨ a = ca n) 11 2730 T T2 ∧ am 0 0 T T2 (ba op) (ba1 (opF cb co op (cb n).length)) op (opF cb co op (cb n).length) ∧ ∀ a, shM s ba1 ca (pS cb (bl, co, op) n).1 (pS cb (bl, co, op) n).2.1 a → shM s ba ca bl co a ∨ a = ca n ∨ tn T ≤ a := by
  obtain ⟨_, T1, hc1, ba1, rfl, g0, g1, g2, g3, g4, g5⟩ := C_openFor (d := d) hw h hc.2.2.2.2.1 h128 hop hbl hcs
  have hnF : ∀ k ∈ blF cb co op (cb n).length bl, n ∉ coF cb co op (cb n).length k := by
    unfold blF coF
    split
    · exact hn
    · intro k hk q
      rcases List.mem_append.mp hk with hk | hk
      · have hk' : k ≠ op + 1 := fun e => h.notin (by rw [← e]; exact hk)
        rw [mem_up hk'] at q
        exact hn k hk q
      · rw [List.mem_singleton] at hk
        subst hk
        rw [up1_e, if_pos rfl] at q
        nomatch q
  have hlF : (coF cb co op (cb n).length (opF cb co op (cb n).length)).length < 128 := by
    revert g2
    unfold coF opF
    split
    · intro g2; omega
    · intro _
      rw [up1_e, if_pos rfl]
      show 0 < 128
      omega
  have e1 : (pS cb (bl, co, op) n).1 = blF cb co op (cb n).length bl := rfl
  have e2 : (pS cb (bl, co, op) n).2.1 = up1 (coF cb co op (cb n).length) (opF cb co op (cb n).length) (coF cb co op (cb n).length (opF cb co op (cb n).length) ++ [n]) := rfl
  have e3 : (pS cb (bl, co, op) n).2.2 = opF cb co op (cb n).length := rfl
  rw [e1, e2, e3]
  generalize blF cb co op (cb n).length bl = bl1 at *
  generalize coF cb co op (cb n).length = co1 at *
  generalize opF cb co op (cb n).length = op1 at *
  obtain ⟨s1, s2, s3⟩ := h.ks
  have c0 : cell T1 (ca n) = cell T (ca n) := g3.ce hc.1 (fun e => e.elim (neK hc.1 s1 (by decide)) (neK hc.1 s2 (by decide)))
  have cK1 := hc.2.2.2.2.1.2.2.2.2.choose_spec.choose_spec.choose_spec.2.1.1
  have cK2 := hc.2.2.2.2.1.2.2.2.2.choose_spec.choose_spec.choose_spec.2.1.2.2.2.1
  have cK3 := hc.2.2.2.2.1.1
  have hc' := hc.of c0 (g3.ce cK1 (fun e => e.elim (neK cK1 s1 (by decide)) (neK cK1 s2 (by decide)))) (g3.ce (a := ca n + 2) (k := 19) cK2 (fun e => e.elim (neK cK2 s1 (by decide)) (neK cK2 s2 (by decide)))) (g3.ce cK3 (fun e => e.elim (neK cK3 s1 (by decide)) (neK cK3 s2 (by decide))))
  obtain ⟨k5, a1, a2, F5⟩ := SH_put (n := n) g3.ok g1 hc' hnF g2 hlF
  obtain ⟨⟨q1, q2, q3⟩, q4, q5, q6, q7, q8, -⟩ := (g1.2.2.1 op1 g1.2.2.2.1).1
  have hput := C_X1_put (d := d) q1 q2 q3 q5 hc'
  refine ⟨ba1, T1, _, hc1, g3, hput, q1, g0, k5, ?_, ?_, ?_⟩
  · have g3' := g3.wd (W' := fun a => shM s ba ca bl co a ∨ a = ca n) (Nat.le_refl _) (Nat.le_refl _) (fun a _ q => by rcases q with q | q; exact Or.inl (Or.inl q); exact Or.inl (Or.inr (Or.inl q)))
    have hdo : ∀ a, (a = ba1 op1 ∨ a = ba1 op1 + 1 ∨ a = ca n) → (shM s ba ca bl co a ∨ a = ca n) ∨ tn T ≤ a := by
      rintro a (q | q | q)
      · exact (g5 a (Or.inr (Or.inr (Or.inr ⟨op1, g1.2.2.2.1, Or.inl q⟩)))).elim (fun h => Or.inl (Or.inl h)) Or.inr
      · exact (g5 a (Or.inr (Or.inr (Or.inr ⟨op1, g1.2.2.2.1, Or.inr (Or.inl q)⟩)))).elim (fun h => Or.inl (Or.inl h)) Or.inr
      · exact Or.inl (Or.inr q)
    have G := g3'.nw hw F5 hdo
    have b1 := gcl_le (tc (putS (ba1 op1) (ca n) (byS cb (co1 op1)) (cb n).length ((co1 op1).map ca) T1) (ba1 op1 + 1))
    have b2 := gsl_le (tc (putS (ba1 op1) (ca n) (byS cb (co1 op1)) (cb n).length ((co1 op1).map ca) T1) (ba1 op1 + 1))
    exact G.by (by omega) (by omega)
  · have m2 : am 0 0 T1 (putS (ba1 op1) (ca n) (byS cb (co1 op1)) (cb n).length ((co1 op1).map ca) T1) (ba1 op1) (ba1 op1) op1 op1 := by
      obtain ⟨-, b1, b2, b3, b4, -⟩ := F5
      constructor <;> omega
    exact (g4.tr m2).by (by omega) (by omega)
  · rintro a (q | q | q | ⟨k, hk, q⟩)
    · exact Or.inl (Or.inl q)
    · exact Or.inl (Or.inr (Or.inl q))
    · exact Or.inl (Or.inr (Or.inr (Or.inl q)))
    · have lift : shM s ba1 ca bl1 co1 a → shM s ba ca bl co a ∨ a = ca n ∨ tn T ≤ a := fun q => (g5 a q).elim Or.inl (fun h => Or.inr (Or.inr h))
      rcases q with q | q | ⟨n', hn', q⟩
      · exact lift (Or.inr (Or.inr (Or.inr ⟨k, hk, Or.inl q⟩)))
      · exact lift (Or.inr (Or.inr (Or.inr ⟨k, hk, Or.inr (Or.inl q)⟩)))
      · by_cases e : k = op1
        · rw [e, up1_e, if_pos rfl] at hn'
          rcases List.mem_append.mp hn' with hn' | hn'
          · exact lift (Or.inr (Or.inr (Or.inr ⟨k, hk, Or.inr (Or.inr ⟨n', by rw [e]; exact hn', q⟩)⟩)))
          · rw [List.mem_singleton] at hn'
            rw [hn'] at q
            exact Or.inr (Or.inl q)
        · rw [mem_up e] at hn'
          exact lift (Or.inr (Or.inr (Or.inr ⟨k, hk, Or.inr (Or.inr ⟨n', hn', q⟩)⟩)))
end EMP
