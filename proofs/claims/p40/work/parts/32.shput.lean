/-! a chunk is put into the open container -/
section SHP
variable {d s : Nat} {ba ca us : Nat → Nat} {cb : Nat → List Nat} {bl cs : List Nat} {co : Nat → List Nat} {op hi re st : Nat} {T : TS}
theorem byS_app (cb : Nat → List Nat) (ns : List Nat) (n : Nat) : byS cb (ns ++ [n]) = byS cb ns + (cb n).length := by
  unfold byS
  rw [List.map_append, List.sum_append]
  simp
theorem SH_put {n : Nat} (hw : wf T) (h : SH T s ba ca cb us bl co op cs hi re st) (hc : chk T (ca n) n (cb n) (us n)) (hn : ∀ k ∈ bl, n ∉ co k) (hb : byS cb (co op) + (cb n).length ≤ 128) (hl : (co op).length < 128) : SH (putS (ba op) (ca n) (byS cb (co op)) (cb n).length ((co op).map ca) T) s ba ca cb us bl (up1 co op (co op ++ [n])) op cs hi re st ∧ gcl (tc T (ba op + 1)) ≤ gcl (tc (putS (ba op) (ca n) (byS cb (co op)) (cb n).length ((co op).map ca) T) (ba op + 1)) ∧ gsl (tc T (ba op + 1)) ≤ gsl (tc (putS (ba op) (ca n) (byS cb (co op)) (cb n).length ((co op).map ca) T) (ba op + 1)) ∧ fr (fun a => a = ba op ∨ a = ba op + 1 ∨ a = ca n) (gcl (tc (putS (ba op) (ca n) (byS cb (co op)) (cb n).length ((co op).map ca) T) (ba op + 1)) - gcl (tc T (ba op + 1))) (gsl (tc (putS (ba op) (ca n) (byS cb (co op)) (cb n).length ((co op).map ca) T) (ba op + 1)) - gsl (tc T (ba op + 1))) T (putS (ba op) (ca n) (byS cb (co op)) (cb n).length ((co op).map ca) T) := by
  have hh := h
  obtain ⟨⟨h1, h2, h3, h4, h5, h6, h7⟩, ⟨l1, l2⟩, hbx, ho, hcc, z1, z2, z3⟩ := h
  obtain ⟨⟨q1, q2, q3⟩, q4, q5, q6, q7, q8, q9⟩ := (hbx op ho).1
  obtain ⟨m1, m2, m3, m4⟩ := lok_ch (ys := (co op).map ca ++ [ca n]) hw q3 (by rw [List.length_map]; exact hl) (by rw [List.length_append]; rfl)
  have hc0 := hc
  obtain ⟨c1, c2, c3, c4, c5, c6, c7⟩ := hc
  obtain ⟨s1, s2, s3⟩ := hh.ks
  have qK := q3.1
  have ne1 : ba op ≠ ba op + 1 := by omega
  have ne2 : ca n ≠ ba op := neK c1 q1 (by decide)
  have ne3 : ca n ≠ ba op + 1 := neK c1 qK (by decide)
  obtain ⟨T', hT'⟩ : ∃ T', T' = putS (ba op) (ca n) (byS cb (co op)) (cb n).length ((co op).map ca) T := ⟨_, rfl⟩
  rw [← hT']
  have f1 := (m4.wd (W' := fun a => a = ba op ∨ a = ba op + 1 ∨ a = ca n) (Nat.le_refl _) (Nat.le_refl _) (fun a _ e => Or.inr (Or.inl e))).th (fr_sI (W := fun a => a = ba op ∨ a = ba op + 1 ∨ a = ca n) (f := 66) (a := ba op) (v := nI (byS cb (co op) + (cb n).length)) m4.ok (Or.inl rfl))
  have f2 := f1.th (fr_sR (W := fun a => a = ba op ∨ a = ba op + 1 ∨ a = ca n) (f := 34) (a := ca n) (v := some (ba op)) f1.ok (Or.inr (Or.inr rfl)))
  have eT : sR 34 (ca n) (some (ba op)) (sI 66 (ba op) (nI (byS cb (co op) + (cb n).length)) (sL (ba op + 1) ((co op).map ca ++ [ca n]) (fit (ba op + 1) T))) = T' := hT'.symm
  rw [eT] at f2
  have e1 : cell T' (ba op + 1) = cell (sL (ba op + 1) ((co op).map ca ++ [ca n]) (fit (ba op + 1) T)) (ba op + 1) := by
    rw [← eT, ce_sR (fun e => ne3 e.symm), ce_sI (by omega)]
  have tc1 := ce_c e1
  rw [← tc1] at m2 m3 f2
  have TK : ∀ a, tK T' a = tK T a := fun a => by rw [← eT, tK_sR, tK_sI, tK_sL, fit_K]
  have TI : ∀ f a, tI T' f a = if f = 66 ∧ a = ba op then nI (byS cb (co op) + (cb n).length) else tI T f a := fun f a => by rw [← eT, tI_sR, tI_sI, up2_e, tI_sL, fit_I]
  have TR : ∀ f a, tR T' f a = if f = 34 ∧ a = ca n then some (ba op) else tR T f a := fun f a => by rw [← eT, tR_sR, up2_e, tR_sI, tR_sL, fit_R]
  have fc : ∀ {a : Nat}, tK T a ≠ 0 → a ≠ ba op → a ≠ ba op + 1 → a ≠ ca n → cell T' a = cell T a := fun ha n1 n2 n3 => f2.2.2.2.2.2 _ ha (fun e => by rcases e with e | e | e; exact n1 e; exact n2 e; exact n3 e)
  have p0 := fc (a := s) (by rw [s1]; decide) (neK s1 q1 (by decide)) (neK s1 qK (by decide)) (neK s1 c1 (by decide))
  have p1 := fc (a := s + 1) (by rw [s2]; decide) (neK s2 q1 (by decide)) (fun e => neK s1 q1 (by decide) (by omega)) (neK s2 c1 (by decide))
  have p2 := fc (a := s + 2) (by rw [s3]; decide) (neK s3 q1 (by decide)) (fun e => neK s2 q1 (by decide) (by omega)) (neK s3 c1 (by decide))
  refine ⟨⟨⟨by rw [ce_K p0]; exact h1, by rw [ce_R p0]; exact h2, by rw [ce_R p0]; exact h3, by rw [ce_R p0]; exact h4, by rw [ce_I p0]; exact h5, by rw [ce_I p0]; exact h6, by rw [ce_I p0]; exact h7⟩, ⟨l1.of p1, l2.of p2⟩, fun k hk => ?_, ho, fun k hk => ?_, z1, z2, z3⟩, m2, m3, f2.by (by omega) (by omega)⟩
  · refine ⟨?_, (hbx k hk).2⟩
    have chn : ∀ k' ∈ bl, ∀ n' ∈ co k', cell T' (ca n') = cell T (ca n') ∧ cell T' (ca n' + 1) = cell T (ca n' + 1) ∧ cell T' (ca n' + 2) = cell T (ca n' + 2) ∧ cell T' (ca n' + 3) = cell T (ca n' + 3) := by
      intro k' hk' n' hn'
      obtain ⟨d1, d2, d3, d4, d5, d6, -⟩ := hh.kn hk' hn'
      have ne : ca n' ≠ ca n := fun e => by
        rw [e, c2] at d5
        have := (nI_eq (by omega) (by omega)).mp d5
        exact hn k' hk' (this ▸ hn')
      exact ⟨fc (by rw [d1]; decide) (neK d1 q1 (by decide)) (neK d1 qK (by decide)) ne, fc (by rw [d2]; decide) (neK d2 q1 (by decide)) (neK d2 qK (by decide)) (neK d2 c1 (by decide)), fc (by rw [d3]; decide) (neK d3 q1 (by decide)) (neK d3 qK (by decide)) (neK d3 c1 (by decide)), fc (by rw [d4]; decide) (neK d4 q1 (by decide)) (neK d4 qK (by decide)) (neK d4 c1 (by decide))⟩
    by_cases e : k = op
    · subst e
      rw [up1_e, if_pos rfl]
      have k1 := fc (a := ca n + 1) (by rw [c5.2.2.2.2.choose_spec.choose_spec.choose_spec.2.1.1]; decide) (neK c5.2.2.2.2.choose_spec.choose_spec.choose_spec.2.1.1 q1 (by decide)) (neK c5.2.2.2.2.choose_spec.choose_spec.choose_spec.2.1.1 qK (by decide)) (by omega)
      have k2K : tK T (ca n + 2) = 20 := c5.2.2.2.2.choose_spec.choose_spec.choose_spec.2.1.2.2.2.1
      have k2 := fc (a := ca n + 2) (by rw [k2K]; decide) (neK k2K q1 (by decide)) (neK k2K qK (by decide)) (by omega)
      have k3 := fc (a := ca n + 3) (by rw [c5.1]; decide) (neK c5.1 q1 (by decide)) (neK c5.1 qK (by decide)) (by omega)
      refine ⟨⟨by rw [TK]; exact q1, by rw [TR, if_neg (by omega)]; exact q2, ?_⟩, by rw [TI, if_neg (by omega)]; exact q4, by rw [TI, if_pos ⟨rfl, rfl⟩, byS_app], by rw [List.length_append]; show (co k).length + 1 ≤ 128; omega, by rw [byS_app]; exact hb, q8, fun n' hn' => ?_⟩
      · rw [List.map_append]
        exact m1.of e1
      · rcases List.mem_append.mp hn' with hn' | hn'
        · obtain ⟨w0, w1, w2, w3⟩ := chn k hk n' hn'
          exact ⟨(q9 n' hn').1.of w0 w1 w2 w3, by rw [ce_R w0]; exact (q9 n' hn').2⟩
        · rw [List.mem_singleton] at hn'
          subst hn'
          refine ⟨⟨by rw [TK]; exact c1, by rw [TI, if_neg (by omega)]; exact c2, by rw [TR, if_neg (by omega)]; exact c3, by rw [TI, if_neg (by omega)]; exact c4, c5.of k3 k1 k2, c6, c7⟩, by rw [TR, if_pos ⟨rfl, rfl⟩]⟩
    · rw [mem_up e]
      obtain ⟨a1, a2, -⟩ := hh.kb hk
      have nb : ba k ≠ ba op := fun e2 => e (hh.bi hk ho e2)
      exact (hbx k hk).1.of (fc (by rw [a1]; decide) nb (neK a1 qK (by decide)) (neK a1 c1 (by decide))) (fc (by rw [a2]; decide) (neK a2 q1 (by decide)) (by omega) (neK a2 c1 (by decide))) (fun n' hn' => chn k hk n' hn')
  · rw [TK, TI, if_neg (by omega)]
    exact hcc k hk
/-- one field of the shelf changes -/
theorem SH.fld {T' : TS} {hi' re' st' : Nat} (h : SH T s ba ca cb us bl co op cs hi re st) (e0 : tK T' s = tK T s ∧ (∀ f, tR T' f s = tR T f s) ∧ tI T' 163 s = nI st' ∧ tI T' 164 s = nI hi' ∧ tI T' 165 s = nI re') (he : ∀ a, a ≠ s → cell T' a = cell T a) (hz : st' < 1000000 ∧ hi' < 1000000 ∧ re' < 1000000) : SH T' s ba ca cb us bl co op cs hi' re' st' := by
  have hh := h
  obtain ⟨⟨h1, h2, h3, h4, h5, h6, h7⟩, ⟨l1, l2⟩, hbx, ho, hcc, z1, z2, z3⟩ := h
  obtain ⟨y1, y2, y3, y4, y5⟩ := e0
  refine ⟨⟨by rw [y1]; exact h1, by rw [y2]; exact h2, by rw [y2]; exact h3, by rw [y2]; exact h4, y3, y4, y5⟩, ⟨l1.of (he _ (by omega)), l2.of (he _ (by omega))⟩, fun k hk => ?_, ho, fun k hk => ?_, z1, z2, hz⟩
  · obtain ⟨a1, a2, -⟩ := hh.kb hk
    refine ⟨(hbx k hk).1.of (he _ (neK a1 h1 (by decide))) (he _ (neK a2 h1 (by decide))) (fun n hn => ?_), (hbx k hk).2⟩
    obtain ⟨d1, d2, d3, d4, -⟩ := hh.kn hk hn
    exact ⟨he _ (neK d1 h1 (by decide)), he _ (neK d2 h1 (by decide)), he _ (neK d3 h1 (by decide)), he _ (neK d4 h1 (by decide))⟩
  · have w := he (ba k) (neK (hcc k hk).1 h1 (by decide))
    rw [ce_K w, ce_I w]
    exact hcc k hk
end SHP
