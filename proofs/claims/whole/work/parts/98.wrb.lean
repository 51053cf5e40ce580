/-! calls that change the draft, both sides -/
section WRB
variable {S X m o L : Nat} {xs : Nat → Int32} {n0 u0 c D : Nat} {va ba ca : Nat → Nat} {dr kl : List Nat} {vf vn : Nat → Nat} {vb ve : Nat → List Nat} {vp : Nat → Option Nat} {nx : Nat → Nat} {sv : Nat} {cb : Nat → List Nat} {us : Nat → Nat} {bl cs : List Nat} {co : Nat → List Nat} {op hi re st : Nat} {rw : List Nat} {bx sf : Nat → Nat} {ud : Nat} {T T' T1 : TS}
def cdA (x : Nat) : Nat := if x = 100 then 1 else if x = 101 then 2 else 0
def cdC (x : Nat) : Nat := if x = 102 then 1 else if x = 101 then 2 else 0
def cdI (x : Nat) : Nat := if x = 102 then 1 else if x = 100 then 2 else if x = 101 then 3 else 0
theorem CQ_up {d d' mid : Nat} {As : List Value} {Q : Post} (h : CallQ d mid As T Q) (hd : d ≤ d') : CallQ d' mid As T Q := by
  obtain ⟨q, T2, c, hq⟩ := h
  exact ⟨q, T2, Call_up c hd, hq⟩
theorem off_x {W : Nat → Prop} (h : XR T X va ba ca dr kl vf vn vb ve vp nx sv cb us bl co op cs hi re st) (hm : mdl T m) (hO : OS m o S L xs T) (hW : ∀ a, W a → xD X va ba ca kl bl cs co a) : offW m o S T W := fun a q => by
  have := h.ap hm hO (hW a q)
  exact Or.inr ⟨this.1, this.2.1, this.2.2.1⟩
theorem XR.bk (h : XR T X va ba ca dr kl vf vn vb ve vp nx sv cb us bl co op cs hi re st) : tK T (ba op) = 3 ∧ tK T (ba op + 1) = 23 := by
  have := h.2.2.2.2.1.kb h.2.2.2.2.1.2.2.2.1
  exact ⟨this.1, this.2.1⟩
/-- the room when the open container's list stays -/
theorem RO.same {W : Nat → Prop} {n u : Nat} (h : RO n0 u0 c ba op bl T) (hX : XR T X va ba ca dr kl vf vn vb ve vp nx sv cb us bl co op cs hi re st) (F : fr W n u T T1) (hW : ¬ W (ba op + 1)) (hn : n ≤ 300) (hu : u ≤ 4000) : RO n0 u0 (c + 1) ba op bl T1 :=
  h.am (am_fr F (ce_c (F.ce hX.bk.2 hW))) (by omega) (by omega)
theorem drW (h : XR T X va ba ca dr kl vf vn vb ve vp nx sv cb us bl co op cs hi re st) : ¬ (ba op + 1 = X + 1 ∨ ba op + 1 = X + 2) := fun q => by
  have k := h.bk.2
  rcases q with q | q
  · rw [q, h.2.1.1.1] at k; cases k
  · rw [q, show tK T (X + 2) = 20 from h.2.1.1.2.2.2.1] at k; cases k
theorem MR.vx (h : MR T m dr kl vf vn vb ve vp nx rw bx sf cb ud st op cs hi re) {k : Nat} (hk : k ∈ kl) : ∀ x ∈ vb k, x < 256 := fun x hx => by
  have hk20 := h.2.2.2.2.2.2.2.2.2.2.2.2.2 k hk
  obtain ⟨-, -, -, -, -, -, a7, -⟩ := (h.2.2.1 k hk20).1 hk
  obtain ⟨i, hi, e⟩ := List.mem_iff_getElem.mp hx
  have := (a7 i hi).2
  rw [List.getD_eq_getElem?_getD, List.getElem?_eq_getElem hi, e] at this
  exact this
theorem T_append (s t j : Int32) (h : LI S X m o L xs n0 u0 c T) (hc : c < 512) : BA S X m o L xs n0 u0 c 9 80 134 [.int s, .int t, .int j] cdA noP T := by
  obtain ⟨va, ba, ca, dr, kl, vf, vn, vb, ve, vp, nx, sv, cb, us, bl, co, op, cs, hi, re, st, rw, bx, sf, ud, h⟩ := h
  have hX := h.1
  have hw := h.2.2.2.2.2.1.1
  cases e : apG s t j with
  | none => exact BA_no (x := 100) (t := 1) h hc (by decide) (Call_up (X_append1 (d := 0) hX e) (by decide)) (fun T' hT' => Call_up (N_append1 (d := 0) hT' e) (by decide)) rfl (by decide)
  | some q =>
    obtain ⟨a, b, n⟩ := q
    obtain ⟨h1, h2, h3, h4, rfl, rfl, rfl⟩ := apG_some e
    by_cases hl : dr.length + n ≤ 240
    · obtain ⟨_, T1, c1, rfl, x1, F⟩ := X_append3 (d := 0) hw hX h1 h2 h3 h4 hl
      exact BA_ok h (Call_up c1 (by decide)) x1 F (off_x hX h.2.1.1 h.2.2.2.2.2.1 (fun a q => q.elim (fun q => Or.inr (Or.inl q)) (fun q => Or.inr (Or.inr (Or.inl q))))) (h.2.2.2.2.2.2.same hX F (drW hX) (by decide) (by decide)) (fun T' hT' => CQ_up (N_append3 (d := 0) hT' h1 h2 h3 h4 hl) (by decide)) h.2.2.1 h.2.2.2.1 (h.2.2.2.2.1.next hc) trivial
    · exact BA_no (x := 101) (t := 2) h hc (by decide) (Call_up (X_append2 (d := 0) hX h1 h2 h3 h4 hl) (by decide)) (fun T' hT' => Call_up (N_append2 (d := 0) hT' h1 h2 h3 h4 hl) (by decide)) rfl (by decide)
theorem T_appendCopy (f v p j : Int32) (h : LI S X m o L xs n0 u0 c T) (hc : c < 512) : BA S X m o L xs n0 u0 c 9 81 135 [.int f, .int v, .int p, .int j] cdC noP T := by
  obtain ⟨va, ba, ca, dr, kl, vf, vn, vb, ve, vp, nx, sv, cb, us, bl, co, op, cs, hi, re, st, rw, bx, sf, ud, h⟩ := h
  have hX := h.1
  have hw := h.2.2.2.2.2.1.1
  have hac : acM kl vf vn vb f v p j = acG kl vf vn vb f v p j := by
    unfold acM acG
    rw [h.2.2.1.fvpl]
  have hvl : ∀ k ∈ kl, (vb k).length ≤ 240 := fun k hk => (hX.2.2.2.1.1.2 k hk).2.2.1
  cases e : acG kl vf vn vb f v p j with
  | none => exact BA_no (x := 102) (t := 1) h hc (by decide) (Call_up (X_copy1 (d := 0) hX e) (by decide)) (fun T' hT' => Call_up (N_copy1 (d := 0) hT' (by rw [hac]; exact e)) (by decide)) rfl (by decide)
  | some q =>
    obtain ⟨k, a, b⟩ := q
    have hkl : k ∈ kl := (fv_mem (acG_some e hvl).1).1
    by_cases hl : dr.length + b ≤ 240
    · obtain ⟨_, T1, c1, rfl, x1, F⟩ := X_copy3 (d := 0) hw hX e hl (h.2.1.vx hkl)
      exact BA_ok h (Call_up c1 (by decide)) x1 F (off_x hX h.2.1.1 h.2.2.2.2.2.1 (fun a q => q.elim (fun q => Or.inr (Or.inl q)) (fun q => Or.inr (Or.inr (Or.inl q))))) (h.2.2.2.2.2.2.same hX F (drW hX) (by decide) (by decide)) (fun T' hT' => CQ_up (N_copy3 (d := 0) hT' (by rw [hac]; exact e) hl) (by decide)) h.2.2.1 h.2.2.2.1 (h.2.2.2.2.1.next hc) trivial
    · exact BA_no (x := 101) (t := 2) h hc (by decide) (Call_up (X_copy2 (d := 0) hX e hl) (by decide)) (fun T' hT' => Call_up (N_copy2 (d := 0) hT' (by rw [hac]; exact e) hl) (by decide)) rfl (by decide)
theorem T_insert (p v : Int32) (h : LI S X m o L xs n0 u0 c T) (hc : c < 512) : BA S X m o L xs n0 u0 c 9 82 136 [.int p, .int v] cdI noP T := by
  obtain ⟨va, ba, ca, dr, kl, vf, vn, vb, ve, vp, nx, sv, cb, us, bl, co, op, cs, hi, re, st, rw, bx, sf, ud, h⟩ := h
  have hX := h.1
  have hw := h.2.2.2.2.2.1.1
  have hdl : dr.length ≤ 240 := hX.2.1.1.2.2.2.2.2.1
  rcases inR_is p (n := dr.length + 1) (by omega) with ⟨e, -⟩ | ⟨a, ha, rfl, e, -⟩
  · exact BA_no (x := 102) (t := 1) h hc (by decide) (Call_up (X_insert1 (d := 0) hX e) (by decide)) (fun T' hT' => Call_up (N_insert1 (d := 0) hT' e) (by decide)) rfl (by decide)
  · rcases inR_is v (n := 256) (by decide) with ⟨e2, -⟩ | ⟨b, hb, rfl, e2, -⟩
    · exact BA_no (x := 100) (t := 2) h hc (by decide) (Call_up (X_insert2 (d := 0) hX (by omega) e2) (by decide)) (fun T' hT' => Call_up (N_insert2 (d := 0) hT' (by omega) e2) (by decide)) rfl (by decide)
    · by_cases hl : dr.length < 240
      · obtain ⟨_, T1, c1, rfl, x1, F⟩ := X_insert4 (d := 0) (p := a) (v := b) hw hX (by omega) hb hl
        exact BA_ok h (Call_up c1 (by decide)) x1 F (off_x hX h.2.1.1 h.2.2.2.2.2.1 (fun a q => q.elim (fun q => Or.inr (Or.inl q)) (fun q => Or.inr (Or.inr (Or.inl q))))) (h.2.2.2.2.2.2.same hX F (drW hX) (by decide) (by decide)) (fun T' hT' => CQ_up (N_insert4 (d := 0) hT' (by omega) hb hl) (by decide)) h.2.2.1 h.2.2.2.1 (h.2.2.2.2.1.next hc) trivial
      · exact BA_no (x := 101) (t := 3) h hc (by decide) (Call_up (X_insert3 (d := 0) hX (by omega) hb hl) (by decide)) (fun T' hT' => Call_up (N_insert3 (d := 0) hT' (by omega) hb hl) (by decide)) rfl (by decide)
theorem T_cut (p j : Int32) (h : LI S X m o L xs n0 u0 c T) (hc : c < 512) : BA S X m o L xs n0 u0 c 9 83 137 [.int p, .int j] cd1 noP T := by
  obtain ⟨va, ba, ca, dr, kl, vf, vn, vb, ve, vp, nx, sv, cb, us, bl, co, op, cs, hi, re, st, rw, bx, sf, ud, h⟩ := h
  have hX := h.1
  have hw := h.2.2.2.2.2.1.1
  have hdl : dr.length ≤ 240 := hX.2.1.1.2.2.2.2.2.1
  rcases spn_is p j (n := dr.length) (by omega) with ⟨e, -⟩ | ⟨a, b, hab, rfl, rfl, e⟩
  · exact BA_no (x := 102) (t := 1) h hc (by decide) (Call_up (X_cut1 (d := 0) hX e) (by decide)) (fun T' hT' => Call_up (N_cut1 (d := 0) hT' e) (by decide)) rfl (by decide)
  · obtain ⟨_, T1, c1, rfl, x1, F⟩ := X_cut2 (d := 0) hw hX hab
    exact BA_ok h (Call_up c1 (by decide)) x1 F (off_x hX h.2.1.1 h.2.2.2.2.2.1 (fun a q => q.elim (fun q => Or.inr (Or.inl q)) (fun q => Or.inr (Or.inr (Or.inl q))))) (h.2.2.2.2.2.2.same hX F (drW hX) (by decide) (by decide)) (fun T' hT' => CQ_up (N_cut2 (d := 0) hT' hab) (by decide)) h.2.2.1 h.2.2.2.1 (h.2.2.2.2.1.next hc) trivial
theorem T_clear (h : LI S X m o L xs n0 u0 c T) (hc : c < 512) : BB S X m o L xs n0 u0 c 9 84 138 [] T := by
  obtain ⟨va, ba, ca, dr, kl, vf, vn, vb, ve, vp, nx, sv, cb, us, bl, co, op, cs, hi, re, st, rw, bx, sf, ud, h⟩ := h
  have hX := h.1
  have hw := h.2.2.2.2.2.1.1
  obtain ⟨_, T1, c1, rfl, x1, F⟩ := X_clear (d := 0) hw hX
  exact BB_ok h (Call_up c1 (by decide)) x1 F (off_x hX h.2.1.1 h.2.2.2.2.2.1 (fun a q => q.elim (fun q => Or.inr (Or.inl q)) (fun q => Or.inr (Or.inr (Or.inl q))))) (h.2.2.2.2.2.2.same hX F (drW hX) (by decide) (by decide)) (fun T' hT' => CQ_up (N_clear (d := 0) hT') (by decide)) h.2.2.1 h.2.2.2.1 (h.2.2.2.2.1.next hc)
theorem T_would (h : LI S X m o L xs n0 u0 c T) (hc : c < 512) : BB S X m o L xs n0 u0 c 9 88 157 [] T := by
  obtain ⟨va, ba, ca, dr, kl, vf, vn, vb, ve, vp, nx, sv, cb, us, bl, co, op, cs, hi, re, st, rw, bx, sf, ud, h⟩ := h
  have hX := h.1
  have hw := h.2.2.2.2.2.1.1
  obtain ⟨_, T1, c1, rfl, x1, F⟩ := X_would (d := 0) hw hX
  refine BB_ok (sf' := sf) h (Call_up c1 (by decide)) x1 F off_no (h.2.2.2.2.2.2.same hX F (fun q => q) (by decide) (by decide)) (fun T' hT' => ?_) h.2.2.1 h.2.2.2.1 (h.2.2.2.2.1.next hc)
  have n := Call_up (d' := 9) (N_would (d := 0) hT') (by decide)
  rw [h.2.2.2.1.would] at n
  exact ⟨_, _, n, rfl, hT'.th, sI278, ms.sI⟩
theorem T_collect (h : LI S X m o L xs n0 u0 c T) (hc : c < 512) : BB S X m o L xs n0 u0 c 9 90 160 [] T := by
  obtain ⟨va, ba, ca, dr, kl, vf, vn, vb, ve, vp, nx, sv, cb, us, bl, co, op, cs, hi, re, st, rw, bx, sf, ud, h⟩ := h
  have hX := h.1
  have hw := h.2.2.2.2.2.1.1
  have hK := h.2.2.1
  obtain ⟨f1, f2, f3, f4, f5, f6, f7, f8, f9, f10, f11⟩ := col_fin h.2.2.2.1 h.2.2.2.2.1.lim.1
  obtain ⟨_, T1, c1, rfl, ba1, x1, ⟨n, u, F⟩, A⟩ := X_collect (d := 0) hw hX f1 f2 (fun k hk n hn => by
    have h0 := f11 n ((hK.2.2.2.2.2.2 k hk).1 n hn) (uO_pos hK.1 hK.2.1 hk hn)
    exact ⟨_, f4.1.at h0⟩)
  have g1 := h.2.2.2.1.1.len
  have g2 := f4.1.len
  dsimp only at g1 g2
  refine BB_ok (sf' := sf) h (Call_up c1 (by decide)) x1 F (off_x hX h.2.1.1 h.2.2.2.2.2.1 (fun a q => Or.inr (Or.inr (Or.inr (Or.inr (Or.inr (Or.inr ?_))))))) (h.2.2.2.2.2.2.am A (by omega) (by omega)) (fun T' hT' => ?_) (hK.rows f11) f4 (h.2.2.2.2.1.next hc)
  · rcases q with q | q | q | ⟨k, hk, q | q | ⟨n, hn, q⟩⟩
    · exact Or.inl q
    · exact Or.inr (Or.inl q)
    · exact Or.inr (Or.inr (Or.inl q))
    · exact Or.inr (Or.inr (Or.inr (Or.inr ⟨k, hk, Or.inl q⟩)))
    · exact Or.inr (Or.inr (Or.inr (Or.inr ⟨k, hk, Or.inr (Or.inl q)⟩)))
    · exact Or.inr (Or.inr (Or.inr (Or.inr ⟨k, hk, Or.inr (Or.inr ⟨n, hn, Or.inl q⟩)⟩)))
  · obtain ⟨_, T2, c2, rfl, q1, q2, q3⟩ := N_collect (d := 0) hT' f3
    rw [f5, f6] at q1
    rw [f7] at c2
    exact ⟨_, T2, Call_up c2 (by decide), rfl, q1, q2, q3⟩
theorem T_forget (f v : Int32) (h : LI S X m o L xs n0 u0 c T) (hc : c < 512) : BA S X m o L xs n0 u0 c 9 89 158 [.int f, .int v] cd1 noP T := by
  obtain ⟨va, ba, ca, dr, kl, vf, vn, vb, ve, vp, nx, sv, cb, us, bl, co, op, cs, hi, re, st, rw, bx, sf, ud, h⟩ := h
  have hX := h.1
  have hw := h.2.2.2.2.2.1.1
  have hK := h.2.2.1
  have hS := h.2.2.2.1
  cases e : fv kl vf vn f v with
  | none => exact BA_no (x := 102) (t := 1) h hc (by decide) (Call_up (X_forget0 (d := 0) hX e) (by decide)) (fun T' hT' => Call_up (N_forget1 (d := 0) hT' (by rw [hK.fvpl]; exact e)) (by decide)) rfl (by decide)
  | some g =>
    have hg := (fv_mem e).1
    have hus : ∀ n ∈ rw, us n = uO kl ve n := fun n hn => (hS.2.2.1 n hn).2.2.2
    have hfo := fun n => uO_forget (ve := ve) (n := n) hK.1 hK.2.1 hg
    obtain ⟨_, T1, c1, rfl, x1, F⟩ := X_forget (d := 0) hw hX e hK.1 (pw_un hK.2.2.1) (fun n hn => by
      rw [hus n ((hK.2.2.2.2.2.2 g hg).1 n hn)]
      exact (hfo n).2)
    have hK' := hK.forget hg
    refine BA_ok (sf' := sf) (bx' := bx) h (Call_up c1 (by decide)) x1 F (off_x hX h.2.1.1 h.2.2.2.2.2.1 (fun a q => ?_)) (h.2.2.2.2.2.2.same hX F (fun q => ?_) (by decide) (by decide)) (fun T' hT' => ?_) hK' ?_ (h.2.2.2.2.1.next hc) trivial
    · rcases q with q | ⟨k, hk, q⟩ | ⟨k, hk, n, hn, q⟩
      · exact Or.inr (Or.inr (Or.inr (Or.inl q)))
      · exact Or.inr (Or.inr (Or.inr (Or.inr (Or.inr (Or.inl ⟨k, hk, Or.inl q⟩)))))
      · exact Or.inr (Or.inr (Or.inr (Or.inr (Or.inr (Or.inr (Or.inr (Or.inr (Or.inr (Or.inr ⟨k, hk, Or.inr (Or.inr ⟨n, hn, Or.inl q⟩)⟩)))))))))
    · obtain ⟨b3, b23⟩ := hX.bk
      rcases q with q | ⟨k, hk, q⟩ | ⟨k, hk, n, hn, q⟩
      · have e9 : ba op = X + 2 := by omega
        rw [e9, show tK T (X + 2) = 20 from hX.2.1.1.2.2.2.1] at b3
        cases b3
      · rw [q, (hX.2.2.2.1.1.2 k hk).1.1] at b23
        cases b23
      · rw [q, (hX.2.2.2.2.1.kn hk hn).1] at b23
        cases b23
    · have n := CQ_up (d' := 9) (N_forget2 (d := 0) hT' (by rw [hK.fvpl]; exact e) (hK.back e)) (by decide)
      rw [hK'.len] at n
      exact n
    · obtain ⟨s1, s2, s3, s4, s5, s6, s7⟩ := hS
      refine ⟨s1, s2, fun n hn => ?_, s4, s5, s6, s7⟩
      obtain ⟨a1, a2, a3, a4⟩ := s3 n hn
      refine ⟨a1, a2, a3, ?_⟩
      show us n - (ve g).count n = _
      rw [(hfo n).1, a4]
end WRB
