/-! a call on both sides: what it comes to -/
section BAS
variable {S X m o L : Nat} {xs : Nat → Int32} {n0 u0 c D mx mm : Nat} {As : List Value} {code : Nat → Nat} {P : Int32 → Prop} {va ba ca : Nat → Nat} {dr kl : List Nat} {vf vn : Nat → Nat} {vb ve : Nat → List Nat} {vp : Nat → Option Nat} {nx : Nat → Nat} {sv : Nat} {cb : Nat → List Nat} {us : Nat → Nat} {bl cs : List Nat} {co : Nat → List Nat} {op hi re st : Nat} {rw : List Nat} {bx sf : Nat → Nat} {ud : Nat} {T T' T1 T2 : TS}
/-- a call that may throw -/
def BA (S X m o L : Nat) (xs : Nat → Int32) (n0 u0 c D mx mm : Nat) (As : List Value) (code : Nat → Nat) (P : Int32 → Prop) (T : TS) : Prop :=
  (∃ v T1 T2, P v ∧ Call D mx (.ref X :: As) T (.inl (some (.int v))) T1 ∧ OS m o S L xs T1 ∧ tK T1 m = 9 ∧ Call D mm (.ref m :: As) (sJ o 0 v.toInt64 T1) (.inl (some (.int v))) T2 ∧ tI T2 278 m = nI 0 ∧ tJ T2 o 0 = v.toInt64 ∧ LI S X m o L xs n0 u0 (c + 1) T2) ∨
  ∃ x T1 b T2, (100 ≤ x ∧ x ≤ 102) ∧ Call D mx (.ref X :: As) T (.inr x) T1 ∧ OS m o S L xs T1 ∧ tK T1 m = 9 ∧ Call D mm (.ref m :: As) T1 (.inl (some (.int b))) T2 ∧ (1 ≤ code x ∧ code x ≤ 3) ∧ tI T2 278 m = nI (code x) ∧ LI S X m o L xs n0 u0 (c + 1) T2
/-- a call that doesn't -/
def BB (S X m o L : Nat) (xs : Nat → Int32) (n0 u0 c D mx mm : Nat) (As : List Value) (T : TS) : Prop :=
  ∃ v T1 T2, Call D mx (.ref X :: As) T (.inl (some (.int v))) T1 ∧ OS m o S L xs T1 ∧ tK T1 m = 9 ∧ Call D mm (.ref m :: As) T1 (.inl (some (.int v))) T2 ∧ LI S X m o L xs n0 u0 (c + 1) T2
theorem LI.os (h : LI S X m o L xs n0 u0 c T) : OS m o S L xs T ∧ tK T m = 9 ∧ tK T X = 8 := by
  obtain ⟨va, ba, ca, dr, kl, vf, vn, vb, ve, vp, nx, sv, cb, us, bl, co, op, cs, hi, re, st, rw, bx, sf, ud, h1, h2, -, -, -, h6, -⟩ := h
  exact ⟨h6, h2.1.1, h1.1.1⟩
/-- the reference has done its part -/
theorem LI.mk (hX : XR T1 X va ba ca dr kl vf vn vb ve vp nx sv cb us bl co op cs hi re st) (hO : OS m o S L xs T1) (hR : RO n0 u0 c ba op bl T1) (hm : mdl T1 m) (hs : ms m T1 T2) (hM : MR T2 m dr kl vf vn vb ve vp nx rw bx sf cb ud st op cs hi re) (hK : KI kl vf vn vb ve vp nx cb rw) (hS : SI (uO kl ve) us cb bl co op cs rw bx ud st) (hC : CT c dr rw cb nx sv ud st hi re) : LI S X m o L xs n0 u0 c T2 := by
  have hk : tK T1 (ba op + 1) = 23 := (hX.2.2.2.2.1.kb hX.2.2.2.2.1.2.2.2.1).2.1
  exact ⟨va, ba, ca, dr, kl, vf, vn, vb, ve, vp, nx, sv, cb, us, bl, co, op, cs, hi, re, st, rw, bx, sf, ud, hX.ms hm hO hs, hM, hK, hS, hC, hO.ms hm hs, hR.ms hm hk hs⟩
theorem off_no : offW m o S T (fun _ => False) := fun a q => q.elim
/-- the class has read, no more -/
theorem LIp.rd {n u : Nat} (h : LIp S X m o L xs n0 u0 c T va ba ca dr kl vf vn vb ve vp nx sv cb us bl co op cs hi re st rw bx sf ud) (F : fr (fun _ => False) n u T T1) (hn : n ≤ 300) (hu : u ≤ 4000) : XR T1 X va ba ca dr kl vf vn vb ve vp nx sv cb us bl co op cs hi re st ∧ MR T1 m dr kl vf vn vb ve vp nx rw bx sf cb ud st op cs hi re ∧ OS m o S L xs T1 ∧ RO n0 u0 (c + 1) ba op bl T1 := by
  obtain ⟨h1, h2, h3, h4, h5, h6, h7⟩ := h
  have hk : tK T (ba op + 1) = 23 := (h1.2.2.2.2.1.kb h1.2.2.2.2.1.2.2.2.1).2.1
  refine ⟨h1.nw F, h2.fr (o := o) (S := S) off_no F, h6.fr off_no F, h7.am (am_fr F (ce_c (F.ce hk (fun q => q)))) (by omega) (by omega)⟩
theorem fr_nX (hw : wf T) : fr (fun _ => False) 1 6 T (nX T) := ⟨fun a ha => hw a (Nat.le_of_succ_le ha), Nat.le_succ _, Nat.le_refl _, Nat.le_add_right _ _, Nat.le_refl _, fun a _ _ => ce_nX⟩
theorem sI278 {v : Int32} : tI (sI 278 m v T) 278 m = v := by rw [tI_sI, up2_e, if_pos ⟨rfl, rfl⟩]
theorem sJ_at {v : Int64} : tJ (sJ o 0 v T) o 0 = v := by rw [tJ_sJ, up2_e, if_pos ⟨rfl, rfl⟩]
theorem ms_J (hm : mdl T m) (hO : OS m o S L xs T) (hs : ms m T T') : tJ T' o = tJ T o := ce_J (hs.2.2.2.2.2 o (by have := hm.no (a := o) (by have := hO.2.1.1; omega); omega))
theorem BA_read {q : Option Int32} (h : LIp S X m o L xs n0 u0 c T va ba ca dr kl vf vn vb ve vp nx sv cb us bl co op cs hi re st rw bx sf ud) (hc : c < 512) (cx : Call D mx (.ref X :: As) T (rO q) (rS q T)) (cm : ∀ T', MR T' m dr kl vf vn vb ve vp nx rw bx sf cb ud st op cs hi re → Call D mm (.ref m :: As) T' (.inl (some (.int (rM q)))) (sI 278 m (nI (rC q)) T')) (hcode : code 102 = 1) (hP : ∀ v, q = some v → P v) : BA S X m o L xs n0 u0 c D mx mm As code P T := by
  have hw := h.2.2.2.2.2.1.1
  cases q with
  | some v =>
    obtain ⟨r1, r2, r3, r4⟩ := h.rd (fr.rf hw) (Nat.zero_le _) (Nat.zero_le _)
    have e := r2.sJ (i := 0) (v := v.toInt64) r3
    refine Or.inl ⟨v, T, sI 278 m (nI 0) (sJ o 0 v.toInt64 T), hP v rfl, cx, r3, r2.1.1, cm _ e, sI278, sJ_at, ?_⟩
    exact LI.mk (r1.sJ r2.1 r3) r3.sJ r4.sJ e.1 ms.sI e.th h.2.2.1 h.2.2.2.1 (h.2.2.2.2.1.next hc)
  | none =>
    obtain ⟨r1, r2, r3, r4⟩ := h.rd (fr_nX hw) (by decide) (by decide)
    refine Or.inr ⟨102, nX T, 0, sI 278 m (nI 1) (nX T), by decide, cx, r3, r2.1.1, cm _ r2, by rw [hcode]; decide, by rw [hcode]; exact sI278, ?_⟩
    exact LI.mk r1 r3 r4 r2.1 ms.sI r2.th h.2.2.1 h.2.2.2.1 (h.2.2.2.2.1.next hc)
theorem BB_read {v : Int32} (h : LIp S X m o L xs n0 u0 c T va ba ca dr kl vf vn vb ve vp nx sv cb us bl co op cs hi re st rw bx sf ud) (hc : c < 512) (cx : Call D mx (.ref X :: As) T (.inl (some (.int v))) T) (cm : ∀ T', MR T' m dr kl vf vn vb ve vp nx rw bx sf cb ud st op cs hi re → Call D mm (.ref m :: As) T' (.inl (some (.int v))) (sI 278 m (nI 0) T')) : BB S X m o L xs n0 u0 c D mx mm As T := by
  have hw := h.2.2.2.2.2.1.1
  obtain ⟨r1, r2, r3, r4⟩ := h.rd (fr.rf hw) (Nat.zero_le _) (Nat.zero_le _)
  exact ⟨v, T, sI 278 m (nI 0) T, cx, r3, r2.1.1, cm _ r2, LI.mk r1 r3 r4 r2.1 ms.sI r2.th h.2.2.1 h.2.2.2.1 (h.2.2.2.2.1.next hc)⟩
/-- the class throws, the reference says so -/
theorem BA_no {x t : Nat} {b : Int32} (h : LIp S X m o L xs n0 u0 c T va ba ca dr kl vf vn vb ve vp nx sv cb us bl co op cs hi re st rw bx sf ud) (hc : c < 512) (hx : 100 ≤ x ∧ x ≤ 102) (cx : Call D mx (.ref X :: As) T (.inr x) (nX T)) (cm : ∀ T', MR T' m dr kl vf vn vb ve vp nx rw bx sf cb ud st op cs hi re → Call D mm (.ref m :: As) T' (.inl (some (.int b))) (sI 278 m (nI t) T')) (hcode : code x = t) (ht : 1 ≤ t ∧ t ≤ 3) : BA S X m o L xs n0 u0 c D mx mm As code P T := by
  have hw := h.2.2.2.2.2.1.1
  obtain ⟨r1, r2, r3, r4⟩ := h.rd (fr_nX hw) (by decide) (by decide)
  refine Or.inr ⟨x, nX T, b, sI 278 m (nI t) (nX T), hx, cx, r3, r2.1.1, cm _ r2, by rw [hcode]; exact ht, by rw [hcode]; exact sI278, ?_⟩
  exact LI.mk r1 r3 r4 r2.1 ms.sI r2.th h.2.2.1 h.2.2.2.1 (h.2.2.2.2.1.next hc)
/-- both change what they hold -/
theorem BA_ok {v : Int32} {W : Nat → Prop} {n u : Nat} {va' ba' ca' : Nat → Nat} {dr' kl' : List Nat} {vf' vn' : Nat → Nat} {vb' ve' : Nat → List Nat} {vp' : Nat → Option Nat} {nx' : Nat → Nat} {sv' : Nat} {cb' : Nat → List Nat} {us' : Nat → Nat} {bl' cs' : List Nat} {co' : Nat → List Nat} {op' hi' re' st' : Nat} {rw' : List Nat} {bx' sf' : Nat → Nat} {ud' : Nat} (h : LIp S X m o L xs n0 u0 c T va ba ca dr kl vf vn vb ve vp nx sv cb us bl co op cs hi re st rw bx sf ud) (cx : Call D mx (.ref X :: As) T (.inl (some (.int v))) T1) (hX : XR T1 X va' ba' ca' dr' kl' vf' vn' vb' ve' vp' nx' sv' cb' us' bl' co' op' cs' hi' re' st') (F : fr W n u T T1) (hW : offW m o S T W) (hR : RO n0 u0 (c + 1) ba' op' bl' T1) (cm : ∀ T', MR T' m dr kl vf vn vb ve vp nx rw bx sf cb ud st op cs hi re → CallQ D mm (.ref m :: As) T' (fun q T2 => q = .inl (some (.int v)) ∧ MR T2 m dr' kl' vf' vn' vb' ve' vp' nx' rw' bx' sf' cb' ud' st' op' cs' hi' re' ∧ tI T2 278 m = nI 0 ∧ ms m T' T2)) (hK : KI kl' vf' vn' vb' ve' vp' nx' cb' rw') (hS : SI (uO kl' ve') us' cb' bl' co' op' cs' rw' bx' ud' st') (hC : CT (c + 1) dr' rw' cb' nx' sv' ud' st' hi' re') (hP : P v) : BA S X m o L xs n0 u0 c D mx mm As code P T := by
  obtain ⟨h1, h2, h3, h4, h5, h6, h7⟩ := h
  have m1 := h2.fr hW F
  have o1 := h6.fr hW F
  have m1' := m1.sJ (i := 0) (v := v.toInt64) o1
  obtain ⟨_, T2, c2, rfl, q1, q2, q3⟩ := cm _ m1'
  refine Or.inl ⟨v, T1, T2, hP, cx, o1, m1.1.1, c2, q2, ?_, LI.mk (hX.sJ m1.1 o1) o1.sJ hR.sJ m1'.1 q3 q1 hK hS hC⟩
  rw [ms_J m1'.1 o1.sJ q3]
  exact sJ_at
theorem BB_ok {v : Int32} {W : Nat → Prop} {n u : Nat} {va' ba' ca' : Nat → Nat} {dr' kl' : List Nat} {vf' vn' : Nat → Nat} {vb' ve' : Nat → List Nat} {vp' : Nat → Option Nat} {nx' : Nat → Nat} {sv' : Nat} {cb' : Nat → List Nat} {us' : Nat → Nat} {bl' cs' : List Nat} {co' : Nat → List Nat} {op' hi' re' st' : Nat} {rw' : List Nat} {bx' sf' : Nat → Nat} {ud' : Nat} (h : LIp S X m o L xs n0 u0 c T va ba ca dr kl vf vn vb ve vp nx sv cb us bl co op cs hi re st rw bx sf ud) (cx : Call D mx (.ref X :: As) T (.inl (some (.int v))) T1) (hX : XR T1 X va' ba' ca' dr' kl' vf' vn' vb' ve' vp' nx' sv' cb' us' bl' co' op' cs' hi' re' st') (F : fr W n u T T1) (hW : offW m o S T W) (hR : RO n0 u0 (c + 1) ba' op' bl' T1) (cm : ∀ T', MR T' m dr kl vf vn vb ve vp nx rw bx sf cb ud st op cs hi re → CallQ D mm (.ref m :: As) T' (fun q T2 => q = .inl (some (.int v)) ∧ MR T2 m dr' kl' vf' vn' vb' ve' vp' nx' rw' bx' sf' cb' ud' st' op' cs' hi' re' ∧ tI T2 278 m = nI 0 ∧ ms m T' T2)) (hK : KI kl' vf' vn' vb' ve' vp' nx' cb' rw') (hS : SI (uO kl' ve') us' cb' bl' co' op' cs' rw' bx' ud' st') (hC : CT (c + 1) dr' rw' cb' nx' sv' ud' st' hi' re') : BB S X m o L xs n0 u0 c D mx mm As T := by
  obtain ⟨h1, h2, h3, h4, h5, h6, h7⟩ := h
  have m1 := h2.fr hW F
  have o1 := h6.fr hW F
  obtain ⟨_, T2, c2, rfl, q1, q2, q3⟩ := cm _ m1
  exact ⟨v, T1, T2, cx, o1, m1.1.1, c2, LI.mk hX o1 hR m1.1 q3 q1 hK hS hC⟩
end BAS
