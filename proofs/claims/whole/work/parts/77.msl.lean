/-! the reference: save, its loop -/
section MSL
variable {d m : Nat} {dr kl : List Nat} {vf vn : Nat → Nat} {vb ve : Nat → List Nat} {vp : Nat → Option Nat} {nx : Nat → Nat} {rw : List Nat} {bx sf : Nat → Nat} {cb : Nat → List Nat} {ud st op : Nat} {cs : List Nat} {hi re : Nat} {T T' : TS}
theorem sI_ne {f g a : Nat} {v : Int32} (h : g ≠ f) : tI (sI f a v T) g a = tI T g a := by
  rw [tI_sI, up2_e, if_neg (fun q => h q.1)]
theorem sI_eq {f a : Nat} {v : Int32} : tI (sI f a v T) f a = v := by
  rw [tI_sI, up2_e, if_pos ⟨rfl, rfl⟩]
theorem MR.hiw (h : MR T m dr kl vf vn vb ve vp nx rw bx sf cb ud st op cs hi re) (hh : hi + 1 < 1000000) : MR (sI 276 m (nI (hi + 1)) T) m dr kl vf vn vb ve vp nx rw bx sf cb ud st op cs (hi + 1) re := by
  obtain ⟨h1, h2, h3, h4, h5, h6, ⟨c1, c2, c3, c4, c5⟩, b1, b2, b3, b4, b5⟩ := h
  exact ⟨h1.ms ms.sI, h2.of (sI_ne (by decide)) rfl, h3.of (fun _ _ _ => rfl), h4, h5.of (sI_ne (by decide)) (fun _ _ _ => rfl), h6.of rfl, ⟨(sI_ne (by decide)).trans c1, (sI_ne (by decide)).trans c2, (sI_ne (by decide)).trans c3, sI_eq, (sI_ne (by decide)).trans c5⟩, b1, b2, b3, hh, b5⟩
theorem MR.rew (h : MR T m dr kl vf vn vb ve vp nx rw bx sf cb ud st op cs hi re) (hh : re + 1 < 1000000) : MR (sI 277 m (nI (re + 1)) T) m dr kl vf vn vb ve vp nx rw bx sf cb ud st op cs hi (re + 1) := by
  obtain ⟨h1, h2, h3, h4, h5, h6, ⟨c1, c2, c3, c4, c5⟩, b1, b2, b3, b4, b5, b6⟩ := h
  exact ⟨h1.ms ms.sI, h2.of (sI_ne (by decide)) rfl, h3.of (fun _ _ _ => rfl), h4, h5.of (sI_ne (by decide)) (fun _ _ _ => rfl), h6.of rfl, ⟨(sI_ne (by decide)).trans c1, (sI_ne (by decide)).trans c2, (sI_ne (by decide)).trans c3, (sI_ne (by decide)).trans c4, sI_eq⟩, b1, b2, b3, b4, hh, b6⟩
theorem MR.dat {g : Nat → Int32} (h : MR T m dr kl vf vn vb ve vp nx rw bx sf cb ud st op cs hi re) (hg : ∀ j, j < ud → g j = tA T (m + 14) j) : MR (sAs (m + 14) g T) m dr kl vf vn vb ve vp nx rw bx sf cb ud st op cs hi re := by
  obtain ⟨h1, h2, h3, h4, ⟨r1, r2, r3, r4⟩, h6, h7⟩ := h
  have e : ∀ i, i ≠ 14 → tA (sAs (m + 14) g T) (m + i) = tA T (m + i) := fun i hi => by
    show up1 _ _ _ _ = _
    rw [up1_e, if_neg (by omega)]
  refine ⟨h1.ms (ms.sAs (by omega)), h2.of rfl (e 1 (by omega)), h3.of (fun i _ _ => e i (by omega)), by rw [e 9 (by omega)]; exact h4, ⟨r1, r2, ?_, fun n hn => ?_⟩, h6.of (e 15 (by omega)), h7⟩
  · rw [e 10 (by omega), e 11 (by omega), e 12 (by omega), e 13 (by omega)]
    exact r3
  · obtain ⟨b1, b2, b3, b4, b5⟩ := r4 n hn
    refine ⟨b1, b2, b3, fun j hj => ?_, b5⟩
    rw [sAs_tA, hg _ (by omega)]
    exact b4 j hj
/-- an entry of a place that no version has yet -/
def enT (m a t n : Nat) (T : TS) : TS := sA (m + 6) a (nI (t + 1)) (sA (m + 7) (30 * a + t) (nI n) T)
theorem enT_A {a t n i : Nat} (h1 : i ≠ 6) (h2 : i ≠ 7) : tA (enT m a t n T) (m + i) = tA T (m + i) := by
  funext j
  show up2 (up2 (tA T) (m + 7) (30 * a + t) (nI n)) (m + 6) a (nI (t + 1)) (m + i) j = _
  rw [up2_e, if_neg (by omega), up2_e, if_neg (by omega)]
theorem enT_6 {a t n : Nat} (k : Nat) : tA (enT m a t n T) (m + 6) k = if k = a then nI (t + 1) else tA T (m + 6) k := by
  show up2 (up2 (tA T) (m + 7) (30 * a + t) (nI n)) (m + 6) a (nI (t + 1)) (m + 6) k = _
  rw [up2_e]
  by_cases c : k = a
  · rw [if_pos ⟨rfl, c⟩, if_pos c]
  · rw [if_neg (fun q => c q.2), if_neg c, up2_e, if_neg (by omega)]
theorem enT_7 {a t n : Nat} (k : Nat) : tA (enT m a t n T) (m + 7) k = if k = 30 * a + t then nI n else tA T (m + 7) k := by
  show up2 (up2 (tA T) (m + 7) (30 * a + t) (nI n)) (m + 6) a (nI (t + 1)) (m + 7) k = _
  rw [up2_e, if_neg (by omega), up2_e]
  by_cases c : k = 30 * a + t
  · rw [if_pos ⟨rfl, c⟩, if_pos c]
  · rw [if_neg (fun q => c q.2), if_neg c]
theorem enT_ms {a t n : Nat} : ms m T (enT m a t n T) := (ms.sA (by omega)).tr (ms.sA (by omega))
theorem MR.ent {a t n : Nat} (h : MR T m dr kl vf vn vb ve vp nx rw bx sf cb ud st op cs hi re) (ha : a ∉ kl) (ht : t < 30) : MR (enT m a t n T) m dr kl vf vn vb ve vp nx rw bx sf cb ud st op cs hi re := by
  obtain ⟨h1, h2, h3, h4, h5, h6, h7⟩ := h
  refine ⟨h1.ms enT_ms, h2.of rfl (enT_A (by decide) (by decide)), fun k hk => ⟨fun hkl => ?_, fun hkl => ?_⟩, by rw [enT_A (by decide) (by decide)]; exact h4, h5.of rfl (fun i _ _ => enT_A (by omega) (by omega)), h6.of (enT_A (by decide) (by decide)), h7⟩
  · obtain ⟨a1, a2, a3, a4, a5, a6, a7, a8, a9, a10, a11⟩ := (h3 k hk).1 hkl
    have hne : k ≠ a := fun q => ha (q ▸ hkl)
    rw [enT_A (by decide) (by decide), enT_A (by decide) (by decide), enT_A (by decide) (by decide), enT_A (by decide) (by decide), enT_A (i := 8) (by decide) (by decide), enT_6, if_neg hne]
    refine ⟨a1, a2, a3, a4, a5, fun i hi => ?_, a7, a8, a9, a10, a11⟩
    rw [enT_7, if_neg (by omega)]
    exact a6 i hi
  · rw [enT_A (by decide) (by decide)]
    exact (h3 k hk).2 hkl
theorem mEn.add {a n : Nat} {es : List Nat} (h : mEn T m a es) (hl : es.length < 30) (hn : n < 1000000) : mEn (enT m a es.length n T) m a (es ++ [n]) := by
  obtain ⟨h1, h2, h3⟩ := h
  have hlen : (es ++ [n]).length = es.length + 1 := by simp
  refine ⟨by rw [enT_6, if_pos rfl, hlen], by omega, fun i hi => ?_⟩
  rw [hlen] at hi
  rw [enT_7, getD_app1 _ _ _ hi]
  by_cases c : i = es.length
  · rw [if_pos (by omega), if_pos c]
    exact ⟨rfl, hn⟩
  · rw [if_neg (by omega), if_neg c]
    exact h3 i (by omega)
theorem mEn.of {a : Nat} {es : List Nat} (h : mEn T m a es) (e6 : tA T' (m + 6) = tA T (m + 6)) (e7 : tA T' (m + 7) = tA T (m + 7)) : mEn T' m a es := by
  unfold mEn
  rw [e6, e7]
  exact h
theorem useC_lt {b : Nat} (hb : b < 1000000) (hc : ∀ k ∈ cs, k < 1000000) : ∀ k ∈ useC b cs, k < 1000000 := by
  intro k hk
  unfold useC at hk
  rcases List.mem_cons.mp (List.mem_of_mem_take hk) with rfl | hk
  · exact hb
  · exact hc k ((List.mem_filter.mp hk).1)
theorem useC_len (b : Nat) (cs : List Nat) : (useC b cs).length ≤ 3 := by
  unfold useC
  rw [List.length_take]
  omega
/-- behind the found or new row: the cache, the entry, the next piece -/
theorem sv_tail {f i a : Nat} {es : List Nat} {l3 F : Int32} {Q : Post} (h : MR T m dr kl vf vn vb ve vp nx rw bx sf cb ud st op cs hi re) (he : mEn T m a es) (hil : i < rw.length) (ha : a < 20) (hna : a ∉ kl) (hf : f < dr.length) (hes : es.length < 30) (hq : ∀ T', MR T' m dr kl vf vn vb ve vp nx rw bx sf cb ud st op (useC (bx (rw.getD i 0)) cs) hi re → mEn T' m a (es ++ [rw.getD i 0]) → tI T' 278 m = tI T 278 m → ms m T T' → Ev (d + 2) MX7_save [] 70 [(4, .int (nI (nxt dr f))), (3, .int l3), (2, .int (nI a)), (0, .ref m), (1, .int F)] [] T' Q) : Ev (d + 2) MX7_save [] 243 [(5, .int (nI i)), (4, .int (nI f)), (3, .int l3), (2, .int (nI a)), (0, .ref m), (1, .int F)] [] T Q := by
  have hlt := h.2.2.2.2.2.2.2.2.2.2.2.2.1
  obtain ⟨c1, c2, c3, c4⟩ := h.2.2.2.2.1
  obtain ⟨a1, a2, a3, a4⟩ := c3 i hil
  obtain ⟨b1, b2, b3, b4, b5⟩ := c4 _ (gD_mem hil)
  obtain ⟨⟨m1, ⟨-, -, -, -, -, r6, r7, -, -, r10, r11, r12, r13, -, r15⟩, ⟨-, -, -, -, -, k6, k7, -, -, k10, k11, k12, k13, -, k15⟩, ⟨-, -, -, -, -, l6, l7, -, -, l10, l11, l12, l13, -, l15⟩⟩, -, -, -, -, hC, -⟩ := id h
  have cu := C_useG (d := d) (c := nI (bx (rw.getD i 0))) m1 r15 k15 l15
  have h1 := h.caw (useC_len _ _) (hC.use b2 hlt) (useC_lt b2 hlt)
  have he1 : mEn (sAs (m + 15) (useG (nI (bx (rw.getD i 0))) (tA T (m + 15))) T) m a es := he.of (by rw [tA_sAs, up1_e, if_neg (by omega)]) (by rw [tA_sAs, up1_e, if_neg (by omega)])
  have hs1 : ms m T (sAs (m + 15) (useG (nI (bx (rw.getD i 0))) (tA T (m + 15))) T) := ms.sAs (by omega)
  have ht1 : tI (sAs (m + 15) (useG (nI (bx (rw.getD i 0))) (tA T (m + 15))) T) 278 m = tI T 278 m := rfl
  have x10 : tA (sAs (m + 15) (useG (nI (bx (rw.getD i 0))) (tA T (m + 15))) T) (m + 10) i = nI (rw.getD i 0) := by
    rw [tA_sAs, up1_e, if_neg (by omega)]
    exact a1
  have m1' : tK (sAs (m + 15) (useG (nI (bx (rw.getD i 0))) (tA T (m + 15))) T) m = 9 := m1
  generalize sAs (m + 15) (useG (nI (bx (rw.getD i 0))) (tA T (m + 15))) T = T1 at *
  have h2 := h1.ent (n := rw.getD i 0) hna hes
  have he2 := he1.add hes b1
  have c9 := C_end (d := d + 1) h2 hf
  have z := hs1
  obtain ⟨-, -, z1, z2, z3, -⟩ := z
  refine Z_sv7 (T1 := T1) (lr := []) m1 (by omega) ha hes r13 k13 l13 a4 cu m1' (by rw [z2]; exact r6) (by rw [z1]; exact k6) (by rw [z3]; exact l6) (by rw [z2]; exact r7) (by rw [z1]; exact k7) (by rw [z3]; exact l7) (by rw [z2]; exact r10) (by rw [z1]; exact k10) (by rw [z3]; exact l10) x10 he1.1 c9 ?_
  exact hq _ h2 he2 ht1 (hs1.tr enT_ms)
/-- a piece that has a row -/
theorem sv_found {f i a : Nat} {es : List Nat} {l3 F : Int32} {Q : Post} (h : MR T m dr kl vf vn vb ve vp nx rw bx sf cb ud st op cs hi re) (he : mEn T m a es) (hfi : fstR rw cb (sub dr (f, nxt dr f - f)) = some i) (hil : i < rw.length) (ha : a < 20) (hna : a ∉ kl) (hf : f < dr.length) (hes : es.length < 30) (hh : hi + 1 < 1000000) (hr : re + 1 < 1000000) (hq : ∀ T', MR T' m dr kl vf vn vb ve vp nx rw bx sf cb ud st op (useC (bx (rw.getD i 0)) cs) (if bx (rw.getD i 0) ∈ cs then hi + 1 else hi) (if bx (rw.getD i 0) ∈ cs then re else re + 1) → mEn T' m a (es ++ [rw.getD i 0]) → tI T' 278 m = tI T 278 m → ms m T T' → Ev (d + 2) MX7_save [] 70 [(4, .int (nI (nxt dr f))), (3, .int l3), (2, .int (nI a)), (0, .ref m), (1, .int F)] [] T' Q) : Ev (d + 2) MX7_save [] 70 [(4, .int (nI f)), (3, .int l3), (2, .int (nI a)), (0, .ref m), (1, .int F)] [] T Q := by
  obtain ⟨n1, n2, n3, n4⟩ := nxt_is hf
  have c1 := C_end (d := d + 1) h hf
  have c2 := C_find (d := d + 1) h (f := f) (t := nxt dr f) (by omega) n2
  rw [hfi, iO_s] at c2
  obtain ⟨d1, d2, d3⟩ := h.2.1
  obtain ⟨x1, x2, x3, x4⟩ := h.2.2.2.2.1
  obtain ⟨a1, a2, a3, a4⟩ := x3 i hil
  obtain ⟨b1, b2, b3, b4, b5⟩ := x4 _ (gD_mem hil)
  have c3 := C_isCached (d := d + 1) b2 h
  obtain ⟨o1, o2, o3, o4, o5⟩ := h.2.2.2.2.2.2.1
  obtain ⟨⟨m1, ⟨-, -, -, -, -, -, -, -, -, -, -, -, r13, -⟩, ⟨-, -, -, -, -, -, -, -, -, -, -, -, k13, -⟩, ⟨-, -, -, -, -, -, -, -, -, -, -, -, l13, -⟩⟩, -⟩ := id h
  refine Z_sv1 m1 d1 d2 hf c1 c2 ?_
  by_cases e : bx (rw.getD i 0) ∈ cs
  · rw [if_pos e] at c3
    simp only [if_pos e] at hq
    refine Z_sv2 m1 (by omega) r13 k13 l13 a4 c3 o4 ?_
    exact sv_tail (h.hiw hh) (he.of rfl rfl) hil ha hna hf hes (fun T' g1 g2 g3 g4 => hq T' g1 g2 (g3.trans (sI_ne (by decide))) (ms.sI.tr g4))
  · rw [if_neg e] at c3
    simp only [if_neg e] at hq
    refine Z_sv3 m1 (by omega) r13 k13 l13 a4 c3 o5 ?_
    exact sv_tail (h.rew hr) (he.of rfl rfl) hil ha hna hf hes (fun T' g1 g2 g3 g4 => hq T' g1 g2 (g3.trans (sI_ne (by decide))) (ms.sI.tr g4))
theorem sub_nxt {f : Nat} (hf : f < dr.length) : (sub dr (f, nxt dr f - f)).length = nxt dr f - f := by
  obtain ⟨n1, n2, -⟩ := nxt_is hf
  exact sub_len (q := (f, nxt dr f - f)) (by show f + (nxt dr f - f) ≤ _; omega)
/-- the bytes of a new piece are copied -/
theorem sv_copy {f a : Nat} {es : List Nat} {l3 l5 F : Int32} {Q : Post} (h1 : MR T m dr kl vf vn vb ve vp nx rw bx sf cb ud st op cs hi re) (he1 : mEn T m a es) (hf : f < dr.length) (hud2 : ud + 32 ≤ 61480) (hq : ∀ T', MR T' m dr kl vf vn vb ve vp nx rw bx sf cb ud st op cs hi re → mEn T' m a es → (∀ j, j < nxt dr f - f → tA T' (m + 14) (ud + j) = by8 (dr.getD (f + j) 0)) → tI T' 278 m = tI T 278 m → ms m T T' → Ev (d + 2) MX7_save [] 146 [(6, .int (nI (nxt dr f))), (5, .int l5), (4, .int (nI f)), (3, .int l3), (2, .int (nI a)), (0, .ref m), (1, .int F)] [] T' Q) : Ev (d + 2) MX7_save [] 146 [(6, .int (nI f)), (5, .int l5), (4, .int (nI f)), (3, .int l3), (2, .int (nI a)), (0, .ref m), (1, .int F)] [] T Q := by
  obtain ⟨n1, n2, n3, n4⟩ := nxt_is hf
  have n5 := nxt_le hf
  have d2 := h1.2.1.2.1
  have hall := dr_all h1.2.1
  have hdat : ∀ k, MR (sAs (m + 14) (fun j => if ud ≤ j ∧ j < ud + k then by8 (dr.getD (f + (j - ud)) 0) else tA T (m + 14) j) T) m dr kl vf vn vb ve vp nx rw bx sf cb ud st op cs hi re := fun k => h1.dat (fun j hj => by rw [if_neg (by omega)])
  have hen : ∀ g, mEn (sAs (m + 14) g T) m a es := fun g => he1.of (by rw [tA_sAs, up1_e, if_neg (by omega)]) (by rw [tA_sAs, up1_e, if_neg (by omega)])
  refine lpX (fun k => [(6, .int (nI (f + k))), (5, .int l5), (4, .int (nI f)), (3, .int l3), (2, .int (nI a)), (0, .ref m), (1, .int F)]) (fun k => sAs (m + 14) (fun j => if ud ≤ j ∧ j < ud + k then by8 (dr.getD (f + (j - ud)) 0) else tA T (m + 14) j) T) (nxt dr f - f) rfl ?_ ?_ ?_
  · refine (sAs_id _ _).symm.trans (sAs_x fun j => ?_)
    rw [if_neg (by omega)]
  · intro k hk hq2
    have g := hdat k
    have c3 := C_end (d := d + 1) g hf
    obtain ⟨⟨w1, ⟨r1, -, -, -, -, -, -, -, -, -, -, -, -, r14, -⟩, ⟨k1, -, -, -, -, -, -, -, -, -, -, -, -, k14, -⟩, ⟨l1, -, -, -, -, -, -, -, -, -, -, -, -, l14, -⟩⟩, ⟨e1, e2, e3⟩, -, -, -, -, ⟨-, o1, -⟩, -⟩ := g
    have x1 := (e3 (f + k) (by omega)).1
    refine Z_sv5 w1 (e := nxt dr f) (by omega) (by omega) hud2 (by omega) c3 r1 k1 l1 x1 (hall _) r14 k14 l14 o1 ?_
    rw [sA_sAs]
    refine ev_eq rfl (sAs_x fun j => ?_) hq2
    by_cases c : j = ud + k
    · subst c
      rw [if_pos rfl, if_pos (by omega), show f + (ud + k - ud) = f + k by omega]
    · rw [if_neg c]
      by_cases c2 : ud ≤ j ∧ j < ud + k
      · rw [if_pos c2, if_pos (by omega)]
      · rw [if_neg c2, if_neg (by omega)]
  · have hD : ∀ j, j < nxt dr f - f → tA (sAs (m + 14) (fun j => if ud ≤ j ∧ j < ud + (nxt dr f - f) then by8 (dr.getD (f + (j - ud)) 0) else tA T (m + 14) j) T) (m + 14) (ud + j) = by8 (dr.getD (f + j) 0) := fun j hj => by
      rw [sAs_tA, if_pos (by omega), show f + (ud + j - ud) = f + j by omega]
    have hq9 := hq _ (hdat (nxt dr f - f)) (hen _) hD (by rw [tI_sAs]) (ms.sAs (by omega))
    have ef : f + (nxt dr f - f) = nxt dr f := by omega
    rw [ef]
    exact hq9
/-- a new row with its bytes, the counters behind it -/
theorem MR.putN {L o : Nat} {bs : List Nat} (h : MR T m dr kl vf vn vb ve vp nx rw bx sf cb ud st op cs hi re) (hbs : bs.length = L) (hb32 : L ≤ 32) (hst : ∀ n ∈ rw, n < st) (hs1 : st + 1 < 1000000) (ho : o < 1000000) (hrl : rw.length < 7690) (hud : ud + L ≤ 61440) (hD : ∀ j, j < L → tA T (m + 14) (ud + j) = by8 (bs.getD j 0) ∧ bs.getD j 0 < 256) : MR (sI 267 m (nI (st + 1)) (sI 272 m (nI (ud + L)) (putT m rw.length st ud L o T))) m dr kl vf vn vb ve vp nx (rw ++ [st]) (up1 bx st o) (up1 sf st ud) (up1 cb st bs) (ud + L) (st + 1) o cs hi re := by
  obtain ⟨h1, h2, h3, h4, h5, h6, ⟨q1, q2, q3, q4, q5⟩, b1, b2, b3, b⟩ := h
  have hP5 := h5.put (T' := putT m rw.length st ud L o T) (n := st) (op' := o) (s := ud) (bs := bs) (ud' := ud + L) (fun q => Nat.lt_irrefl _ (hst _ q)) b2 ho hrl (by omega) (by omega) (by omega) putT_266 putT_10 putT_11 (by rw [hbs]; exact putT_12) putT_13 (fun j _ => by rw [putT_A (Or.inr (by omega))]) (fun j hj => by
    rw [putT_A (Or.inr (by omega))]
    exact hD j (by omega))
  have hdr2 : mDr (putT m rw.length st ud L o T) m dr := h2.of (putT_I (by decide) (by decide)) (putT_A (Or.inl (by omega)))
  have hmd2 : mdl (putT m rw.length st ud L o T) m := h1.ms putT_ms
  have h3' : mVe (putT m rw.length st ud L o T) m kl vf vn vb ve vp := h3.of (fun i _ h2 => putT_A (Or.inl (by omega)))
  have h6' : mCa (putT m rw.length st ud L o T) m cs := h6.of (putT_A (Or.inr (by omega)))
  have h4' : ∀ i, i < 6 → tA (putT m rw.length st ud L o T) (m + 9) i = nI (nx i) ∧ nx i < 1000000 := by
    rw [putT_A (Or.inl (by omega))]
    exact h4
  have hI : ∀ g, g ≠ 266 → g ≠ 274 → tI (putT m rw.length st ud L o T) g m = tI T g m := fun g h1 h2 => putT_I h1 h2
  have hI4 : tI (putT m rw.length st ud L o T) 274 m = nI o := putT_274
  generalize putT m rw.length st ud L o T = T3 at *
  have e1 : ∀ g, g ≠ 267 → g ≠ 272 → tI (sI 267 m (nI (st + 1)) (sI 272 m (nI (ud + L)) T3)) g m = tI T3 g m := fun g h1 h2 => (sI_ne h1).trans (sI_ne h2)
  have hms : ms m T3 (sI 267 m (nI (st + 1)) (sI 272 m (nI (ud + L)) T3)) := ms.sI.tr ms.sI
  have eA : tA (sI 267 m (nI (st + 1)) (sI 272 m (nI (ud + L)) T3)) = tA T3 := by rw [tA_sI, tA_sI]
  have e7 : tI (sI 267 m (nI (st + 1)) (sI 272 m (nI (ud + L)) T3)) 267 m = nI (st + 1) := sI_eq
  have e72 : tI (sI 267 m (nI (st + 1)) (sI 272 m (nI (ud + L)) T3)) 272 m = nI (ud + L) := (sI_ne (by decide)).trans sI_eq
  generalize sI 267 m (nI (st + 1)) (sI 272 m (nI (ud + L)) T3) = T4 at *
  refine ⟨hmd2.ms hms, hdr2.of (e1 256 (by decide) (by decide)) (by rw [eA]), h3'.of (fun i _ _ => by rw [eA]), by rw [eA]; exact h4', hP5.of (e1 266 (by decide) (by decide)) (fun i _ _ => by rw [eA]), h6'.of (by rw [eA]), ⟨e7, e72, (e1 274 (by decide) (by decide)).trans hI4, ((e1 276 (by decide) (by decide)).trans (hI 276 (by decide) (by decide))).trans q4, ((e1 277 (by decide) (by decide)).trans (hI 277 (by decide) (by decide))).trans q5⟩, hud, hs1, ho, b⟩
/-- a new piece -/
theorem sv_new {f a : Nat} {es : List Nat} {l3 F : Int32} {Q : Post} (h : MR T m dr kl vf vn vb ve vp nx rw bx sf cb ud st op cs hi re) (he : mEn T m a es) (hfi : fstR rw cb (sub dr (f, nxt dr f - f)) = none) (ha : a < 20) (hna : a ∉ kl) (hf : f < dr.length) (hes : es.length < 30) (hr : re + 1 < 1000000) (hst : ∀ n ∈ rw, n < st) (hs1 : st + 1 < 1000000) (ho1 : op + 1 < 1000000) (hrl : rw.length < 7690) (hud : ud + (nxt dr f - f) ≤ 61440) (hud2 : ud + 32 ≤ 61480) (hq : ∀ T', MR T' m dr kl vf vn vb ve vp nx (rw ++ [st]) (up1 bx st (opR rw bx cb op (nxt dr f - f))) (up1 sf st ud) (up1 cb st (sub dr (f, nxt dr f - f))) (ud + (nxt dr f - f)) (st + 1) (opR rw bx cb op (nxt dr f - f)) (useC (opR rw bx cb op (nxt dr f - f)) cs) hi (re + 1) → mEn T' m a (es ++ [st]) → tI T' 278 m = tI T 278 m → ms m T T' → Ev (d + 2) MX7_save [] 70 [(4, .int (nI (nxt dr f))), (3, .int l3), (2, .int (nI a)), (0, .ref m), (1, .int F)] [] T' Q) : Ev (d + 2) MX7_save [] 70 [(4, .int (nI f)), (3, .int l3), (2, .int (nI a)), (0, .ref m), (1, .int F)] [] T Q := by
  obtain ⟨n1, n2, n3, n4⟩ := nxt_is hf
  have n5 := nxt_le hf
  have c1 := C_end (d := d + 1) h hf
  have c2 := C_find (d := d + 1) h (f := f) (t := nxt dr f) (by omega) n2
  rw [hfi, iO_n] at c2
  obtain ⟨d1, d2, d3⟩ := h.2.1
  have m1 := h.1.1
  have hall := dr_all h.2.1
  refine Z_sv1 m1 d1 d2 hf c1 c2 (Z_sv4 m1 h.2.2.2.2.2.2.1.2.2.2.2 ?_)
  have h1 := h.rew hr
  have he1 : mEn (sI 277 m (nI (re + 1)) T) m a es := he.of (by rw [tA_sI]) (by rw [tA_sI])
  have ht1 : tI (sI 277 m (nI (re + 1)) T) 278 m = tI T 278 m := sI_ne (by decide)
  have hms1 : ms m T (sI 277 m (nI (re + 1)) T) := ms.sI
  clear h he c1 c2 d1 d3 m1
  generalize sI 277 m (nI (re + 1)) T = T1 at *
  refine sv_copy h1 he1 hf hud2 (fun T2 g he2 hD ht2 hms2 => ?_)
  have c3 := C_end (d := d + 1) g hf
  have c4 := C_putRow (d := d) (n := st) (s := ud) (k := nxt dr f - f) g hrl (by omega)
  have ho : opR rw bx cb op (nxt dr f - f) < 1000000 := by unfold opR; split <;> omega
  generalize opR rw bx cb op (nxt dr f - f) = o at *
  have hP := g.putN (L := nxt dr f - f) (o := o) (bs := sub dr (f, nxt dr f - f)) (sub_nxt hf) (by omega) hst hs1 ho hrl hud (fun j hj => by
    rw [hD j hj, sub_getD hj]
    exact ⟨rfl, hall _⟩)
  obtain ⟨h1', h2', -, -, -, -, ⟨q1, q2, q3, q4, q5⟩, -⟩ := g
  have hdr2 : mDr (putT m rw.length st ud (nxt dr f - f) o T2) m dr := h2'.of (putT_I (by decide) (by decide)) (putT_A (Or.inl (by omega)))
  have hmd2 : mdl (putT m rw.length st ud (nxt dr f - f) o T2) m := h1'.ms putT_ms
  have c5 := C_endD (d := d + 1) hmd2 hdr2 hf
  have p1 : tI (putT m rw.length st ud (nxt dr f - f) o T2) 272 m = nI ud := (putT_I (by decide) (by decide)).trans q2
  have p2 : tI (putT m rw.length st ud (nxt dr f - f) o T2) 267 m = nI st := (putT_I (by decide) (by decide)).trans q1
  have p3 : tI (putT m rw.length st ud (nxt dr f - f) o T2) 266 m = nI (rw.length + 1) := putT_266
  have p4 : tI (putT m rw.length st ud (nxt dr f - f) o T2) 278 m = tI T2 278 m := putT_I (by decide) (by decide)
  have hen2 : mEn (putT m rw.length st ud (nxt dr f - f) o T2) m a es := he2.of (putT_A (Or.inl (by omega))) (putT_A (Or.inl (by omega)))
  have hms3 : ms m T2 (putT m rw.length st ud (nxt dr f - f) o T2) := putT_ms
  generalize putT m rw.length st ud (nxt dr f - f) o T2 = T3 at *
  refine Z_sv6 (T1 := T3) h1'.1 n1 (by omega) c3 q2 q1 c4 c5 hmd2.1 p1 p2 p3 ?_
  have hen3 : mEn (sI 267 m (nI (st + 1)) (sI 272 m (nI (ud + (nxt dr f - f))) T3)) m a es := hen2.of (by rw [tA_sI, tA_sI]) (by rw [tA_sI, tA_sI])
  have hms4 : ms m T3 (sI 267 m (nI (st + 1)) (sI 272 m (nI (ud + (nxt dr f - f))) T3)) := ms.sI.tr ms.sI
  have p5 : tI (sI 267 m (nI (st + 1)) (sI 272 m (nI (ud + (nxt dr f - f))) T3)) 278 m = tI T3 278 m := (sI_ne (by decide)).trans (sI_ne (by decide))
  generalize sI 267 m (nI (st + 1)) (sI 272 m (nI (ud + (nxt dr f - f))) T3) = T4 at *
  have eg : (rw ++ [st]).getD rw.length 0 = st := by rw [getD_app1 _ _ _ (by omega), if_pos rfl]
  have eb : up1 bx st o st = o := by rw [up1_e, if_pos rfl]
  have H := sv_tail (d := d) (f := f) (i := rw.length) (a := a) (es := es) (l3 := l3) (F := F) (Q := Q) hP hen3 (by rw [List.length_append, List.length_singleton]; omega) ha hna hf hes (fun T' y1 y2 y3 y4 => by
    rw [eg, eb] at y1
    rw [eg] at y2
    exact hq T' y1 y2 ((((y3.trans p5).trans p4).trans ht2).trans ht1) ((((hms1.tr hms2).tr hms3).tr hms4).tr y4))
  exact ev_more (by repeat (first | exact trivial | refine ⟨rfl, ?_⟩)) (by exact rfl) (by exact rfl) H
/-- what a save keeps of the chunks -/
abbrev QS : Type := List Nat × (Nat → Nat) × (Nat → Nat) × (Nat → List Nat) × Nat × Nat × Nat × List Nat × Nat × Nat × List Nat
/-- one piece -/
def qS (Z : QS) (bs : List Nat) : QS := match Z with
  | (rw, bx, sf, cb, ud, st, op, cs, hi, re, es) => match fstR rw cb bs with
    | some i => (rw, bx, sf, cb, ud, st, op, useC (bx (rw.getD i 0)) cs, if bx (rw.getD i 0) ∈ cs then hi + 1 else hi, if bx (rw.getD i 0) ∈ cs then re else re + 1, es ++ [rw.getD i 0])
    | none => (rw ++ [st], up1 bx st (opR rw bx cb op bs.length), up1 sf st ud, up1 cb st bs, ud + bs.length, st + 1, opR rw bx cb op bs.length, useC (opR rw bx cb op bs.length) cs, hi, re + 1, es ++ [st])
def MQs (T : TS) (m : Nat) (dr kl : List Nat) (vf vn : Nat → Nat) (vb ve : Nat → List Nat) (vp : Nat → Option Nat) (nx : Nat → Nat) (a : Nat) (Z : QS) : Prop := match Z with
  | (rw, bx, sf, cb, ud, st, op, cs, hi, re, es) => MR T m dr kl vf vn vb ve vp nx rw bx sf cb ud st op cs hi re ∧ mEn T m a es
/-- room for the pieces L: bytes and rows, or all of them are there -/
def qOK (L : List (List Nat)) (Z : QS) : Prop := match Z with
  | (rw, bx, sf, cb, ud, st, op, cs, hi, re, es) => st + L.length < 1000000 ∧ op + L.length < 1000000 ∧ hi + L.length < 1000000 ∧ re + L.length < 1000000 ∧ es.length + L.length ≤ 30 ∧ (∀ k ∈ rw, k < st) ∧ ((rw.length + L.length ≤ 7690 ∧ ud + (L.map List.length).sum ≤ 61440) ∨ ∀ bs ∈ L, fstR rw cb bs ≠ none)
theorem fstR_some {bs : List Nat} {i : Nat} (h : fstR rw cb bs = some i) : i < rw.length ∧ cb (rw.getD i 0) = bs ∧ ∀ j, j < i → ¬ cb (rw.getD j 0) = bs := by
  unfold fstR at h
  obtain ⟨-, q1, q2, q3⟩ := ups_is (fun i => ¬ cb (rw.getD i 0) = bs) rw.length 0
  split at h
  · rename_i hl
    cases h
    refine ⟨hl, ?_, fun j hj => ?_⟩
    · have := q3.resolve_left (by omega)
      exact Classical.not_not.mp this
    · have := q2 j (Nat.zero_le _) (by omega)
      exact this
  · cases h
theorem qS_ok {L : List (List Nat)} {Z : QS} {bs : List Nat} (h : qOK (bs :: L) Z) : qOK L (qS Z bs) := by
  obtain ⟨rw, bx, sf, cb, ud, st, op, cs, hi, re, es⟩ := Z
  obtain ⟨h3, h4, h5, h6, h7, h8, h9⟩ := h
  rw [List.length_cons] at h3 h4 h5 h6 h7 h9
  unfold qS
  dsimp only
  cases e : fstR rw cb bs with
  | some i =>
    refine ⟨by omega, by omega, ?_, ?_, ?_, h8, ?_⟩
    · split <;> omega
    · split <;> omega
    · rw [List.length_append, List.length_singleton]; omega
    · rcases h9 with ⟨h1, h2⟩ | h9
      · rw [List.map_cons, List.sum_cons] at h2
        exact Or.inl ⟨by omega, by omega⟩
      · exact Or.inr (fun b hb => h9 b (List.mem_cons_of_mem _ hb))
  | none =>
    rcases h9 with ⟨h1, h2⟩ | h9
    · rw [List.map_cons, List.sum_cons] at h2
      refine ⟨by omega, ?_, by omega, by omega, ?_, fun k hk => ?_, Or.inl ⟨?_, by omega⟩⟩
      · unfold opR; split <;> omega
      · rw [List.length_append, List.length_singleton]; omega
      · rcases List.mem_append.mp hk with hk | hk
        · have := h8 k hk; omega
        · rw [List.mem_singleton] at hk; omega
      · rw [List.length_append, List.length_singleton]; omega
    · exact absurd e (h9 bs (List.mem_cons_self ..))
/-- one piece, at the machine -/
theorem sv_step {f a : Nat} {L : List (List Nat)} {l3 F : Int32} {Q : Post} {Z : QS} (h : MQs T m dr kl vf vn vb ve vp nx a Z) (ho : qOK (sub dr (f, nxt dr f - f) :: L) Z) (ha : a < 20) (hna : a ∉ kl) (hf : f < dr.length) (hq : ∀ T', MQs T' m dr kl vf vn vb ve vp nx a (qS Z (sub dr (f, nxt dr f - f))) → tI T' 278 m = tI T 278 m → ms m T T' → Ev (d + 2) MX7_save [] 70 [(4, .int (nI (nxt dr f))), (3, .int l3), (2, .int (nI a)), (0, .ref m), (1, .int F)] [] T' Q) : Ev (d + 2) MX7_save [] 70 [(4, .int (nI f)), (3, .int l3), (2, .int (nI a)), (0, .ref m), (1, .int F)] [] T Q := by
  obtain ⟨rw, bx, sf, cb, ud, st, op, cs, hi, re, es⟩ := Z
  obtain ⟨h1, h2⟩ := h
  obtain ⟨o3, o4, o5, o6, o7, o8, o9⟩ := ho
  rw [List.length_cons] at o3 o4 o5 o6 o7 o9
  have hbl := sub_nxt hf
  unfold qS at hq
  dsimp only at hq
  cases e : fstR rw cb (sub dr (f, nxt dr f - f)) with
  | some i =>
    rw [e] at hq
    exact sv_found h1 h2 e (fstR_some e).1 ha hna hf (by omega) (by omega) (by omega) (fun T' g1 g2 g3 g4 => hq T' ⟨g1, g2⟩ g3 g4)
  | none =>
    rw [e, hbl] at hq
    obtain ⟨o1, o2⟩ := o9.resolve_right (fun q => q _ (List.mem_cons_self ..) e)
    rw [List.map_cons, List.sum_cons, hbl] at o2
    exact sv_new h1 h2 e ha hna hf (by omega) (by omega) o8 (by omega) (by omega) (by omega) (by omega) (by omega) (fun T' g1 g2 g3 g4 => hq T' ⟨g1, g2⟩ g3 g4)
/-- all pieces from f on -/
theorem sv_loop {a : Nat} {l3 F : Int32} {Q : Post} (ha : a < 20) (hna : a ∉ kl) (hdl : dr.length ≤ 240) : ∀ f, f ≤ dr.length → ∀ (Z : QS) (T : TS), MQs T m dr kl vf vn vb ve vp nx a Z → qOK ((cuts dr f).map (sub dr)) Z → (∀ T', MQs T' m dr kl vf vn vb ve vp nx a (((cuts dr f).map (sub dr)).foldl qS Z) → tI T' 278 m = tI T 278 m → ms m T T' → Ev (d + 2) MX7_save [] 298 [(4, .int (nI dr.length)), (3, .int l3), (2, .int (nI a)), (0, .ref m), (1, .int F)] [] T' Q) → Ev (d + 2) MX7_save [] 70 [(4, .int (nI f)), (3, .int l3), (2, .int (nI a)), (0, .ref m), (1, .int F)] [] T Q := by
  refine cuts_ind (xs := dr) (fun f hf hfl Z T h ho hq => ?_) (fun f hf ih hfl Z T h ho hq => ?_)
  · have ef : f = dr.length := by omega
    rw [cuts_nil hf] at hq
    have hq9 := hq T h rfl ms.rf
    obtain ⟨rw, bx, sf, cb, ud, st, op, cs, hi, re, es⟩ := Z
    obtain ⟨h1, h2⟩ := h
    refine Z_sv1e h1.1.1 h1.2.1.1 hdl ef ?_
    rw [ef]
    exact hq9
  · obtain ⟨n1, n2, n3, n4⟩ := nxt_is hf
    rw [cuts_cons hf] at hq ho
    rw [List.map_cons] at ho
    refine sv_step h ho ha hna hf (fun T' g1 g2 g3 => ?_)
    refine ih n2 _ T' g1 (qS_ok ho) (fun T2 y1 y2 y3 => hq T2 ?_ (y2.trans g2) (g3.tr y3))
    rw [List.map_cons, List.foldl_cons]
    exact y1
end MSL
