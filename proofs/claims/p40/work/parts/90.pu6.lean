/-! save: both sides, a piece -/
section PU6
variable {cb : Nat → List Nat} {U us : Nat → Nat} {bl : List Nat} {co : Nat → List Nat} {op : Nat} {cs rw : List Nat} {bx : Nat → Nat} {ud st : Nat}
theorem fstR_none {bs : List Nat} : fstR rw cb bs = none ↔ ∀ n ∈ rw, ¬ cb n = bs := by
  obtain ⟨-, q1, q2, q3⟩ := ups_is (fun i => ¬ cb (rw.getD i 0) = bs) rw.length 0
  unfold fstR
  constructor
  · intro h n hn
    split at h
    · cases h
    · rename_i hl
      obtain ⟨i, hi, e⟩ := List.mem_iff_getElem.mp hn
      have := q2 i (Nat.zero_le _) (by omega)
      rw [List.getD_eq_getElem?_getD, List.getElem?_eq_getElem hi, e] at this
      exact this
  · intro h
    by_cases hl : ups (fun i => ¬ cb (rw.getD i 0) = bs) rw.length 0 < rw.length
    · exfalso
      have := q3.resolve_left (by omega)
      exact this (h _ (gD_mem hl))
    · rw [if_neg hl]
theorem fstR_got {bs : List Nat} {i : Nat} (h : fstR rw cb bs = some i) : rw.getD i 0 ∈ rw ∧ cb (rw.getD i 0) = bs := by
  obtain ⟨h1, h2, -⟩ := fstR_some h
  exact ⟨gD_mem h1, h2⟩
/-- the bytes are found in a container just if that has them -/
theorem fin_is (h : BR (bl, co, op) rw bx) {bs : List Nat} {k : Nat} (hk : k ∈ bl) : (∀ n, fin cb co bs k = some n → n ∈ rw ∧ bx n = k ∧ cb n = bs) ∧ (fin cb co bs k = none → ∀ n ∈ rw, bx n = k → ¬ cb n = bs) := by
  unfold fin
  constructor
  · intro n e
    have h1 := List.mem_of_find?_eq_some e
    have h2 := List.find?_some e
    simp only [decide_eq_true_eq] at h2
    obtain ⟨h3, h4⟩ := (h.co hk).mp h1
    exact ⟨h3, h4, h2⟩
  · intro e n hn hb hc
    have := List.find?_eq_none.mp e n ((h.co hk).mpr ⟨hn, hb⟩)
    exact this (decide_eq_true hc)
theorem fs_some {f : Nat → Option Nat} {n : Nat} : ∀ {l : List Nat}, l.findSome? f = some n → ∃ k ∈ l, f k = some n := by
  intro l
  induction l with
  | nil => intro h; cases h
  | cons a l ih =>
    intro h
    rw [List.findSome?_cons] at h
    split at h
    · rename_i b hb
      cases h
      exact ⟨a, List.mem_cons_self .., hb⟩
    · obtain ⟨k, hk, e⟩ := ih h
      exact ⟨k, List.mem_cons_of_mem _ hk, e⟩
theorem fs_none {f : Nat → Option Nat} : ∀ {l : List Nat}, l.findSome? f = none → ∀ k ∈ l, f k = none := fun {l} h k hk => List.findSome?_eq_none_iff.mp h k hk
/-- where the bytes are found -/
theorem SI.find (h : SI U us cb bl co op cs rw bx ud st) {bs : List Nat} {n : Nat} (hn : n ∈ rw) (hb : cb n = bs) : bl.findSome? (fin cb co bs) = some n ∧ cs.findSome? (fin cb co bs) = if bx n ∈ cs then some n else none := by
  obtain ⟨h1, h2, h3, h4, h5, h6, h7⟩ := h
  have hu : ∀ k ∈ bl, ∀ x, fin cb co bs k = some x → x = n := fun k hk x e => by
    obtain ⟨a1, a2, a3⟩ := (fin_is h1 hk).1 x e
    exact h4 x a1 n hn (by rw [a3, hb])
  have hin : ∀ l : List Nat, (∀ k ∈ l, k ∈ bl) → bx n ∈ l → l.findSome? (fin cb co bs) = some n := fun l hl hm => by
    cases e : l.findSome? (fin cb co bs) with
    | some x =>
      obtain ⟨k, hk, e2⟩ := fs_some e
      rw [hu k (hl k hk) x e2]
    | none =>
      have := fs_none e (bx n) hm
      exact absurd hb ((fin_is h1 (hl _ hm)).2 this n hn rfl)
  refine ⟨hin bl (fun k hk => hk) (h1.at hn).1, ?_⟩
  by_cases e : bx n ∈ cs
  · rw [if_pos e]
    exact hin cs h7 e
  · rw [if_neg e]
    cases e2 : cs.findSome? (fin cb co bs) with
    | none => rfl
    | some x =>
      exfalso
      obtain ⟨k, hk, e3⟩ := fs_some e2
      have e4 := hu k (h7 k hk) x e3
      obtain ⟨-, a2, -⟩ := (fin_is h1 (h7 k hk)).1 x e3
      rw [e4] at a2
      exact e (by rw [a2]; exact hk)
theorem SI.nof (h : SI U us cb bl co op cs rw bx ud st) {bs : List Nat} (hb : ∀ n ∈ rw, ¬ cb n = bs) : bl.findSome? (fin cb co bs) = none ∧ cs.findSome? (fin cb co bs) = none := by
  obtain ⟨h1, h2, h3, h4, h5, h6, h7⟩ := h
  have hin : ∀ l : List Nat, (∀ k ∈ l, k ∈ bl) → l.findSome? (fin cb co bs) = none := fun l hl => by
    cases e : l.findSome? (fin cb co bs) with
    | none => rfl
    | some x =>
      obtain ⟨k, hk, e2⟩ := fs_some e
      obtain ⟨a1, a2, a3⟩ := (fin_is h1 (hl k hk)).1 x e2
      exact absurd a3 (hb x a1)
  exact ⟨hin bl (fun k hk => hk), hin cs h7⟩
theorem BR.cof (h : BR (bl, co, op) rw bx) {n : Nat} (hn : n ∈ rw) : cOf bl co n = bx n := by
  unfold cOf
  cases e : bl.find? (fun k => decide (n ∈ co k)) with
  | none =>
    have := List.find?_eq_none.mp e (bx n) (h.at hn).1
    exact absurd (decide_eq_true (h.at hn).2) this
  | some k =>
    have h1 := List.mem_of_find?_eq_some e
    have h2 := List.find?_some e
    simp only [decide_eq_true_eq] at h2
    exact ((h.co h1).mp h2).2.symm
theorem cntS_app (es : List Nat) (m n : Nat) : cntS (es ++ [m]) n = cntS es n + if m = n then 1 else 0 := by
  unfold cntS
  rw [List.map_append, List.sum_append]
  rfl
theorem cntS_len (es : List Nat) (n : Nat) : cntS es n ≤ es.length := by
  unfold cntS
  induction es with
  | nil => exact Nat.le_refl _
  | cons a l ih =>
    rw [List.map_cons, List.sum_cons, List.length_cons]
    split <;> omega
theorem cntS_no {es : List Nat} {n : Nat} (h : n ∉ es) : cntS es n = 0 := by
  unfold cntS
  induction es with
  | nil => rfl
  | cons a l ih =>
    rw [List.map_cons, List.sum_cons, if_neg (fun q => h (by rw [q]; exact List.mem_cons_self ..)), ih (fun q => h (List.mem_cons_of_mem _ q))]
theorem useC_in {b : Nat} {l : List Nat} (hb : b ∈ l) (hc : ∀ k ∈ cs, k ∈ l) : ∀ k ∈ useC b cs, k ∈ l := by
  intro k hk
  unfold useC at hk
  rcases List.mem_cons.mp (List.mem_of_mem_take hk) with q | q
  · rw [q]; exact hb
  · exact hc k (List.mem_filter.mp q).1
theorem byS_up {n : Nat} {bs : List Nat} {l : List Nat} (h : n ∉ l) : byS (up1 cb n bs) l = byS cb l := by
  unfold byS
  congr 1
  exact List.map_congr_left (fun x hx => by rw [upn hx h])
theorem bIn_up {n c : Nat} {bs : List Nat} {R : List Nat} (h : n ∉ R) : bIn R bx (up1 cb n bs) c = bIn R bx cb c := by
  unfold bIn
  congr 1
  exact List.map_congr_left (fun x hx => by rw [upn hx h])
/-- what a save holds, on both sides -/
def ZQ (U : Nat → Nat) (Z : ZS) (Q : QS) : Prop := match Q with
  | (rw, bx, sf, cb, ud, st, op, cs, hi, re, es) => zcb Z = cb ∧ zst Z = st ∧ zop Z = op ∧ zcs Z = cs ∧ zhi Z = hi ∧ zre Z = re ∧ zes Z = es ∧ SI (fun n => U n + cntS es n) (zus Z) cb (zbl Z) (zco Z) op cs rw bx ud st ∧ (∀ n ∈ es, n ∈ rw) ∧ (∀ n, st ≤ n → U n = 0) ∧ ∀ n, U n ≤ 600
theorem ZQ.step {Z : ZS} {rw : List Nat} {bx sf : Nat → Nat} {cb : Nat → List Nat} {ud st op : Nat} {cs : List Nat} {hi re : Nat} {es bs : List Nat} {L : List (List Nat)} (h : ZQ U Z (rw, bx, sf, cb, ud, st, op, cs, hi, re, es)) (ho : qOK (bs :: L) (rw, bx, sf, cb, ud, st, op, cs, hi, re, es)) (hud : ud ≤ 61440) (h1 : 1 ≤ bs.length) (h32 : bs.length ≤ 32) : zOK Z bs ∧ ZQ U (zS Z bs) (qS (rw, bx, sf, cb, ud, st, op, cs, hi, re, es) bs) := by
  obtain ⟨zc, zu, zb, zo, zp, zk, zh, zr, zt, ze⟩ := Z
  obtain ⟨e1, e2, e3, e4, e5, e6, e7, hS, hes, hU0, hU6⟩ := h
  simp only [zcb, zst, zop, zcs, zhi, zre, zes, zus, zbl, zco] at e1 e2 e3 e4 e5 e6 e7 hS
  subst e1 e2 e3 e4 e5 e6 e7
  have hS0 := hS
  obtain ⟨s1, s2, s3, s4, s5, s6, s7⟩ := hS
  have hop := hS0.op hud
  obtain ⟨o3, o4, o5, o6, o7, o8, o9⟩ := ho
  rw [List.length_cons] at o3 o4 o5 o6 o7
  have hzk : zOK (zc, zu, zb, zo, zp, zk, zh, zr, zt, ze) bs := by
    simp only [zOK, zcb, zst, zop, zcs, zhi, zre, zes, zus, zbl, zco]
    refine ⟨s7, by omega, by omega, h1, by omega, by omega, by omega, by omega, fun k hk n hn => ?_, ?_, by omega, fun n hn => ?_, fun k hk n hn => ?_⟩
    · exact (s3 n ((s1.co hk).mp hn).1).1
    · refine len_by _ (fun n hn => ?_)
      exact (s3 n ((s1.co s1.o).mp hn).1).2.1
    · exact ⟨bx n, s1.at (hes n hn)⟩
    · have a1 := (s3 n ((s1.co hk).mp hn).1).2.2.2
      have a2 := hU6 n
      have a3 := cntS_len ze n
      dsimp only at a1
      omega
  refine ⟨hzk, ?_⟩
  cases e : fstR rw zc bs with
  | some i =>
    obtain ⟨f1, f2⟩ := fstR_got e
    have eq : qS (rw, bx, sf, zc, ud, zt, zp, zk, zh, zr, ze) bs = (rw, bx, sf, zc, ud, zt, zp, useC (bx (rw.getD i 0)) zk, if bx (rw.getD i 0) ∈ zk then zh + 1 else zh, if bx (rw.getD i 0) ∈ zk then zr else zr + 1, ze ++ [rw.getD i 0]) := by
      unfold qS
      dsimp only
      rw [e]
    rw [eq]
    clear eq e
    generalize rw.getD i 0 = n at *
    obtain ⟨g1, g2⟩ := hS0.find f1 f2
    have hc := s1.cof f1
    have ez : zS (zc, zu, zb, zo, zp, zk, zh, zr, zt, ze) bs = (zc, up1 zu n (zu n + 1), zb, zo, zp, useC (bx n) zk, if bx n ∈ zk then zh + 1 else zh, if bx n ∈ zk then zr else zr + 1, zt, ze ++ [n]) := by
      unfold zS
      simp only [zcb, zst, zop, zcs, zhi, zre, zes, zus, zbl, zco]
      rw [g2]
      by_cases q : bx n ∈ zk
      · simp only [if_pos q, hc]
      · simp only [if_neg q, g1, hc]
    rw [ez]
    refine ⟨rfl, rfl, rfl, rfl, rfl, rfl, rfl, ⟨s1, s2, fun x hx => ?_, s4, s5, s6, useC_in (s1.at f1).1 s7⟩, fun x hx => ?_, hU0, hU6⟩
    · obtain ⟨a1, a2, a3, a4⟩ := s3 x hx
      refine ⟨a1, a2, a3, ?_⟩
      show up1 zu n (zu n + 1) x = U x + cntS (ze ++ [n]) x
      dsimp only at a4
      rw [cntS_app, up1_e]
      by_cases q : x = n
      · subst q
        rw [if_pos rfl, if_pos rfl, a4]
        omega
      · rw [if_neg q, if_neg (fun q2 => q q2.symm), a4]
        omega
    · rcases List.mem_append.mp hx with hx | hx
      · exact hes x hx
      · rw [List.mem_singleton.mp hx]; exact f1
  | none =>
    have f1 := fstR_none.mp e
    obtain ⟨g1, g2⟩ := hS0.nof f1
    have hn : zt ∉ rw := fun q => absurd (s3 zt q).1 (Nat.lt_irrefl _)
    have hne : zt ∉ ze := fun q => hn (hes zt q)
    have eq : qS (rw, bx, sf, zc, ud, zt, zp, zk, zh, zr, ze) bs = (rw ++ [zt], up1 bx zt (opR rw bx zc zp bs.length), up1 sf zt ud, up1 zc zt bs, ud + bs.length, zt + 1, opR rw bx zc zp bs.length, useC (opR rw bx zc zp bs.length) zk, zh, zr + 1, ze ++ [zt]) := by
      unfold qS
      dsimp only
      rw [e]
    have hl : (up1 zc zt bs zt).length = bs.length := by rw [up1_e, if_pos rfl]
    have hbn : ∀ c, bIn rw bx (up1 zc zt bs) c = bIn rw bx zc c := fun c => bIn_up hn
    have hoR : opR rw bx (up1 zc zt bs) zp bs.length = opR rw bx zc zp bs.length := by
      unfold opR
      rw [hbn]
    obtain ⟨p1, p2⟩ := s1.put (cb := up1 zc zt bs) hn (by omega)
    have p3 := pot_put (cb := up1 zc zt bs) hn s1.2.2 (by omega)
    have p4 := cap_put (cb := up1 zc zt bs) hn s1.2.2 (by omega) (fun k => by rw [hbn]; exact s6 k)
    dsimp only at p1 p2 p3 p4
    rw [hl, hoR] at p1 p2 p3 p4
    have hpt : pot (up1 zc zt bs) rw bx zp = pot zc rw bx zp := by
      unfold pot
      rw [hbn, byS_up hn]
    have ez : zS (zc, zu, zb, zo, zp, zk, zh, zr, zt, ze) bs = (up1 zc zt bs, up1 zu zt 1, (pS (up1 zc zt bs) (zb, zo, zp) zt).1, (pS (up1 zc zt bs) (zb, zo, zp) zt).2.1, (pS (up1 zc zt bs) (zb, zo, zp) zt).2.2, useC (pS (up1 zc zt bs) (zb, zo, zp) zt).2.2 zk, zh, zr + 1, zt + 1, ze ++ [zt]) := by
      unfold zS
      simp only [zcb, zst, zop, zcs, zhi, zre, zes, zus, zbl, zco]
      rw [g2]
      simp only [g1]
      unfold pS
      dsimp only
      rw [hl]
    rw [ez, eq]
    refine ⟨rfl, rfl, p2, ?_, rfl, rfl, rfl, ⟨?_, ?_, fun x hx => ?_, fun x hx y hy q => ?_, by omega, p4, ?_⟩, fun x hx => ?_, fun x hx => hU0 x (by omega), hU6⟩
    · show useC (pS (up1 zc zt bs) (zb, zo, zp) zt).2.2 zk = _
      rw [p2]
    · have p1' := p1
      show BR ((pS (up1 zc zt bs) (zb, zo, zp) zt).1, (pS (up1 zc zt bs) (zb, zo, zp) zt).2.1, opR rw bx zc zp bs.length) _ _
      rw [← p2]
      rw [← p2] at p1'
      exact p1'
    · exact List.nodup_append.mpr ⟨s2, (by simp), fun a ha b hb q => hn (by rw [← List.mem_singleton.mp hb, ← q]; exact ha)⟩
    · show x < zt + 1 ∧ 1 ≤ (up1 zc zt bs x).length ∧ (up1 zc zt bs x).length ≤ 32 ∧ up1 zu zt 1 x = U x + cntS (ze ++ [zt]) x
      rw [cntS_app, up1_e, up1_e]
      rcases List.mem_append.mp hx with hx | hx
      · have hxn : x ≠ zt := fun q => hn (by rw [← q]; exact hx)
        obtain ⟨a1, a2, a3, a4⟩ := s3 x hx
        dsimp only at a4
        rw [if_neg hxn, if_neg hxn, if_neg (fun q => hxn q.symm), a4]
        omega
      · have hxn := List.mem_singleton.mp hx
        have hz := cntS_no hne
        have hU := hU0 zt (Nat.le_refl _)
        rw [hxn, if_pos rfl, if_pos rfl, if_pos rfl, hz, hU]
        omega
    · rcases List.mem_append.mp hx with hx | hx
      · rw [upn hx hn] at q
        rcases List.mem_append.mp hy with hy | hy
        · rw [upn hy hn] at q
          exact s4 x hx y hy q
        · rw [List.mem_singleton.mp hy, up1_e, if_pos rfl] at q
          exact absurd q (f1 x hx)
      · rw [List.mem_singleton.mp hx, up1_e, if_pos rfl] at q
        rcases List.mem_append.mp hy with hy | hy
        · rw [upn hy hn] at q
          exact absurd q.symm (f1 y hy)
        · rw [List.mem_singleton.mp hx, List.mem_singleton.mp hy]
    · have hm := fun k (hk : k ∈ zb) => (pS_mono (cb := up1 zc zt bs) (zb, zo, zp) zt hk).1
      show ∀ k ∈ useC (opR rw bx zc zp bs.length) zk, k ∈ (pS (up1 zc zt bs) (zb, zo, zp) zt).1
      refine useC_in ?_ (fun k hk => hm k (s7 k hk))
      rw [← p2]
      exact p1.o
    · rcases List.mem_append.mp hx with hx | hx
      · exact List.mem_append.mpr (Or.inl (hes x hx))
      · exact List.mem_append.mpr (Or.inr hx)
end PU6
