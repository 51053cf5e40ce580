/-! the reference: save, whole -/
section MSW
variable {d m : Nat} {dr kl : List Nat} {vf vn : Nat → Nat} {vb ve : Nat → List Nat} {vp : Nat → Option Nat} {nx : Nat → Nat} {rw : List Nat} {bx sf : Nat → Nat} {cb : Nat → List Nat} {ud st op : Nat} {cs : List Nat} {hi re : Nat} {T T' : TS}
theorem MR.en0 {a : Nat} (h : MR T m dr kl vf vn vb ve vp nx rw bx sf cb ud st op cs hi re) (ha : a ∉ kl) : MR (sA (m + 6) a (nI 0) T) m dr kl vf vn vb ve vp nx rw bx sf cb ud st op cs hi re ∧ mEn (sA (m + 6) a (nI 0) T) m a [] := by
  obtain ⟨h1, h2, h3, h4, h5, h6, h7⟩ := h
  have eA : ∀ i, i ≠ 6 → tA (sA (m + 6) a (nI 0) T) (m + i) = tA T (m + i) := fun i hi => by
    rw [tA_sA, up2_nef (by omega)]
  have e6 : ∀ k, tA (sA (m + 6) a (nI 0) T) (m + 6) k = if k = a then nI 0 else tA T (m + 6) k := fun k => by
    rw [tA_sA, up2_e]
    by_cases c : k = a
    · rw [if_pos ⟨rfl, c⟩, if_pos c]
    · rw [if_neg (fun q => c q.2), if_neg c]
  have hms : ms m T (sA (m + 6) a (nI 0) T) := ms.sA (by omega)
  have eI : tI (sA (m + 6) a (nI 0) T) = tI T := by rw [tI_sA]
  generalize sA (m + 6) a (nI 0) T = T1 at *
  refine ⟨⟨h1.ms hms, h2.of (by rw [eI]) (eA 1 (by decide)), fun k hk => ⟨fun hkl => ?_, fun hkl => ?_⟩, by rw [eA 9 (by decide)]; exact h4, h5.of (by rw [eI]) (fun i _ _ => eA i (by omega)), h6.of (eA 15 (by decide)), by rw [eI]; exact h7⟩, by rw [e6, if_pos rfl]; rfl, by decide, fun i hi => nomatch hi⟩
  · obtain ⟨a1, a2, a3, a4, a5, a6, a7, a8, a9, a10, a11⟩ := (h3 k hk).1 hkl
    have hne : k ≠ a := fun q => ha (q ▸ hkl)
    rw [eA 2 (by decide), eA 3 (by decide), eA 4 (by decide), eA 5 (by decide), eA 7 (by decide), eA 8 (by decide), e6, if_neg hne]
    exact ⟨a1, a2, a3, a4, a5, a6, a7, a8, a9, a10, a11⟩
  · rw [eA 2 (by decide)]
    exact (h3 k hk).2 hkl
/-- the new version's place holds its file, number, length; the next number is one more -/
theorem saT_A {a j n l i : Nat} (h2 : i ≠ 2) (h3 : i ≠ 3) (h4 : i ≠ 4) (h9 : i ≠ 9) : tA (saT m a j n l T) (m + i) = tA T (m + i) := by
  unfold saT
  rw [tA_sA, up2_nef (by omega), tA_sA, up2_nef (by omega), tA_sA, up2_nef (by omega), tA_sA, up2_nef (by omega)]
theorem up2_ro {g : Nat → Nat → Int32} {r a : Nat} {v : Int32} (k : Nat) : up2 g r a v r k = if k = a then v else g r k := by
  rw [up2_e]
  by_cases c : k = a
  · rw [if_pos ⟨rfl, c⟩, if_pos c]
  · rw [if_neg (fun q => c q.2), if_neg c]
theorem saT_2 {a j n l : Nat} (k : Nat) : tA (saT m a j n l T) (m + 2) k = if k = a then nI j else tA T (m + 2) k := by
  unfold saT
  rw [tA_sA, up2_nef (by omega), tA_sA, up2_nef (by omega), tA_sA, up2_nef (by omega), tA_sA, up2_ro]
theorem saT_3 {a j n l : Nat} (k : Nat) : tA (saT m a j n l T) (m + 3) k = if k = a then nI n else tA T (m + 3) k := by
  unfold saT
  rw [tA_sA, up2_nef (by omega), tA_sA, up2_nef (by omega), tA_sA, up2_ro, tA_sA, up2_nef (by omega)]
theorem saT_4 {a j n l : Nat} (k : Nat) : tA (saT m a j n l T) (m + 4) k = if k = a then nI l else tA T (m + 4) k := by
  unfold saT
  rw [tA_sA, up2_ro, tA_sA, up2_nef (by omega), tA_sA, up2_nef (by omega), tA_sA, up2_nef (by omega)]
theorem saT_9 {a j n l : Nat} (k : Nat) : tA (saT m a j n l T) (m + 9) k = if k = j then nI (n + 1) else tA T (m + 9) k := by
  unfold saT
  rw [tA_sA, up2_nef (by omega), tA_sA, up2_ro, tA_sA, up2_nef (by omega), tA_sA, up2_nef (by omega)]
theorem saT_ms {a j n l : Nat} : ms m T (saT m a j n l T) := by
  unfold saT
  exact (((ms.sA (by omega)).tr (ms.sA (by omega))).tr (ms.sA (by omega))).tr (ms.sA (by omega))
theorem saT_I {a j n l : Nat} : tI (saT m a j n l T) = tI T := by
  unfold saT
  rw [tI_sA, tI_sA, tI_sA, tI_sA]
/-- what the store says behind a save, of what it said before -/
def svd (T T' : TS) (m a j n : Nat) (dr : List Nat) : Prop := ms m T T' ∧ tI T' = tI T ∧ (∀ i, i ≠ 2 → i ≠ 3 → i ≠ 4 → i ≠ 5 → i ≠ 8 → i ≠ 9 → tA T' (m + i) = tA T (m + i)) ∧ (∀ k, tA T' (m + 2) k = if k = a then nI j else tA T (m + 2) k) ∧ (∀ k, tA T' (m + 3) k = if k = a then nI n else tA T (m + 3) k) ∧ (∀ k, tA T' (m + 4) k = if k = a then nI dr.length else tA T (m + 4) k) ∧ (∀ k, k ≠ a → tA T' (m + 5) k = tA T (m + 5) k) ∧ (∀ i, tA T' (m + 8) i = if 240 * a ≤ i ∧ i < 240 * a + dr.length then nI (dr.getD (i - 240 * a) 0) else tA T (m + 8) i) ∧ ∀ k, tA T' (m + 9) k = if k = j then nI (n + 1) else tA T (m + 9) k
theorem numO_up {a n : Nat} {b : Option Nat} (h : b ≠ some a) : numO (up1 vn a n) b = numO vn b := by
  cases b with
  | none => rfl
  | some x =>
    show nI (up1 vn a n x) = nI (vn x)
    rw [up1_e, if_neg (fun q => h (by rw [q]))]
theorem svd.v2 {a j n : Nat} (h : MR T m dr kl vf vn vb ve vp nx rw bx sf cb ud st op cs hi re) (s : svd T T' m a j n dr) (ha : a ∉ kl) (hj : j < 6) (hn : n < 1000000) : mV2 T' m (kl ++ [a]) (up1 vf a j) (up1 vn a n) := by
  obtain ⟨-, -, -, s2, s3, -⟩ := s
  have hv := h.2.2.1
  intro k hk
  constructor
  · intro hkl
    rw [s2, s3, up1_e, up1_e]
    by_cases c : k = a
    · rw [if_pos c, if_pos c, if_pos c, if_pos c]
      exact ⟨rfl, rfl, hj, hn⟩
    · rw [if_neg c, if_neg c, if_neg c, if_neg c]
      have hkk : k ∈ kl := by
        rcases List.mem_append.mp hkl with q | q
        · exact q
        · exact absurd (List.mem_singleton.mp q) c
      obtain ⟨a1, a2, a3, a4, a5, a6, a7, a8, a9, a10, a11⟩ := (hv k hk).1 hkk
      exact ⟨a1, a2, a8, a9⟩
  · intro hkl
    have c : k ≠ a := fun q => hkl (List.mem_append.mpr (Or.inr (List.mem_singleton.mpr q)))
    rw [s2, if_neg c]
    exact (hv k hk).2 (fun q => hkl (List.mem_append.mpr (Or.inl q)))
theorem MR.svw {a j : Nat} {es : List Nat} {b : Option Nat} (h : MR T m dr kl vf vn vb ve vp nx rw bx sf cb ud st op cs hi re) (he : mEn T m a es) (s : svd T T' m a j (nx j) dr) (ha : a ∉ kl) (ha2 : a < 20) (hj : j < 6) (hn : nx j + 1 < 1000000) (hp : ∀ k ∈ kl, ∀ i, vp k = some i → i ∈ kl) (hb : tA T' (m + 5) a = numO (up1 vn a (nx j)) b) : MR T' m dr (kl ++ [a]) (up1 vf a j) (up1 vn a (nx j)) (up1 vb a dr) (up1 ve a es) (up1 vp a b) (up1 nx j (nx j + 1)) rw bx sf cb ud st op cs hi re := by
  obtain ⟨h1, h2, h3, h4, h5, h6, h7, b1, b2, b3, b4, b5, b6, b7⟩ := h
  obtain ⟨s0, sI, sA, s2, s3, s4, s5, s8, s9⟩ := s
  obtain ⟨e1, e2, e3⟩ := he
  refine ⟨h1.ms s0, h2.of (by rw [sI]) (sA 1 (by decide) (by decide) (by decide) (by decide) (by decide) (by decide)), fun k hk => ⟨fun hkl => ?_, fun hkl => ?_⟩, fun i hi => ?_, h5.of (by rw [sI]) (fun i _ _ => sA i (by omega) (by omega) (by omega) (by omega) (by omega) (by omega)), h6.of (sA 15 (by decide) (by decide) (by decide) (by decide) (by decide) (by decide)), by rw [sI]; exact h7, b1, b2, b3, b4, b5, b6, fun k hk => ?_⟩
  · rw [s2, s3, s4, sA 6 (by decide) (by decide) (by decide) (by decide) (by decide) (by decide), sA 7 (by decide) (by decide) (by decide) (by decide) (by decide) (by decide)]
    by_cases c : k = a
    · subst c
      have u : ∀ {α : Type} (g : Nat → α) (v : α), up1 g k v k = v := fun g v => by rw [up1_e, if_pos rfl]
      rw [if_pos rfl, if_pos rfl, if_pos rfl, u, u, u, u, u]
      refine ⟨rfl, rfl, rfl, hb, e1, e3, fun i hi => ?_, hj, by omega, h2.2.1, e2⟩
      have hdi := h2.2.1
      rw [s8, if_pos (by omega), show 240 * k + i - 240 * k = i by omega]
      exact ⟨rfl, (h2.2.2 i hi).2⟩
    · have u : ∀ {α : Type} (g : Nat → α) (v : α), up1 g a v k = g k := fun g v => by rw [up1_e, if_neg c]
      have hkk : k ∈ kl := by
        rcases List.mem_append.mp hkl with q | q
        · exact q
        · exact absurd (List.mem_singleton.mp q) c
      obtain ⟨a1, a2, a3, a4, a5, a6, a7, a8, a9, a10, a11⟩ := (h3 k hk).1 hkk
      rw [if_neg c, if_neg c, if_neg c, u, u, u, u, u, s5 k c, numO_up (fun q => ha (hp k hkk a q))]
      refine ⟨a1, a2, a3, a4, a5, a6, fun i hi => ?_, a8, a9, a10, a11⟩
      have hdi := h2.2.1
      rw [s8, if_neg (by omega)]
      exact a7 i hi
  · have c : k ≠ a := fun q => hkl (List.mem_append.mpr (Or.inr (List.mem_singleton.mpr q)))
    rw [s2, if_neg c]
    exact (h3 k hk).2 (fun q => hkl (List.mem_append.mpr (Or.inl q)))
  · rw [s9, up1_e]
    by_cases c : i = j
    · rw [if_pos c, if_pos c]
      exact ⟨rfl, hn⟩
    · rw [if_neg c, if_neg c]
      exact h4 i hi
  · rcases List.mem_append.mp hk with q | q
    · exact b7 k q
    · rw [List.mem_singleton] at q; omega
/-- the first free place -/
def fre (kl : List Nat) : Nat := ups (fun i => i ∈ kl) 20 0
theorem sm_all {n : Nat} (h : ∀ i, i < n → i ∈ kl) : sm (fun k => if k ∈ kl then 1 else 0) n = n := by
  induction n with
  | zero => rfl
  | succ n ih =>
    show sm _ n + (if n ∈ kl then 1 else 0) = n + 1
    rw [ih (fun i hi => h i (Nat.lt_succ_of_lt hi)), if_pos (h n (Nat.lt_succ_self n))]
theorem fre_is (h : sm (fun k => if k ∈ kl then 1 else 0) 20 ≠ 20) : fre kl < 20 ∧ fre kl ∉ kl ∧ ∀ i, i < fre kl → i ∈ kl := by
  obtain ⟨-, q1, q2, q3⟩ := ups_is (fun i => i ∈ kl) 20 0
  have e : ups (fun i => i ∈ kl) 20 0 = fre kl := rfl
  rw [e] at q1 q2 q3
  have hne : fre kl ≠ 20 := fun q => h (sm_all (fun i hi => q2 i (Nat.zero_le _) (by omega)))
  exact ⟨by omega, q3.resolve_left (by omega), fun i hi => q2 i (Nat.zero_le _) hi⟩
/-- a new version's base -/
def newM (kl : List Nat) (vf vn : Nat → Nat) (ve : Nat → List Nat) (vp : Nat → Option Nat) (a j n : Nat) (es : List Nat) : Option Nat := match latN kl vf vn (nI j) 20 with
  | none => none
  | some x => match pl (kl ++ [a]) (up1 vf a j) (up1 vn a n) (nI j) (nI x) with
    | none => none
    | some o => if chO vp 3 (vp o) < 3 ∧ dif es (ve o) < es.length then some o else none
theorem chO_le : ∀ f o, chO vp f o ≤ f := by
  intro f
  induction f with
  | zero => intro o; exact Nat.le_refl 0
  | succ f ih =>
    intro o
    cases o with
    | none => exact Nat.zero_le _
    | some k =>
      have := ih (vp k)
      show 1 + chO vp f (vp k) ≤ f + 1
      omega
theorem dif_le (a b : List Nat) : dif a b ≤ a.length + 2 := by
  unfold dif
  omega
/-- behind the loop, to the answer -/
theorem sv_tail2 {a j l4 : Nat} {es : List Nat} {Q : Post} (h : MR T m dr kl vf vn vb ve vp nx rw bx sf cb ud st op cs hi re) (he : mEn T m a es) (ha : a ∉ kl) (ha2 : a < 20) (hj : j < 6) (hn : nx j + 1 < 1000000) (hp : ∀ k ∈ kl, ∀ i, vp k = some i → i ∈ kl ∧ pl (kl ++ [a]) (up1 vf a j) (up1 vn a (nx j)) (nI (up1 vf a j k)) (nI (up1 vn a (nx j) i)) = some i) (hch : ∀ k ∈ kl, chE vp 3 (vp k)) (hB : ∀ x, latN kl vf vn (nI j) 20 = some x → ∃ o ∈ kl, pl (kl ++ [a]) (up1 vf a j) (up1 vn a (nx j)) (nI j) (nI x) = some o) (hx : ∀ x, latN kl vf vn (nI j) 20 = some x → x < 1000000) (hq : ∀ T', MR T' m dr (kl ++ [a]) (up1 vf a j) (up1 vn a (nx j)) (up1 vb a dr) (up1 ve a es) (up1 vp a (newM kl vf vn ve vp a j (nx j) es)) (up1 nx j (nx j + 1)) rw bx sf cb ud st op cs hi re → tI T' 278 m = tI T 278 m → ms m T T' → Q (.inl (some (.int (nI (nx j))))) T') : Ev (d + 2) MX7_save [] 298 [(4, .int (nI l4)), (3, .int (iO (latN kl vf vn (nI j) 20))), (2, .int (nI a)), (0, .ref m), (1, .int (nI j))] [] T Q := by
  have h0 := h
  have hen : ∀ k ∈ kl, mEn T m k (ve k) := fun k hk => h.en hk
  have hbs : ∀ k ∈ kl, k < 20 ∧ tA T (m + 5) k = numO vn (vp k) := fun k hk => ⟨h.2.2.2.2.2.2.2.2.2.2.2.2.2 k hk, ((h.2.2.1 k (h.2.2.2.2.2.2.2.2.2.2.2.2.2 k hk)).1 hk).2.2.2.1⟩
  obtain ⟨⟨m1, ⟨r1, r2, r3, r4, r5, r6, r7, r8, r9, -⟩, ⟨k1, k2, k3, k4, k5, k6, k7, k8, k9, -⟩, ⟨l1, l2, l3, l4', l5, l6, l7, l8, l9, -⟩⟩, ⟨d1, d2, d3⟩, -, hnx, -⟩ := h
  refine Z_sa4 m1 ha2 hj r2 k2 l2 r3 k3 l3 r4 k4 l4' r9 k9 l9 (hnx j hj).1 d1 ?_
  refine lpX (fun k => [(4, .int (nI k)), (3, .int (iO (latN kl vf vn (nI j) 20))), (2, .int (nI a)), (0, .ref m), (1, .int (nI j))]) (fun k => sAs (m + 8) (fun i => if 240 * a ≤ i ∧ i < 240 * a + k then nI (dr.getD (i - 240 * a) 0) else tA T (m + 8) i) (saT m a j (nx j) dr.length T)) dr.length rfl ?_ ?_ ?_
  · have e8 : tA (saT m a j (nx j) dr.length T) (m + 8) = tA T (m + 8) := saT_A (by decide) (by decide) (by decide) (by decide)
    refine (sAs_id (m + 8) _).symm.trans (sAs_x fun i => ?_)
    rw [if_neg (by omega), e8]
  · intro k hk hq2
    obtain ⟨-, -, z1, z2, z3, -⟩ : ms m T (sAs (m + 8) (fun i => if 240 * a ≤ i ∧ i < 240 * a + k then nI (dr.getD (i - 240 * a) 0) else tA T (m + 8) i) (saT m a j (nx j) dr.length T)) := saT_ms.tr (ms.sAs (by omega))
    have x1 : tA (sAs (m + 8) (fun i => if 240 * a ≤ i ∧ i < 240 * a + k then nI (dr.getD (i - 240 * a) 0) else tA T (m + 8) i) (saT m a j (nx j) dr.length T)) (m + 1) k = nI (dr.getD k 0) := by
      rw [tA_sAs, up1_nea (by omega), saT_A (by decide) (by decide) (by decide) (by decide)]
      exact (d3 k hk).1
    have x2 : tI (sAs (m + 8) (fun i => if 240 * a ≤ i ∧ i < 240 * a + k then nI (dr.getD (i - 240 * a) 0) else tA T (m + 8) i) (saT m a j (nx j) dr.length T)) 256 m = nI dr.length := by
      rw [tI_sAs, saT_I]
      exact d1
    refine Z_sa5 (by rw [z1]; exact m1) ha2 hk d2 (by rw [z2]; exact r1) (by rw [z1]; exact k1) (by rw [z3]; exact l1) x1 (by rw [z2]; exact r8) (by rw [z1]; exact k8) (by rw [z3]; exact l8) x2 ?_
    rw [sA_sAs]
    refine ev_eq rfl (sAs_x fun i => ?_) hq2
    by_cases c : i = 240 * a + k
    · subst c
      rw [if_pos rfl, if_pos (by omega), show 240 * a + k - 240 * a = k by omega]
    · rw [if_neg c]
      by_cases c2 : 240 * a ≤ i ∧ i < 240 * a + k
      · rw [if_pos c2, if_pos (by omega)]
      · rw [if_neg c2, if_neg (by omega)]
  · have sv4 : svd T (sAs (m + 8) (fun i => if 240 * a ≤ i ∧ i < 240 * a + dr.length then nI (dr.getD (i - 240 * a) 0) else tA T (m + 8) i) (saT m a j (nx j) dr.length T)) m a j (nx j) dr := by
      refine ⟨saT_ms.tr (ms.sAs (by omega)), by rw [tI_sAs, saT_I], fun i i2 i3 i4 i5 i8 i9 => ?_, fun k => ?_, fun k => ?_, fun k => ?_, fun k _ => ?_, fun i => ?_, fun k => ?_⟩
      · rw [tA_sAs, up1_nea (by omega), saT_A i2 i3 i4 i9]
      · rw [tA_sAs, up1_nea (by omega), saT_2]
      · rw [tA_sAs, up1_nea (by omega), saT_3]
      · rw [tA_sAs, up1_nea (by omega), saT_4]
      · rw [tA_sAs, up1_nea (by omega), saT_A (by decide) (by decide) (by decide) (by decide)]
      · rw [sAs_tA]
      · rw [tA_sAs, up1_nea (by omega), saT_9]
    generalize sAs (m + 8) (fun i => if 240 * a ≤ i ∧ i < 240 * a + dr.length then nI (dr.getD (i - 240 * a) 0) else tA T (m + 8) i) (saT m a j (nx j) dr.length T) = T4 at *
    have hv2 := svd.v2 h0 sv4 ha hj (by omega)
    obtain ⟨w0, wI, wA, w2, w3, w4, w5, w8, w9⟩ := id sv4
    have hmd : mdl T4 m := h0.1.ms w0
    have he4 : mEn T4 m a es := he.of (wA 6 (by decide) (by decide) (by decide) (by decide) (by decide) (by decide)) (wA 7 (by decide) (by decide) (by decide) (by decide) (by decide) (by decide))
    have hen4 : ∀ k ∈ kl, mEn T4 m k (ve k) := fun k hk => (hen k hk).of (wA 6 (by decide) (by decide) (by decide) (by decide) (by decide) (by decide)) (wA 7 (by decide) (by decide) (by decide) (by decide) (by decide) (by decide))
    have hb4 : ∀ k ∈ kl, k < 20 ∧ k ∈ kl ++ [a] ∧ tA T4 (m + 5) k = numO (up1 vn a (nx j)) (vp k) := fun k hk => by
      refine ⟨(hbs k hk).1, List.mem_append.mpr (Or.inl hk), ?_⟩
      rw [w5 k (fun q => ha (q ▸ hk)), numO_up (fun q => ha (hp k hk a q).1)]
      exact (hbs k hk).2
    have a3 : tA T4 (m + 3) a = nI (nx j) := by rw [w3, if_pos rfl]
    have n1 : tI T4 256 m = nI dr.length := by rw [wI]; exact d1
    have fin : ∀ (b : Option Nat) (v : Int32), v = numO (up1 vn a (nx j)) b → newM kl vf vn ve vp a j (nx j) es = b → Q (.inl (some (.int (nI (nx j))))) (sA (m + 5) a v T4) := by
      intro b v hv hb
      have e5 : ∀ i, i ≠ 5 → tA (sA (m + 5) a v T4) (m + i) = tA T4 (m + i) := fun i hi => by rw [tA_sA, up2_nef (by omega)]
      have sv5 : svd T (sA (m + 5) a v T4) m a j (nx j) dr := by
        refine ⟨w0.tr (ms.sA (by omega)), by rw [tI_sA]; exact wI, fun i i2 i3 i4 i5 i8 i9 => ?_, fun k => ?_, fun k => ?_, fun k => ?_, fun k hk => ?_, fun i => ?_, fun k => ?_⟩
        · rw [e5 i i5]; exact wA i i2 i3 i4 i5 i8 i9
        · rw [e5 2 (by decide)]; exact w2 k
        · rw [e5 3 (by decide)]; exact w3 k
        · rw [e5 4 (by decide)]; exact w4 k
        · rw [tA_sA, up2_ro, if_neg hk]; exact w5 k hk
        · rw [e5 8 (by decide)]; exact w8 i
        · rw [e5 9 (by decide)]; exact w9 k
      have hI : tI (sA (m + 5) a v T4) 278 m = tI T 278 m := by rw [tI_sA, wI]
      refine hq _ ?_ hI (w0.tr (ms.sA (by omega)))
      rw [hb]
      exact h0.svw he sv5 ha ha2 hj hn (fun k hk i q => (hp k hk i q).1) (by rw [tA_sA, up2_ro, if_pos rfl]; exact hv)
    obtain ⟨-, -, z1, z2, z3, -⟩ := w0
    rw [← z1] at m1 k3 k5 k6
    rw [← z2] at r3 r5 r6
    rw [← z3] at l3 l5 l6
    cases e : latN kl vf vn (nI j) 20 with
    | none =>
      rw [iO_n]
      refine Z_sa6 m1 ha2 d2 n1 r5 k5 l5 r3 k3 l3 a3 (fin none (-1) rfl ?_)
      unfold newM
      rw [e]
    | some x =>
      rw [iO_s]
      obtain ⟨o, ho, hpo⟩ := hB x e
      have hx1 := hx x e
      have ho20 := (hbs o ho).1
      have c1 := C_placeD (d := d + 1) (f := nI j) (v := nI x) hmd hv2
      rw [show lastK (fun k => k ∈ kl ++ [a] ∧ nI (up1 vf a j k) = nI j ∧ nI (up1 vn a (nx j) k) = nI x) 20 = some o from hpo, iO_s] at c1
      have c2 := C_chainD (d := d) hmd hv2 hb4 hp ho (hch o ho)
      have hc3 := chO_le (vp := vp) 3 (vp o)
      have c3 := C_difference (d := d + 1) hmd ha2 ho20 he4 (hen4 o ho)
      have hdl := dif_le es (ve o)
      have hel := he.2.1
      have hno : numO (up1 vn a (nx j)) (some o) = nI x := (pl_some hpo).2.2.2
      have eN : newM kl vf vn ve vp a j (nx j) es = if chO vp 3 (vp o) < 3 ∧ dif es (ve o) < es.length then some o else none := by
        unfold newM
        rw [e]
        dsimp only
        rw [hpo]
      by_cases q1 : chO vp 3 (vp o) = 3
      · rw [q1] at c2
        refine Z_sa7 m1 ha2 d2 hx1 ho20 n1 c1 c2 r5 k5 l5 r3 k3 l3 a3 (fin none (-1) rfl ?_)
        rw [eN, if_neg (by omega)]
      · by_cases q2 : es.length ≤ dif es (ve o)
        · refine Z_sa8 m1 ha2 d2 hx1 ho20 n1 c1 c2 (by omega) c3 (by omega) hel r6 k6 l6 he4.1 q2 r5 k5 l5 r3 k3 l3 a3 (fin none (-1) rfl ?_)
          rw [eN, if_neg (by omega)]
        · refine Z_sa9 m1 ha2 d2 hx1 ho20 n1 c1 c2 (by omega) c3 (by omega) hel r6 k6 l6 he4.1 q2 r5 k5 l5 r3 k3 l3 a3 (fin (some o) (nI x) hno.symm ?_)
          rw [eN, if_pos (by omega)]
def MQe (T : TS) (m : Nat) (dr kl : List Nat) (vf vn : Nat → Nat) (vb ve : Nat → List Nat) (vp : Nat → Option Nat) (nx : Nat → Nat) (a j : Nat) (Z : QS) : Prop := match Z with
  | (rw, bx, sf, cb, ud, st, op, cs, hi, re, es) => MR T m dr (kl ++ [a]) (up1 vf a j) (up1 vn a (nx j)) (up1 vb a dr) (up1 ve a es) (up1 vp a (newM kl vf vn ve vp a j (nx j) es)) (up1 nx j (nx j + 1)) rw bx sf cb ud st op cs hi re
theorem N_save3 {j : Nat} (h : MR T m dr kl vf vn vb ve vp nx rw bx sf cb ud st op cs hi re) (hj : j < 6) (hk : sm (fun k => if k ∈ kl then 1 else 0) 20 ≠ 20) (hn : nx j + 1 < 1000000) (hqo : qOK ((cuts dr 0).map (sub dr)) (rw, bx, sf, cb, ud, st, op, cs, hi, re, [])) (hp : ∀ k ∈ kl, ∀ i, vp k = some i → i ∈ kl ∧ pl (kl ++ [fre kl]) (up1 vf (fre kl) j) (up1 vn (fre kl) (nx j)) (nI (up1 vf (fre kl) j k)) (nI (up1 vn (fre kl) (nx j) i)) = some i) (hch : ∀ k ∈ kl, chE vp 3 (vp k)) (hB : ∀ x, latN kl vf vn (nI j) 20 = some x → ∃ o ∈ kl, pl (kl ++ [fre kl]) (up1 vf (fre kl) j) (up1 vn (fre kl) (nx j)) (nI j) (nI x) = some o) : CallQ (d + 3) 156 [.ref m, .int (nI j)] T (fun q T' => q = .inl (some (.int (nI (nx j)))) ∧ MQe T' m dr kl vf vn vb ve vp nx (fre kl) j (((cuts dr 0).map (sub dr)).foldl qS (rw, bx, sf, cb, ud, st, op, cs, hi, re, [])) ∧ tI T' 278 m = nI 0 ∧ ms m T T') := by
  have hvl : ∀ k ∈ kl, vn k < 1000000 := fun k hk => by
    have hk20 := h.2.2.2.2.2.2.2.2.2.2.2.2.2 k hk
    exact ((h.2.2.1 k hk20).1 hk).2.2.2.2.2.2.2.2.1
  have hx : ∀ x, latN kl vf vn (nI j) 20 = some x → x < 1000000 := fun x e => latN_lt kl vf vn (nI j) hvl 20 x e
  obtain ⟨f1, f2, f3⟩ := fre_is hk
  have hkle : sm (fun k => if k ∈ kl then 1 else 0) 20 ≤ 1 * 20 := sm_le (B := 1) (n := 20) (fun i _ => by split <;> omega)
  have c0 := Call_up (C_keptV (d := d) h) (show d + 1 ≤ d + 2 by omega)
  refine Z_sa0 (d := d + 1) h.1.1 hj c0 (by omega) ?_
  have h1 := h.th (v := nI 0)
  have ht1 : tI (sI 278 m (nI 0) T) 278 m = nI 0 := sI_eq
  have hs1 : ms m T (sI 278 m (nI 0) T) := ms.sI
  generalize sI 278 m (nI 0) T = T1 at *
  obtain ⟨⟨m1, ⟨-, r2, -, -, -, r6, -⟩, ⟨-, k2, -, -, -, k6, -⟩, ⟨-, l2, -, -, -, l6, -⟩⟩, ⟨-, d2, -⟩, hv, -⟩ := id h1
  refine lpX (fun k => [(2, .int (nI k)), (0, .ref m), (1, .int (nI j))]) (fun _ => T1) (fre kl) rfl rfl (fun k hk2 hq => ?_) ?_
  · obtain ⟨a1, -, -, -, -, -, -, a8, -⟩ := (hv k (by omega)).1 (f3 k hk2)
    exact Z_sa1 m1 (by omega) r2 k2 l2 a1 a8 hq
  · have c1 := Call_up (C_latestOf (d := d) hj h1) (show d + 1 ≤ d + 2 by omega)
    refine Z_sa3 m1 f1 r2 k2 l2 ((hv _ f1).2 f2) c1 r6 k6 l6 ?_
    obtain ⟨h2, he2⟩ := h1.en0 f2
    have hs2 : ms m T (sA (m + 6) (fre kl) (nI 0) T1) := hs1.tr (ms.sA (by omega))
    have ht2 : tI (sA (m + 6) (fre kl) (nI 0) T1) 278 m = nI 0 := by rw [tI_sA]; exact ht1
    generalize sA (m + 6) (fre kl) (nI 0) T1 = T2 at *
    refine sv_loop (d := d) f1 f2 d2 0 (Nat.zero_le _) (rw, bx, sf, cb, ud, st, op, cs, hi, re, []) T2 ⟨h2, he2⟩ hqo (fun T3 g1 g2 g3 => ?_)
    generalize ((cuts dr 0).map (sub dr)).foldl qS (rw, bx, sf, cb, ud, st, op, cs, hi, re, []) = Z at *
    obtain ⟨rw', bx', sf', cb', ud', st', op', cs', hi', re', es'⟩ := Z
    obtain ⟨g4, g5⟩ := g1
    exact sv_tail2 g4 g5 f2 f1 hj hn hp hch hB hx (fun T' y1 y2 y3 => ⟨rfl, y1, (y2.trans g2).trans ht2, (hs2.tr g3).tr y3⟩)
end MSW
