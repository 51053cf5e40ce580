/-! kept versions by file and number: sums over all places -/
section KEY
variable {d X G : Nat} {va ba ca : Nat → Nat} {dr kl : List Nat} {vf vn : Nat → Nat} {vb ve : Nat → List Nat} {vp : Nat → Option Nat} {nx : Nat → Nat} {sv : Nat} {cb : Nat → List Nat} {us : Nat → Nat} {bl cs : List Nat} {co : Nat → List Nat} {op hi re st : Nat} {rw : List Nat} {bx : Nat → Nat} {ud : Nat} {T : TS}
/-- a version's place among the 384 -/
def key (vf vn : Nat → Nat) (k : Nat) : Nat := 64 * vf k + vn k
def keyL (kl : List Nat) (vf vn : Nat → Nat) : List Nat := kl.map (key vf vn)
def kA (kl : List Nat) (vf vn : Nat → Nat) (i : Nat) : Nat := (kl.find? (fun k => decide (key vf vn k = i))).getD 0
theorem nodup_map {f : Nat → Nat} : ∀ l : List Nat, l.Nodup → (∀ a ∈ l, ∀ b ∈ l, f a = f b → a = b) → (l.map f).Nodup := by
  intro l
  induction l with
  | nil => intro _ _; exact List.nodup_nil
  | cons a l ih =>
    intro h hf
    obtain ⟨h1, h2⟩ := List.nodup_cons.mp h
    rw [List.map_cons]
    refine List.nodup_cons.mpr ⟨fun q => ?_, ih h2 (fun x hx y hy => hf x (List.mem_cons_of_mem _ hx) y (List.mem_cons_of_mem _ hy))⟩
    obtain ⟨b, hb, e⟩ := List.mem_map.mp q
    have := hf b (List.mem_cons_of_mem _ hb) a List.mem_cons_self e
    exact h1 (this ▸ hb)
theorem key_inj (h : LV T X va ba ca dr kl vf vn vb ve vp nx sv cb us bl co op cs hi re st rw bx ud) {a b : Nat} (ha : a ∈ kl) (hb : b ∈ kl) (e : key vf vn a = key vf vn b) : a = b := by
  have h1 := h.b64 ha
  have h2 := h.b64 hb
  unfold key at e
  exact pw_un h.2.1.2.2.1 a ha b hb (by omega) (by omega)
theorem key_nd (h : LV T X va ba ca dr kl vf vn vb ve vp nx sv cb us bl co op cs hi re st rw bx ud) : (keyL kl vf vn).Nodup := nodup_map kl h.2.1.1 (fun a ha b hb e => key_inj h ha hb e)
theorem key_lt (h : LV T X va ba ca dr kl vf vn vb ve vp nx sv cb us bl co op cs hi re st rw bx ud) : ∀ i ∈ keyL kl vf vn, i < 384 := by
  intro i hi
  obtain ⟨k, hk, e⟩ := List.mem_map.mp hi
  have := h.b64 hk
  unfold key at e
  omega
theorem key_mem (h : LV T X va ba ca dr kl vf vn vb ve vp nx sv cb us bl co op cs hi re st rw bx ud) {f v : Nat} (hv : v < 64) : (64 * f + v ∈ keyL kl vf vn) ↔ ∃ k ∈ kl, vf k = f ∧ vn k = v := by
  constructor
  · intro q
    obtain ⟨k, hk, e⟩ := List.mem_map.mp q
    have := h.b64 hk
    unfold key at e
    exact ⟨k, hk, by omega, by omega⟩
  · rintro ⟨k, hk, rfl, rfl⟩
    exact List.mem_map.mpr ⟨k, hk, rfl⟩
theorem kA_is (h : LV T X va ba ca dr kl vf vn vb ve vp nx sv cb us bl co op cs hi re st rw bx ud) {k : Nat} (hk : k ∈ kl) : kA kl vf vn (key vf vn k) = k := by
  unfold kA
  cases e : kl.find? (fun j => decide (key vf vn j = key vf vn k)) with
  | none =>
    have := List.find?_eq_none.mp e k hk
    simp at this
  | some j =>
    have h1 := List.mem_of_find?_eq_some e
    have h2 := List.find?_some e
    simp only [decide_eq_true_eq] at h2
    exact key_inj h h1 hk h2
/-- a sum over all places -/
theorem key_sum (h : LV T X va ba ca dr kl vf vn vb ve vp nx sv cb us bl co op cs hi re st rw bx ud) (g : Nat → Nat) : sm (fun i => if i ∈ keyL kl vf vn then g (kA kl vf vn i) else 0) 384 = (kl.map g).sum := by
  rw [sm_in (fun i => g (kA kl vf vn i)) _ (key_nd h) (key_lt h)]
  unfold keyL
  rw [List.map_map]
  congr 1
  refine List.map_congr_left (fun k hk => ?_)
  show g (kA kl vf vn (key vf vn k)) = g k
  rw [kA_is h hk]
theorem gR.bn (hg : gR T G kl vf vn st) (h : LV T X va ba ca dr kl vf vn vb ve vp nx sv cb us bl co op cs hi re st rw bx ud) {f v : Nat} (hf : f < 6) (hv : v < 64) : bN (tJ T G f) v = if 64 * f + v ∈ keyL kl vf vn then 1 else 0 := by
  unfold bN
  by_cases e : ∃ k ∈ kl, vf k = f ∧ vn k = v
  · rw [if_pos ((hg.2.2.2 f v hf hv).mpr e), if_pos ((key_mem h hv).mpr e)]
  · rw [if_neg (fun q => e ((hg.2.2.2 f v hf hv).mp q)), if_neg (fun q => e ((key_mem h hv).mp q))]
theorem gR.bni (hg : gR T G kl vf vn st) (h : LV T X va ba ca dr kl vf vn vb ve vp nx sv cb us bl co op cs hi re st rw bx ud) {i : Nat} (hi : i < 384) : bN (tJ T G (i / 64)) (i % 64) = if i ∈ keyL kl vf vn then 1 else 0 := by
  have := hg.bn h (f := i / 64) (v := i % 64) (by omega) (by omega)
  rw [show 64 * (i / 64) + i % 64 = i by omega] at this
  exact this
theorem gR.many (hg : gR T G kl vf vn st) (h : LV T X va ba ca dr kl vf vn vb ve vp nx sv cb us bl co op cs hi re st rw bx ud) : manyG T G = kl.length := by
  unfold manyG
  rw [sm_congr (g := fun i => if i ∈ keyL kl vf vn then (fun _ => 1) (kA kl vf vn i) else 0) (fun i hi => hg.bni h hi), key_sum h (fun _ => 1), sum_len]
/-- the last with P -/
theorem lastK_max {P : Nat → Prop} [DecidablePred P] {j : Nat} : ∀ n, j < n → P j → (∀ i, j < i → i < n → ¬ P i) → lastK P n = some j := by
  intro n
  induction n with
  | zero => intro h; omega
  | succ n ih =>
    intro hj hP hu
    unfold lastK
    by_cases e : j = n
    · rw [if_pos (e ▸ hP), e]
    · rw [if_neg (hu n (by omega) (Nat.lt_succ_self n))]
      exact ih (by omega) hP (fun i h1 h2 => hu i h1 (by omega))
theorem lk_max (h : LV T X va ba ca dr kl vf vn vb ve vp nx sv cb us bl co op cs hi re st rw bx ud) {f : Nat} (hf : f < 6) : numO vn (lk kl vf (nI f)) = iO (lastK (fun v => 64 * f + v ∈ keyL kl vf vn) 64) := by
  have hK := h.2.1
  cases e : lk kl vf (nI f) with
  | none =>
    rw [lastK_none 64 (fun v hv q => ?_)]
    · rfl
    · obtain ⟨k, hk, e1, e2⟩ := (key_mem h hv).mp q
      unfold lk at e
      have := List.find?_eq_none.mp e k (List.mem_reverse.mpr hk)
      rw [e1] at this
      simp at this
  | some k =>
    obtain ⟨hk, h1⟩ := lk_mem e
    have hb := h.b64 hk
    rw [i_eq (by omega) (by omega)] at h1
    rw [lastK_max (j := vn k) 64 hb.2 ((key_mem h hb.2).mpr ⟨k, hk, h1, rfl⟩) (fun v q1 q2 q => ?_)]
    · rfl
    · obtain ⟨j, hj, e1, e2⟩ := (key_mem h q2).mp q
      unfold lk at e
      obtain ⟨-, as, bs, p2, p3⟩ := List.find?_eq_some_iff_append.mp e
      have hkl : kl = bs.reverse ++ k :: as.reverse := by
        have := congrArg List.reverse p2
        rw [List.reverse_reverse] at this
        rw [this]
        simp
      have hpw := hK.2.2.1
      rw [hkl] at hpw hj
      rcases List.mem_append.mp hj with hj | hj
      · have := (List.pairwise_append.mp hpw).2.2 j hj k List.mem_cons_self (by rw [e1, h1])
        omega
      · rcases List.mem_cons.mp hj with rfl | hj
        · omega
        · have := p3 j (List.mem_reverse.mp hj)
          rw [e1] at this
          simp at this
theorem LV.isKept {f v : Nat} (h : LV T X va ba ca dr kl vf vn vb ve vp nx sv cb us bl co op cs hi re st rw bx ud) (hf : f < 6) (hv : v < 64) : Call (d + 3) 92 [.ref X, .int (nI f), .int (nI v)] T (.inl (some (.int (nI (if 64 * f + v ∈ keyL kl vf vn then 1 else 0))))) T := by
  have c := R_isKept (d := d) (nI f) (nI v) h.1
  rw [inR_at hf (by decide), Option.map_some] at c
  by_cases e : ∃ k ∈ kl, vf k = f ∧ vn k = v
  · rw [if_pos ((key_mem h hv).mpr e)]
    obtain ⟨k, hk, rfl, rfl⟩ := e
    rw [h.fvk hk, if_neg (by simp)] at c
    exact c
  · rw [if_neg (fun q => e ((key_mem h hv).mp q))]
    rw [h.fvn hf hv e, if_pos rfl] at c
    exact c
theorem LV.latest {f : Nat} (h : LV T X va ba ca dr kl vf vn vb ve vp nx sv cb us bl co op cs hi re st rw bx ud) (hf : f < 6) : Call (d + 3) 93 [.ref X, .int (nI f)] T (.inl (some (.int (iO (lastK (fun v => 64 * f + v ∈ keyL kl vf vn) 64))))) T := by
  have c := R_latest (d := d) (nI f) h.1
  rw [inR_at hf (by decide), Option.map_some, lk_max h hf] at c
  exact c
/-! uses -/
section Z
variable {n i a e j m : Nat} {Q : Post}
theorem Z_us1 (k8 : tK T X = 8) (g1 : tK T G = 22) (g2 : tl T G = 7) (hi : i < 384) (ha : a < 100000) (hb : bN (tJ T G (i / 64)) (i % 64) = 0) (hq : Ev (d + 4) ML_uses [] 5 [(4, .int (nI (i + 1))), (3, .int (nI a)), (0, .ref X), (1, .ref G), (2, .int (nI n))] [] T Q) : Ev (d + 4) ML_uses [] 5 [(4, .int (nI i)), (3, .int (nI a)), (0, .ref X), (1, .ref G), (2, .int (nI n))] [] T Q := by
  have ci := C_isIn (d := d + 3) (T := T) (x := tJ T G (i / 64)) (k := i % 64) (by omega)
  rw [hb] at ci
  refine eN_iload (M := ML_uses) dL_uses_5 (pc' := 7) rfl rfl ?_
  refine (ev_sipush (M := ML_uses) (v := (nI 384)) rfl dL_uses_7 (pc' := 10) rfl).mpr ?_
  refine (ev_icmp_ge (M := ML_uses) (t := 101) dL_uses_10 (by decide) (pc' := 13) rfl).mpr (ifF (by first | assumption | omega | rfl | exact fun q => q (by assumption) | exact fun q => q rfl | (simp (disch := omega) only [nle_t, nle_f, nlt_t, nlt_f, neq_t, neq_f, i_lt0, i_le0, i_0le, i_0lt, i_eq0, i_lt, i_le, i_eq, nI_add, i_sub, i_cl, i_m1a, i_m1b, i_m1c, i_m1d, i_m1e, i_am1, i_ite0, m1_le, m1_m1, m1_ge0, not_true_eq_false, not_false_eq_true, or_self, or_false, false_or, or_true, true_or, and_self, and_true, true_and])) ?_)
  refine eN_aload_n (M := ML_uses) (k := 1) rfl dL_uses_13 (pc' := 14) rfl rfl ?_
  refine eN_iload (M := ML_uses) dL_uses_14 (pc' := 16) rfl rfl ?_
  refine (ev_bipush (M := ML_uses) (v := (nI 64)) rfl dL_uses_16 (pc' := 18) rfl).mpr ?_
  refine eN_idiv (M := ML_uses) dL_uses_18 (pc' := 19) rfl (by omega) ?_
  refine eN_laload (M := ML_uses) dL_uses_19 (pc' := 20) rfl (by assumption) (by assumption) (by omega) ?_
  refine eN_iload (M := ML_uses) dL_uses_20 (pc' := 22) rfl rfl ?_
  refine (ev_bipush (M := ML_uses) (v := (nI 64)) rfl dL_uses_22 (pc' := 24) rfl).mpr ?_
  refine eN_irem (M := ML_uses) dL_uses_24 (pc' := 25) rfl (by omega) ?_
  refine (ev_cS2 (M := ML_uses) dL_uses_25 c_9_10 (by decide) mL_isIn rfl rfl (pc' := 28) rfl).mpr ⟨(Nat.le_of_ble_eq_true rfl), eN_c ci (by first | rfl | (simp (disch := omega) only [nI_add, i_sub]) | (simp only [*])) ?_⟩
  refine (ev_if_eq (M := ML_uses) (t := 48) dL_uses_28 (by decide) (pc' := 31) rfl).mpr (ifT (by first | assumption | omega | rfl | exact fun q => q (by assumption) | exact fun q => q rfl | (simp (disch := omega) only [nle_t, nle_f, nlt_t, nlt_f, neq_t, neq_f, i_lt0, i_le0, i_0le, i_0lt, i_eq0, i_lt, i_le, i_eq, nI_add, i_sub, i_cl, i_m1a, i_m1b, i_m1c, i_m1d, i_m1e, i_am1, i_ite0, m1_le, m1_m1, m1_ge0, not_true_eq_false, not_false_eq_true, or_self, or_false, false_or, or_true, true_or, and_self, and_true, true_and])) ?_)
  refine (ev_iconst (M := ML_uses) (v := (nI 0)) rfl dL_uses_48 (pc' := 49) rfl).mpr ?_
  refine (ev_istore (M := ML_uses) dL_uses_49 (by decide) (pc' := 51) rfl).mpr ?_
  refine (ev_iconst (M := ML_uses) (v := (nI 0)) rfl dL_uses_51 (pc' := 52) rfl).mpr ?_
  refine (ev_istore (M := ML_uses) dL_uses_52 (by decide) (pc' := 54) rfl).mpr ?_
  refine eN_iload (M := ML_uses) dL_uses_54 (pc' := 56) rfl rfl ?_
  refine eN_iload (M := ML_uses) dL_uses_56 (pc' := 58) rfl rfl ?_
  refine (ev_icmp_ge (M := ML_uses) (t := 95) dL_uses_58 (by decide) (pc' := 61) rfl).mpr (ifT (by first | assumption | omega | rfl | exact fun q => q (by assumption) | exact fun q => q rfl | (simp (disch := omega) only [nle_t, nle_f, nlt_t, nlt_f, neq_t, neq_f, i_lt0, i_le0, i_0le, i_0lt, i_eq0, i_lt, i_le, i_eq, nI_add, i_sub, i_cl, i_m1a, i_m1b, i_m1c, i_m1d, i_m1e, i_am1, i_ite0, m1_le, m1_m1, m1_ge0, not_true_eq_false, not_false_eq_true, or_self, or_false, false_or, or_true, true_or, and_self, and_true, true_and])) ?_)
  refine eN_iinc (M := ML_uses) (v := 1) rfl dL_uses_95 (by decide) (pc' := 98) rfl rfl ?_
  refine (ev_goto (M := ML_uses) (pc' := 5) dL_uses_98 (by decide)).mpr ?_
  exact ev_more (by repeat (first | exact trivial | refine ⟨rfl, ?_⟩)) (by exact rfl) (by exact rfl) hq
theorem Z_us2 (k8 : tK T X = 8) (g1 : tK T G = 22) (g2 : tl T G = 7) (hi : i < 384) (ha : a < 100000) (hm : m ≤ 30) (hb : bN (tJ T G (i / 64)) (i % 64) = 1) (c1 : Call (d + 4) 97 [.ref X, .int (nI (i / 64)), .int (nI (i % 64))] T (.inl (some (.int (nI m)))) T) (hq : Ev (d + 4) ML_uses [] 54 [(6, .int (nI 0)), (5, .int (nI m)), (4, .int (nI i)), (3, .int (nI a)), (0, .ref X), (1, .ref G), (2, .int (nI n))] [] T Q) : Ev (d + 4) ML_uses [] 5 [(4, .int (nI i)), (3, .int (nI a)), (0, .ref X), (1, .ref G), (2, .int (nI n))] [] T Q := by
  have ci := C_isIn (d := d + 3) (T := T) (x := tJ T G (i / 64)) (k := i % 64) (by omega)
  rw [hb] at ci
  refine eN_iload (M := ML_uses) dL_uses_5 (pc' := 7) rfl rfl ?_
  refine (ev_sipush (M := ML_uses) (v := (nI 384)) rfl dL_uses_7 (pc' := 10) rfl).mpr ?_
  refine (ev_icmp_ge (M := ML_uses) (t := 101) dL_uses_10 (by decide) (pc' := 13) rfl).mpr (ifF (by first | assumption | omega | rfl | exact fun q => q (by assumption) | exact fun q => q rfl | (simp (disch := omega) only [nle_t, nle_f, nlt_t, nlt_f, neq_t, neq_f, i_lt0, i_le0, i_0le, i_0lt, i_eq0, i_lt, i_le, i_eq, nI_add, i_sub, i_cl, i_m1a, i_m1b, i_m1c, i_m1d, i_m1e, i_am1, i_ite0, m1_le, m1_m1, m1_ge0, not_true_eq_false, not_false_eq_true, or_self, or_false, false_or, or_true, true_or, and_self, and_true, true_and])) ?_)
  refine eN_aload_n (M := ML_uses) (k := 1) rfl dL_uses_13 (pc' := 14) rfl rfl ?_
  refine eN_iload (M := ML_uses) dL_uses_14 (pc' := 16) rfl rfl ?_
  refine (ev_bipush (M := ML_uses) (v := (nI 64)) rfl dL_uses_16 (pc' := 18) rfl).mpr ?_
  refine eN_idiv (M := ML_uses) dL_uses_18 (pc' := 19) rfl (by omega) ?_
  refine eN_laload (M := ML_uses) dL_uses_19 (pc' := 20) rfl (by assumption) (by assumption) (by omega) ?_
  refine eN_iload (M := ML_uses) dL_uses_20 (pc' := 22) rfl rfl ?_
  refine (ev_bipush (M := ML_uses) (v := (nI 64)) rfl dL_uses_22 (pc' := 24) rfl).mpr ?_
  refine eN_irem (M := ML_uses) dL_uses_24 (pc' := 25) rfl (by omega) ?_
  refine (ev_cS2 (M := ML_uses) dL_uses_25 c_9_10 (by decide) mL_isIn rfl rfl (pc' := 28) rfl).mpr ⟨(Nat.le_of_ble_eq_true rfl), eN_c ci (by first | rfl | (simp (disch := omega) only [nI_add, i_sub]) | (simp only [*])) ?_⟩
  refine (ev_if_eq (M := ML_uses) (t := 48) dL_uses_28 (by decide) (pc' := 31) rfl).mpr (ifF (by first | assumption | omega | rfl | exact fun q => q (by assumption) | exact fun q => q rfl | (simp (disch := omega) only [nle_t, nle_f, nlt_t, nlt_f, neq_t, neq_f, i_lt0, i_le0, i_0le, i_0lt, i_eq0, i_lt, i_le, i_eq, nI_add, i_sub, i_cl, i_m1a, i_m1b, i_m1c, i_m1d, i_m1e, i_am1, i_ite0, m1_le, m1_m1, m1_ge0, not_true_eq_false, not_false_eq_true, or_self, or_false, false_or, or_true, true_or, and_self, and_true, true_and])) ?_)
  refine eN_aload_n (M := ML_uses) (k := 0) rfl dL_uses_31 (pc' := 32) rfl rfl ?_
  refine eN_iload (M := ML_uses) dL_uses_32 (pc' := 34) rfl rfl ?_
  refine (ev_bipush (M := ML_uses) (v := (nI 64)) rfl dL_uses_34 (pc' := 36) rfl).mpr ?_
  refine eN_idiv (M := ML_uses) dL_uses_36 (pc' := 37) rfl (by omega) ?_
  refine eN_iload (M := ML_uses) dL_uses_37 (pc' := 39) rfl rfl ?_
  refine (ev_bipush (M := ML_uses) (v := (nI 64)) rfl dL_uses_39 (pc' := 41) rfl).mpr ?_
  refine eN_irem (M := ML_uses) dL_uses_41 (pc' := 42) rfl (by omega) ?_
  refine (ev_cV2 (M := ML_uses) (kk := 8) dL_uses_42 c_9_29 mX6_chunksOf rfl rfl (by decide) rfl (pc' := 45) rfl).mpr ⟨(by assumption), (Nat.le_of_ble_eq_true rfl), eN_c c1 (by first | rfl | (simp (disch := omega) only [nI_add, i_sub]) | (simp only [*])) ?_⟩
  refine (ev_goto (M := ML_uses) (pc' := 49) dL_uses_45 (by decide)).mpr ?_
  refine (ev_istore (M := ML_uses) dL_uses_49 (by decide) (pc' := 51) rfl).mpr ?_
  refine (ev_iconst (M := ML_uses) (v := (nI 0)) rfl dL_uses_51 (pc' := 52) rfl).mpr ?_
  refine (ev_istore (M := ML_uses) dL_uses_52 (by decide) (pc' := 54) rfl).mpr ?_
  exact ev_more (by repeat (first | exact trivial | refine ⟨rfl, ?_⟩)) (by exact rfl) (by exact rfl) hq
theorem Z_us3 {z : Nat} (k8 : tK T X = 8) (hi : i < 384) (ha : a < 100000) (hm : m ≤ 30) (hj : j < m) (he : e < 1000000) (hn : n < 1000000) (hz : z = if e = n then 1 else 0) (c1 : Call (d + 4) 98 [.ref X, .int (nI (i / 64)), .int (nI (i % 64)), .int (nI j)] T (.inl (some (.int (nI e)))) T) (hq : Ev (d + 4) ML_uses [] 54 [(6, .int (nI (j + 1))), (5, .int (nI m)), (4, .int (nI i)), (3, .int (nI (a + z))), (0, .ref X), (1, .ref G), (2, .int (nI n))] [] T Q) : Ev (d + 4) ML_uses [] 54 [(6, .int (nI j)), (5, .int (nI m)), (4, .int (nI i)), (3, .int (nI a)), (0, .ref X), (1, .ref G), (2, .int (nI n))] [] T Q := by
  by_cases h : e = n
  · rw [if_pos h] at hz
    subst hz
    refine eN_iload (M := ML_uses) dL_uses_54 (pc' := 56) rfl rfl ?_
    refine eN_iload (M := ML_uses) dL_uses_56 (pc' := 58) rfl rfl ?_
    refine (ev_icmp_ge (M := ML_uses) (t := 95) dL_uses_58 (by decide) (pc' := 61) rfl).mpr (ifF (by first | assumption | omega | rfl | exact fun q => q (by assumption) | exact fun q => q rfl | (simp (disch := omega) only [nle_t, nle_f, nlt_t, nlt_f, neq_t, neq_f, i_lt0, i_le0, i_0le, i_0lt, i_eq0, i_lt, i_le, i_eq, nI_add, i_sub, i_cl, i_m1a, i_m1b, i_m1c, i_m1d, i_m1e, i_am1, i_ite0, m1_le, m1_m1, m1_ge0, not_true_eq_false, not_false_eq_true, or_self, or_false, false_or, or_true, true_or, and_self, and_true, true_and])) ?_)
    refine eN_iload_n (M := ML_uses) (k := 3) rfl dL_uses_61 (pc' := 62) rfl rfl ?_
    refine eN_aload_n (M := ML_uses) (k := 0) rfl dL_uses_62 (pc' := 63) rfl rfl ?_
    refine eN_iload (M := ML_uses) dL_uses_63 (pc' := 65) rfl rfl ?_
    refine (ev_bipush (M := ML_uses) (v := (nI 64)) rfl dL_uses_65 (pc' := 67) rfl).mpr ?_
    refine eN_idiv (M := ML_uses) dL_uses_67 (pc' := 68) rfl (by omega) ?_
    refine eN_iload (M := ML_uses) dL_uses_68 (pc' := 70) rfl rfl ?_
    refine (ev_bipush (M := ML_uses) (v := (nI 64)) rfl dL_uses_70 (pc' := 72) rfl).mpr ?_
    refine eN_irem (M := ML_uses) dL_uses_72 (pc' := 73) rfl (by omega) ?_
    refine eN_iload (M := ML_uses) dL_uses_73 (pc' := 75) rfl rfl ?_
    refine (ev_cV3 (M := ML_uses) (kk := 8) dL_uses_75 c_9_32 mX6_chunkAt rfl rfl (by decide) rfl (pc' := 78) rfl).mpr ⟨(by assumption), (Nat.le_of_ble_eq_true rfl), eN_c c1 (by first | rfl | (simp (disch := omega) only [nI_add, i_sub]) | (simp only [*])) ?_⟩
    refine eN_iload_n (M := ML_uses) (k := 2) rfl dL_uses_78 (pc' := 79) rfl rfl ?_
    refine (ev_icmp_ne (M := ML_uses) (t := 86) dL_uses_79 (by decide) (pc' := 82) rfl).mpr (ifF (by first | assumption | omega | rfl | exact fun q => q (by assumption) | exact fun q => q rfl | (simp (disch := omega) only [nle_t, nle_f, nlt_t, nlt_f, neq_t, neq_f, i_lt0, i_le0, i_0le, i_0lt, i_eq0, i_lt, i_le, i_eq, nI_add, i_sub, i_cl, i_m1a, i_m1b, i_m1c, i_m1d, i_m1e, i_am1, i_ite0, m1_le, m1_m1, m1_ge0, not_true_eq_false, not_false_eq_true, or_self, or_false, false_or, or_true, true_or, and_self, and_true, true_and])) ?_)
    refine (ev_iconst (M := ML_uses) (v := (nI 1)) rfl dL_uses_82 (pc' := 83) rfl).mpr ?_
    refine (ev_goto (M := ML_uses) (pc' := 87) dL_uses_83 (by decide)).mpr ?_
    refine eN_iadd (M := ML_uses) dL_uses_87 (pc' := 88) rfl ?_
    refine (ev_istore_n (M := ML_uses) (k := 3) rfl dL_uses_88 (by decide) (pc' := 89) rfl).mpr ?_
    refine eN_iinc (M := ML_uses) (v := 1) rfl dL_uses_89 (by decide) (pc' := 92) rfl rfl ?_
    refine (ev_goto (M := ML_uses) (pc' := 54) dL_uses_92 (by decide)).mpr ?_
    exact ev_more (by repeat (first | exact trivial | refine ⟨rfl, ?_⟩)) (by exact rfl) (by exact rfl) hq
  · rw [if_neg h] at hz
    subst hz
    refine eN_iload (M := ML_uses) dL_uses_54 (pc' := 56) rfl rfl ?_
    refine eN_iload (M := ML_uses) dL_uses_56 (pc' := 58) rfl rfl ?_
    refine (ev_icmp_ge (M := ML_uses) (t := 95) dL_uses_58 (by decide) (pc' := 61) rfl).mpr (ifF (by first | assumption | omega | rfl | exact fun q => q (by assumption) | exact fun q => q rfl | (simp (disch := omega) only [nle_t, nle_f, nlt_t, nlt_f, neq_t, neq_f, i_lt0, i_le0, i_0le, i_0lt, i_eq0, i_lt, i_le, i_eq, nI_add, i_sub, i_cl, i_m1a, i_m1b, i_m1c, i_m1d, i_m1e, i_am1, i_ite0, m1_le, m1_m1, m1_ge0, not_true_eq_false, not_false_eq_true, or_self, or_false, false_or, or_true, true_or, and_self, and_true, true_and])) ?_)
    refine eN_iload_n (M := ML_uses) (k := 3) rfl dL_uses_61 (pc' := 62) rfl rfl ?_
    refine eN_aload_n (M := ML_uses) (k := 0) rfl dL_uses_62 (pc' := 63) rfl rfl ?_
    refine eN_iload (M := ML_uses) dL_uses_63 (pc' := 65) rfl rfl ?_
    refine (ev_bipush (M := ML_uses) (v := (nI 64)) rfl dL_uses_65 (pc' := 67) rfl).mpr ?_
    refine eN_idiv (M := ML_uses) dL_uses_67 (pc' := 68) rfl (by omega) ?_
    refine eN_iload (M := ML_uses) dL_uses_68 (pc' := 70) rfl rfl ?_
    refine (ev_bipush (M := ML_uses) (v := (nI 64)) rfl dL_uses_70 (pc' := 72) rfl).mpr ?_
    refine eN_irem (M := ML_uses) dL_uses_72 (pc' := 73) rfl (by omega) ?_
    refine eN_iload (M := ML_uses) dL_uses_73 (pc' := 75) rfl rfl ?_
    refine (ev_cV3 (M := ML_uses) (kk := 8) dL_uses_75 c_9_32 mX6_chunkAt rfl rfl (by decide) rfl (pc' := 78) rfl).mpr ⟨(by assumption), (Nat.le_of_ble_eq_true rfl), eN_c c1 (by first | rfl | (simp (disch := omega) only [nI_add, i_sub]) | (simp only [*])) ?_⟩
    refine eN_iload_n (M := ML_uses) (k := 2) rfl dL_uses_78 (pc' := 79) rfl rfl ?_
    refine (ev_icmp_ne (M := ML_uses) (t := 86) dL_uses_79 (by decide) (pc' := 82) rfl).mpr (ifT (by first | assumption | omega | rfl | exact fun q => q (by assumption) | exact fun q => q rfl | (simp (disch := omega) only [nle_t, nle_f, nlt_t, nlt_f, neq_t, neq_f, i_lt0, i_le0, i_0le, i_0lt, i_eq0, i_lt, i_le, i_eq, nI_add, i_sub, i_cl, i_m1a, i_m1b, i_m1c, i_m1d, i_m1e, i_am1, i_ite0, m1_le, m1_m1, m1_ge0, not_true_eq_false, not_false_eq_true, or_self, or_false, false_or, or_true, true_or, and_self, and_true, true_and])) ?_)
    refine (ev_iconst (M := ML_uses) (v := (nI 0)) rfl dL_uses_86 (pc' := 87) rfl).mpr ?_
    refine eN_iadd (M := ML_uses) dL_uses_87 (pc' := 88) rfl ?_
    refine (ev_istore_n (M := ML_uses) (k := 3) rfl dL_uses_88 (by decide) (pc' := 89) rfl).mpr ?_
    refine eN_iinc (M := ML_uses) (v := 1) rfl dL_uses_89 (by decide) (pc' := 92) rfl rfl ?_
    refine (ev_goto (M := ML_uses) (pc' := 54) dL_uses_92 (by decide)).mpr ?_
    exact ev_more (by repeat (first | exact trivial | refine ⟨rfl, ?_⟩)) (by exact rfl) (by exact rfl) hq
theorem Z_us4 (hm : m ≤ 30) (hi : i < 384) (hq : Ev (d + 4) ML_uses [] 5 [(4, .int (nI (i + 1))), (3, .int (nI a)), (0, .ref X), (1, .ref G), (2, .int (nI n))] [] T Q) : Ev (d + 4) ML_uses [] 54 [(6, .int (nI m)), (5, .int (nI m)), (4, .int (nI i)), (3, .int (nI a)), (0, .ref X), (1, .ref G), (2, .int (nI n))] [] T Q := by
  refine eN_iload (M := ML_uses) dL_uses_54 (pc' := 56) rfl rfl ?_
  refine eN_iload (M := ML_uses) dL_uses_56 (pc' := 58) rfl rfl ?_
  refine (ev_icmp_ge (M := ML_uses) (t := 95) dL_uses_58 (by decide) (pc' := 61) rfl).mpr (ifT (by first | assumption | omega | rfl | exact fun q => q (by assumption) | exact fun q => q rfl | (simp (disch := omega) only [nle_t, nle_f, nlt_t, nlt_f, neq_t, neq_f, i_lt0, i_le0, i_0le, i_0lt, i_eq0, i_lt, i_le, i_eq, nI_add, i_sub, i_cl, i_m1a, i_m1b, i_m1c, i_m1d, i_m1e, i_am1, i_ite0, m1_le, m1_m1, m1_ge0, not_true_eq_false, not_false_eq_true, or_self, or_false, false_or, or_true, true_or, and_self, and_true, true_and])) ?_)
  refine eN_iinc (M := ML_uses) (v := 1) rfl dL_uses_95 (by decide) (pc' := 98) rfl rfl ?_
  refine (ev_goto (M := ML_uses) (pc' := 5) dL_uses_98 (by decide)).mpr ?_
  exact ev_more (by repeat (first | exact trivial | refine ⟨rfl, ?_⟩)) (by exact rfl) (by exact rfl) hq
end Z
theorem C_uses {n : Nat} (h : LV T X va ba ca dr kl vf vn vb ve vp nx sv cb us bl co op cs hi re st rw bx ud) (hg : gR T G kl vf vn st) (hn : n < 1000000) : Call (d + 5) 137 [.ref X, .ref G, .int (nI n)] T (.inl (some (.int (nI (uO kl ve n))))) T := by
  have k8 := h.k8
  have g1 := hg.1
  have g2 := hg.2.1
  have hr := h.rwl
  rw [uO_sum h.2.1.1 h.2.1.2.1 n, ← key_sum h]
  refine Call_of ?_
  have hb : ∀ i, (if i ∈ keyL kl vf vn then cntS (ve (kA kl vf vn i)) n else 0) ≤ 30 := fun i => by
    by_cases e : i ∈ keyL kl vf vn
    · rw [if_pos e]
      obtain ⟨k, hk, rfl⟩ := List.mem_map.mp e
      rw [kA_is h hk]
      exact Nat.le_trans (cntS_len _ _) (h.lens hk).2
    · rw [if_neg e]
      exact Nat.zero_le _
  rw [uL_uses]
  refine (ev_iconst (M := ML_uses) (v := (nI 0)) rfl dL_uses_0 (pc' := 1) rfl).mpr ?_
  refine (ev_istore_n (M := ML_uses) (k := 3) rfl dL_uses_1 (by decide) (pc' := 2) rfl).mpr ?_
  refine (ev_iconst (M := ML_uses) (v := (nI 0)) rfl dL_uses_2 (pc' := 3) rfl).mpr ?_
  refine (ev_istore (M := ML_uses) dL_uses_3 (by decide) (pc' := 5) rfl).mpr ?_
  refine lpX (fun i => [(4, .int (nI i)), (3, .int (nI (sm (fun i => if i ∈ keyL kl vf vn then cntS (ve (kA kl vf vn i)) n else 0) i))), (0, .ref X), (1, .ref G), (2, .int (nI n))]) (fun _ => T) 384 rfl rfl ?_ ?_
  · intro i hi hq
    have hs := smb_le (f := fun i => if i ∈ keyL kl vf vn then cntS (ve (kA kl vf vn i)) n else 0) (b := 30) i (fun k _ => hb k)
    have es : sm (fun i => if i ∈ keyL kl vf vn then cntS (ve (kA kl vf vn i)) n else 0) (i + 1) = sm (fun i => if i ∈ keyL kl vf vn then cntS (ve (kA kl vf vn i)) n else 0) i + (if i ∈ keyL kl vf vn then cntS (ve (kA kl vf vn i)) n else 0) := rfl
    rw [es] at hq
    have hbn := hg.bni h hi
    generalize sm (fun i => if i ∈ keyL kl vf vn then cntS (ve (kA kl vf vn i)) n else 0) i = a at *
    by_cases e : i ∈ keyL kl vf vn
    · rw [if_pos e] at hbn hq
      obtain ⟨k, hk, rfl⟩ := List.mem_map.mp e
      rw [kA_is h hk] at hq
      have hb64 := h.b64 hk
      have e1 : key vf vn k / 64 = vf k := by unfold key; omega
      have e2 : key vf vn k % 64 = vn k := by unfold key; omega
      have c1 := h.chunksOf (d := d) hk
      have c2 := fun j hj => h.chunkAt (d := d) (j := j) hk hj
      rw [← e1, ← e2] at c1 c2
      refine Z_us2 k8 g1 g2 hi (by omega) (h.lens hk).2 hbn c1 ?_
      have ec : cntS (ve k) n = sm (fun j => if (ve k).getD j 0 = n then 1 else 0) (ve k).length := by
        unfold cntS
        rw [← sm_list (f := fun e => if e = n then 1 else 0)]
      rw [ec] at hq
      refine lpX (fun j => [(6, .int (nI j)), (5, .int (nI (ve k).length)), (4, .int (nI (key vf vn k))), (3, .int (nI (a + sm (fun j => if (ve k).getD j 0 = n then 1 else 0) j))), (0, .ref X), (1, .ref G), (2, .int (nI n))]) (fun _ => T) (ve k).length rfl rfl ?_ ?_
      · intro j hj hq2
        have hs2 := smb_le (f := fun j => if (ve k).getD j 0 = n then 1 else 0) (b := 1) j (fun z _ => by show (if _ then 1 else 0) ≤ 1; split <;> omega)
        have hl := (h.lens hk).2
        have es2 : sm (fun j => if (ve k).getD j 0 = n then 1 else 0) (j + 1) = sm (fun j => if (ve k).getD j 0 = n then 1 else 0) j + (if (ve k).getD j 0 = n then 1 else 0) := rfl
        rw [es2, ← Nat.add_assoc] at hq2
        have hee := hr.2 _ (h.ents hk _ (gD_mem hj))
        exact Z_us3 k8 hi (by omega) hl hj (by omega) hn rfl (c2 j hj) hq2
      · exact Z_us4 (h.lens hk).2 hi hq
    · rw [if_neg e] at hbn hq
      exact Z_us1 k8 g1 g2 hi (by omega) hbn hq
  · skip
    refine eN_iload (M := ML_uses) dL_uses_5 (pc' := 7) rfl rfl ?_
    refine (ev_sipush (M := ML_uses) (v := (nI 384)) rfl dL_uses_7 (pc' := 10) rfl).mpr ?_
    refine (ev_icmp_ge (M := ML_uses) (t := 101) dL_uses_10 (by decide) (pc' := 13) rfl).mpr (ifT (by first | assumption | omega | rfl | exact fun q => q (by assumption) | exact fun q => q rfl | (simp (disch := omega) only [nle_t, nle_f, nlt_t, nlt_f, neq_t, neq_f, i_lt0, i_le0, i_0le, i_0lt, i_eq0, i_lt, i_le, i_eq, nI_add, i_sub, i_cl, i_m1a, i_m1b, i_m1c, i_m1d, i_m1e, i_am1, i_ite0, m1_le, m1_m1, m1_ge0, not_true_eq_false, not_false_eq_true, or_self, or_false, false_or, or_true, true_or, and_self, and_true, true_and])) ?_)
    refine eN_iload_n (M := ML_uses) (k := 3) rfl dL_uses_101 (pc' := 102) rfl rfl ?_
    refine (ev_iret (M := ML_uses) rfl dL_uses_102).mpr ?_
    exact ⟨rfl, rfl⟩
end KEY
