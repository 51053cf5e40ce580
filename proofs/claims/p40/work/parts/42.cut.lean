/-! where chunks end -/
section CUT
def wsum (xs : List Nat) (e : Nat) : Nat := sm (fun i => xs.getD (e - 8 + i) 0) 8
def ends (xs : List Nat) (f e : Nat) : Bool := decide (e = xs.length ∨ e - f = 32 ∨ (8 ≤ e - f ∧ wsum xs e % 16 = 0))
theorem ends_t {xs : List Nat} {f e : Nat} (h : ends xs f e = true) : e = xs.length ∨ e - f = 32 ∨ (8 ≤ e - f ∧ wsum xs e % 16 = 0) := of_decide_eq_true h
theorem ends_f {xs : List Nat} {f e : Nat} (h : ends xs f e = false) : ¬ (e = xs.length ∨ e - f = 32 ∨ (8 ≤ e - f ∧ wsum xs e % 16 = 0)) := of_decide_eq_false h
/-- where the chunk that begins at f ends -/
def nxt (xs : List Nat) (f : Nat) : Nat := f + 1 + ups (fun i => ends xs f (f + 1 + i) = false) (xs.length - f - 1) 0
theorem nxt_is {xs : List Nat} {f : Nat} (h : f < xs.length) : f < nxt xs f ∧ nxt xs f ≤ xs.length ∧ ends xs f (nxt xs f) = true ∧ ∀ e, f < e → e < nxt xs f → ends xs f e = false := by
  obtain ⟨-, h2, h3, h4⟩ := ups_is (fun i => ends xs f (f + 1 + i) = false) (xs.length - f - 1) 0
  unfold nxt
  generalize ups (fun i => ends xs f (f + 1 + i) = false) (xs.length - f - 1) 0 = u at *
  refine ⟨by omega, by omega, ?_, fun e e1 e2 => ?_⟩
  · rcases h4 with h4 | h4
    · unfold ends
      rw [decide_eq_true_eq]
      exact Or.inl (by omega)
    · simpa using h4
  · have := h3 (e - f - 1) (by omega) (by omega)
    rw [show f + 1 + (e - f - 1) = e by omega] at this
    exact this
theorem nxt_le {xs : List Nat} {f : Nat} (h : f < xs.length) : nxt xs f ≤ f + 32 := by
  obtain ⟨h1, h2, h3, h4⟩ := nxt_is h
  by_cases e : nxt xs f ≤ f + 32
  · exact e
  · have := ends_f (h4 (f + 32) (by omega) (by omega))
    exact absurd (Or.inr (Or.inl (by omega))) this
theorem nxt_ge {xs : List Nat} {f : Nat} (h : f < xs.length) : nxt xs f = xs.length ∨ f + 8 ≤ nxt xs f := by
  obtain ⟨h1, h2, h3, h4⟩ := nxt_is h
  rcases ends_t h3 with q | q | q
  · exact Or.inl q
  · exact Or.inr (by omega)
  · exact Or.inr (by omega)
/-- the chunks from f on: where they begin, how long they are -/
def cutL (xs : List Nat) : Nat → Nat → List (Nat × Nat)
  | 0, _ => []
  | k + 1, f => if f < xs.length then (f, nxt xs f - f) :: cutL xs k (nxt xs f) else []
theorem cutL_fuel {xs : List Nat} : ∀ (k k' f : Nat), xs.length ≤ f + k → xs.length ≤ f + k' → cutL xs k f = cutL xs k' f := by
  intro k
  induction k with
  | zero =>
    intro k' f h1 h2
    cases k' with
    | zero => rfl
    | succ k' => show [] = if f < xs.length then _ else _; rw [if_neg (by omega)]
  | succ k ih =>
    intro k' f h1 h2
    cases k' with
    | zero => show (if f < xs.length then _ else _) = []; rw [if_neg (by omega)]
    | succ k' =>
      show (if f < xs.length then _ else _) = if f < xs.length then _ else _
      by_cases h : f < xs.length
      · rw [if_pos h, if_pos h]
        have := (nxt_is h).1
        rw [ih k' (nxt xs f) (by omega) (by omega)]
      · rw [if_neg h, if_neg h]
/-- all of them -/
def cuts (xs : List Nat) (f : Nat) : List (Nat × Nat) := cutL xs (xs.length - f) f
theorem cuts_nil {xs : List Nat} {f : Nat} (h : ¬ f < xs.length) : cuts xs f = [] := by
  unfold cuts
  rw [show xs.length - f = 0 by omega]
  rfl
theorem cuts_cons {xs : List Nat} {f : Nat} (h : f < xs.length) : cuts xs f = (f, nxt xs f - f) :: cuts xs (nxt xs f) := by
  unfold cuts
  obtain ⟨k, hk⟩ : ∃ k, xs.length - f = k + 1 := ⟨xs.length - f - 1, by omega⟩
  rw [hk]
  show (if f < xs.length then _ else _) = _
  rw [if_pos h]
  have := (nxt_is h).1
  rw [cutL_fuel k (xs.length - nxt xs f) (nxt xs f) (by omega) (by omega)]
theorem cuts_ind {xs : List Nat} {P : Nat → Prop} (h0 : ∀ f, ¬ f < xs.length → P f) (h1 : ∀ f, f < xs.length → P (nxt xs f) → P f) : ∀ f, P f := by
  have key : ∀ k f, xs.length ≤ f + k → P f := by
    intro k
    induction k with
    | zero => intro f hf; exact h0 f (by omega)
    | succ k ih =>
      intro f hf
      by_cases h : f < xs.length
      · have := (nxt_is h).1
        exact h1 f h (ih _ (by omega))
      · exact h0 f h
  exact fun f => key xs.length f (by omega)
theorem cuts_len {xs : List Nat} : ∀ f, 8 * (cuts xs f).length ≤ xs.length - f + 7 := by
  refine cuts_ind (xs := xs) (fun f h => ?_) (fun f h ih => ?_)
  · rw [cuts_nil h]; show 8 * 0 ≤ _; omega
  · rw [cuts_cons h, List.length_cons]
    have h1 := (nxt_is h).1
    rcases nxt_ge h with q | q
    · rw [cuts_nil (by omega)] at ih ⊢
      show 8 * (0 + 1) ≤ _
      omega
    · omega
theorem cuts_mem {xs : List Nat} : ∀ f, ∀ q ∈ cuts xs f, f ≤ q.1 ∧ 1 ≤ q.2 ∧ q.2 ≤ 32 ∧ q.1 + q.2 ≤ xs.length ∧ q.1 + q.2 = nxt xs q.1 := by
  refine cuts_ind (xs := xs) (fun f h => ?_) (fun f h ih => ?_)
  · rw [cuts_nil h]
    intro q hq; nomatch hq
  · rw [cuts_cons h]
    obtain ⟨h1, h2, -, -⟩ := nxt_is h
    have h3 := nxt_le h
    intro q hq
    rcases List.mem_cons.mp hq with rfl | hq
    · exact ⟨Nat.le_refl _, by show 1 ≤ nxt xs f - f; omega, by show nxt xs f - f ≤ 32; omega, by show f + (nxt xs f - f) ≤ _; omega, by show f + (nxt xs f - f) = nxt xs f; omega⟩
    · obtain ⟨a1, a2⟩ := ih q hq
      exact ⟨by omega, a2⟩
theorem cuts_sum {xs : List Nat} : ∀ f, f ≤ xs.length → ((cuts xs f).map (fun q => q.2)).sum = xs.length - f := by
  refine cuts_ind (xs := xs) (fun f h => ?_) (fun f h ih => ?_)
  · intro hf
    rw [cuts_nil h]
    show 0 = _
    omega
  · intro hf
    obtain ⟨h1, h2, -, -⟩ := nxt_is h
    rw [cuts_cons h, List.map_cons, List.sum_cons, ih h2]
    show nxt xs f - f + _ = _
    omega
/-- the bytes of one -/
def sub (xs : List Nat) (q : Nat × Nat) : List Nat := (xs.drop q.1).take q.2
theorem sub_len {xs : List Nat} {q : Nat × Nat} (h : q.1 + q.2 ≤ xs.length) : (sub xs q).length = q.2 := by
  unfold sub
  rw [List.length_take, List.length_drop]
  omega
theorem sub_get {xs : List Nat} {q : Nat × Nat} {i : Nat} (h : i < q.2) : (sub xs q).getD i 0 = xs.getD (q.1 + i) 0 := by
  unfold sub
  simp only [List.getD_eq_getElem?_getD, List.getElem?_take, List.getElem?_drop]
  rw [if_pos h]
theorem sub_lies {xs : List Nat} {q : Nat × Nat} (h : q.1 + q.2 ≤ xs.length) (hx : ∀ x ∈ xs, x < 256) : liesIn (sub xs q) xs q.1 := by
  have e := sub_len h
  refine ⟨by omega, fun i hi => (sub_get (by omega)).symm, fun i hi => ?_⟩
  rw [sub_get (by omega)]
  exact hx _ (gD_mem (by omega))
end CUT
/-! DedupVault: where its pieces end -/
section PCO
variable {d r cap : Nat} {xs : List Nat} {T : TS}
theorem C_windowSum {e : Nat} (h : rowIs T r xs cap) (he : e ≤ xs.length) (h8 : 8 ≤ e) : Call (d + 2) 127 [.ref r, .int (nI e)] T (.inl (some (.int (nI (wsum xs e))))) T := by
  have hl := h.2.2.2.2.2.1
  have hl2 := h.2.2.2.2.2.2.1
  have hr := h.1
  refine Call_of ?_
  simp (disch := omega) only [ev_iconst (M := MX6_windowSum) (v := (nI 0)) rfl dX6_windowSum_0 (pc' := 1) rfl, ev_istore_n (M := MX6_windowSum) (k := 2) rfl dX6_windowSum_1 (by decide) (pc' := 2) rfl, ev_iload_n (M := MX6_windowSum) (k := 1) rfl dX6_windowSum_2 (pc' := 3) rfl, ev_bipush (M := MX6_windowSum) (v := (nI 8)) rfl dX6_windowSum_3 (pc' := 5) rfl, ev_isub (M := MX6_windowSum) dX6_windowSum_5 (pc' := 6) rfl, ev_istore_n (M := MX6_windowSum) (k := 3) rfl dX6_windowSum_6 (by decide) (pc' := 7) rfl, ev_iload_n (M := MX6_windowSum) (k := 1) rfl dX6_windowSum_8 (pc' := 9) rfl, ev_icmp_ge (M := MX6_windowSum) (t := 26) dX6_windowSum_9 (by decide) (pc' := 12) rfl, ev_iload_n (M := MX6_windowSum) (k := 2) rfl dX6_windowSum_12 (pc' := 13) rfl, ev_aload_n (M := MX6_windowSum) (k := 0) rfl dX6_windowSum_13 (pc' := 14) rfl, ev_iload_n (M := MX6_windowSum) (k := 3) rfl dX6_windowSum_14 (pc' := 15) rfl, ev_cV1 (M := MX6_windowSum) (kk := 5) dX6_windowSum_15 c_7_89 mX3_get rfl rfl (by decide) rfl (pc' := 18) rfl, ev_iadd (M := MX6_windowSum) dX6_windowSum_18 (pc' := 19) rfl, ev_istore_n (M := MX6_windowSum) (k := 2) rfl dX6_windowSum_19 (by decide) (pc' := 20) rfl, ev_iinc (M := MX6_windowSum) (v := (nI 1)) rfl dX6_windowSum_20 (by decide) (pc' := 23) rfl, ev_goto (M := MX6_windowSum) (pc' := 7) dX6_windowSum_23 (by decide), ev_iload_n (M := MX6_windowSum) (k := 2) rfl dX6_windowSum_26 (pc' := 27) rfl, ev_iret (M := MX6_windowSum) rfl dX6_windowSum_27, uX6_windowSum, lI_some, lJ_some, lR_ref, lR_null, lD_some, lget_cons, ldel_cons, ldel_nil, evR_v, evR_0, evR_x, vrf_s, vrf_n, Value.category, Nat.reduceEqDiff, Nat.reduceAdd, Nat.reduceSub, Nat.reduceMul, Nat.reduceLeDiff, reduceIte, if_true, if_false, or_self, or_false, false_or, or_true, true_or, and_self, and_true, true_and, and_false, false_and, not_true_eq_false, not_false_eq_true, List.length_cons, List.length_nil, Nat.zero_le, Nat.add_eq_zero_iff, Nat.succ_ne_zero, Nat.zero_add, Nat.add_zero, nle_t, nle_f, nlt_t, nlt_f, neq_t, neq_f, i_lt0, i_le0, i_0le, i_0lt, i_eq0, i_lt, i_le, i_eq, nI_add, i_sub, i_cl, i_m1a, i_m1b, i_m1c, i_m1d, i_m1e, i_am1, i_ite0]
  refine lpX (fun k => [(3, .int (nI (e - 8 + k))), (2, .int (nI (sm (fun i => xs.getD (e - 8 + i) 0) k))), (0, .ref r), (1, .int (nI e))]) (fun _ => T) 8 rfl rfl ?_ ?_
  · intro k hk hq
    have ek : sm (fun i => xs.getD (e - 8 + i) 0) (k + 1) = sm (fun i => xs.getD (e - 8 + i) 0) k + xs.getD (e - 8 + k) 0 := rfl
    rw [ek] at hq
    rw [ev_iload_n (M := MX6_windowSum) (k := 3) rfl dX6_windowSum_7 (pc' := 8) rfl]
    simp (disch := omega) only [ev_iconst (M := MX6_windowSum) (v := (nI 0)) rfl dX6_windowSum_0 (pc' := 1) rfl, ev_istore_n (M := MX6_windowSum) (k := 2) rfl dX6_windowSum_1 (by decide) (pc' := 2) rfl, ev_iload_n (M := MX6_windowSum) (k := 1) rfl dX6_windowSum_2 (pc' := 3) rfl, ev_bipush (M := MX6_windowSum) (v := (nI 8)) rfl dX6_windowSum_3 (pc' := 5) rfl, ev_isub (M := MX6_windowSum) dX6_windowSum_5 (pc' := 6) rfl, ev_istore_n (M := MX6_windowSum) (k := 3) rfl dX6_windowSum_6 (by decide) (pc' := 7) rfl, ev_iload_n (M := MX6_windowSum) (k := 1) rfl dX6_windowSum_8 (pc' := 9) rfl, ev_icmp_ge (M := MX6_windowSum) (t := 26) dX6_windowSum_9 (by decide) (pc' := 12) rfl, ev_iload_n (M := MX6_windowSum) (k := 2) rfl dX6_windowSum_12 (pc' := 13) rfl, ev_aload_n (M := MX6_windowSum) (k := 0) rfl dX6_windowSum_13 (pc' := 14) rfl, ev_iload_n (M := MX6_windowSum) (k := 3) rfl dX6_windowSum_14 (pc' := 15) rfl, ev_cV1 (M := MX6_windowSum) (kk := 5) dX6_windowSum_15 c_7_89 mX3_get rfl rfl (by decide) rfl (pc' := 18) rfl, ev_iadd (M := MX6_windowSum) dX6_windowSum_18 (pc' := 19) rfl, ev_istore_n (M := MX6_windowSum) (k := 2) rfl dX6_windowSum_19 (by decide) (pc' := 20) rfl, ev_iinc (M := MX6_windowSum) (v := (nI 1)) rfl dX6_windowSum_20 (by decide) (pc' := 23) rfl, ev_goto (M := MX6_windowSum) (pc' := 7) dX6_windowSum_23 (by decide), ev_iload_n (M := MX6_windowSum) (k := 2) rfl dX6_windowSum_26 (pc' := 27) rfl, ev_iret (M := MX6_windowSum) rfl dX6_windowSum_27, lI_some, lJ_some, lR_ref, lR_null, lD_some, lget_cons, ldel_cons, ldel_nil, evR_v, evR_0, evR_x, vrf_s, vrf_n, Value.category, Nat.reduceEqDiff, Nat.reduceAdd, Nat.reduceSub, Nat.reduceMul, Nat.reduceLeDiff, reduceIte, if_true, if_false, or_self, or_false, false_or, or_true, true_or, and_self, and_true, true_and, and_false, false_and, not_true_eq_false, not_false_eq_true, List.length_cons, List.length_nil, Nat.zero_le, Nat.add_eq_zero_iff, Nat.succ_ne_zero, Nat.zero_add, Nat.add_zero, nle_t, nle_f, nlt_t, nlt_f, neq_t, neq_f, i_lt0, i_le0, i_0le, i_0lt, i_eq0, i_lt, i_le, i_eq, nI_add, i_sub, i_cl, i_m1a, i_m1b, i_m1c, i_m1d, i_m1e, i_am1, i_ite0, hr, c_X3_get h]
    exact hq
  · rw [ev_iload_n (M := MX6_windowSum) (k := 3) rfl dX6_windowSum_7 (pc' := 8) rfl]
    simp (disch := omega) only [ev_iconst (M := MX6_windowSum) (v := (nI 0)) rfl dX6_windowSum_0 (pc' := 1) rfl, ev_istore_n (M := MX6_windowSum) (k := 2) rfl dX6_windowSum_1 (by decide) (pc' := 2) rfl, ev_iload_n (M := MX6_windowSum) (k := 1) rfl dX6_windowSum_2 (pc' := 3) rfl, ev_bipush (M := MX6_windowSum) (v := (nI 8)) rfl dX6_windowSum_3 (pc' := 5) rfl, ev_isub (M := MX6_windowSum) dX6_windowSum_5 (pc' := 6) rfl, ev_istore_n (M := MX6_windowSum) (k := 3) rfl dX6_windowSum_6 (by decide) (pc' := 7) rfl, ev_iload_n (M := MX6_windowSum) (k := 1) rfl dX6_windowSum_8 (pc' := 9) rfl, ev_icmp_ge (M := MX6_windowSum) (t := 26) dX6_windowSum_9 (by decide) (pc' := 12) rfl, ev_iload_n (M := MX6_windowSum) (k := 2) rfl dX6_windowSum_12 (pc' := 13) rfl, ev_aload_n (M := MX6_windowSum) (k := 0) rfl dX6_windowSum_13 (pc' := 14) rfl, ev_iload_n (M := MX6_windowSum) (k := 3) rfl dX6_windowSum_14 (pc' := 15) rfl, ev_cV1 (M := MX6_windowSum) (kk := 5) dX6_windowSum_15 c_7_89 mX3_get rfl rfl (by decide) rfl (pc' := 18) rfl, ev_iadd (M := MX6_windowSum) dX6_windowSum_18 (pc' := 19) rfl, ev_istore_n (M := MX6_windowSum) (k := 2) rfl dX6_windowSum_19 (by decide) (pc' := 20) rfl, ev_iinc (M := MX6_windowSum) (v := (nI 1)) rfl dX6_windowSum_20 (by decide) (pc' := 23) rfl, ev_goto (M := MX6_windowSum) (pc' := 7) dX6_windowSum_23 (by decide), ev_iload_n (M := MX6_windowSum) (k := 2) rfl dX6_windowSum_26 (pc' := 27) rfl, ev_iret (M := MX6_windowSum) rfl dX6_windowSum_27, lI_some, lJ_some, lR_ref, lR_null, lD_some, lget_cons, ldel_cons, ldel_nil, evR_v, evR_0, evR_x, vrf_s, vrf_n, Value.category, Nat.reduceEqDiff, Nat.reduceAdd, Nat.reduceSub, Nat.reduceMul, Nat.reduceLeDiff, reduceIte, if_true, if_false, or_self, or_false, false_or, or_true, true_or, and_self, and_true, true_and, and_false, false_and, not_true_eq_false, not_false_eq_true, List.length_cons, List.length_nil, Nat.zero_le, Nat.add_eq_zero_iff, Nat.succ_ne_zero, Nat.zero_add, Nat.add_zero, nle_t, nle_f, nlt_t, nlt_f, neq_t, neq_f, i_lt0, i_le0, i_0le, i_0lt, i_eq0, i_lt, i_le, i_eq, nI_add, i_sub, i_cl, i_m1a, i_m1b, i_m1c, i_m1d, i_m1e, i_am1, i_ite0]
    rfl
theorem wsum_lt {e : Nat} (hx : ∀ x ∈ xs, x < 256) : wsum xs e < 3000 := by
  have := sm_le (f := fun i => xs.getD (e - 8 + i) 0) (B := 255) (n := 8) (fun i hi => by
    by_cases q : e - 8 + i < xs.length
    · have := hx _ (gD_mem q)
      show xs.getD _ 0 ≤ 255
      omega
    · show xs.getD _ 0 ≤ 255
      rw [List.getD_eq_getElem?_getD, List.getElem?_eq_none (by omega)]
      exact Nat.zero_le _)
  unfold wsum
  omega
theorem C_endsPiece {f e : Nat} (h : rowIs T r xs cap) (hx : ∀ x ∈ xs, x < 256) (hf : f < e) (he : e ≤ xs.length) : Call (d + 3) 126 [.ref r, .int (nI f), .int (nI e)] T (.inl (some (.int (nI (if ends xs f e = true then 1 else 0))))) T := by
  have hl := h.2.2.2.2.2.1
  have hl2 := h.2.2.2.2.2.2.1
  have hr := h.1
  have hw := wsum_lt (e := e) hx
  refine Call_of ?_
  have ee : (ends xs f e = true) ↔ (e = xs.length ∨ e - f = 32 ∨ (8 ≤ e - f ∧ wsum xs e % 16 = 0)) := by
    unfold ends; rw [decide_eq_true_eq]
  by_cases c1 : e = xs.length
  · rw [if_pos (ee.mpr (Or.inl c1))]
    simp (disch := omega) only [ev_iload_n (M := MX6_endsPiece) (k := 2) rfl dX6_endsPiece_0 (pc' := 1) rfl, ev_iload_n (M := MX6_endsPiece) (k := 1) rfl dX6_endsPiece_1 (pc' := 2) rfl, ev_isub (M := MX6_endsPiece) dX6_endsPiece_2 (pc' := 3) rfl, ev_istore_n (M := MX6_endsPiece) (k := 3) rfl dX6_endsPiece_3 (by decide) (pc' := 4) rfl, ev_iload_n (M := MX6_endsPiece) (k := 2) rfl dX6_endsPiece_4 (pc' := 5) rfl, ev_aload_n (M := MX6_endsPiece) (k := 0) rfl dX6_endsPiece_5 (pc' := 6) rfl, ev_cV0 (M := MX6_endsPiece) (kk := 5) dX6_endsPiece_6 c_7_47 mX3_size rfl rfl (by decide) rfl (pc' := 9) rfl, ev_icmp_eq (M := MX6_endsPiece) (t := 18) dX6_endsPiece_9 (by decide) (pc' := 12) rfl, ev_iload_n (M := MX6_endsPiece) (k := 3) rfl dX6_endsPiece_12 (pc' := 13) rfl, ev_bipush (M := MX6_endsPiece) (v := (nI 32)) rfl dX6_endsPiece_13 (pc' := 15) rfl, ev_icmp_ne (M := MX6_endsPiece) (t := 20) dX6_endsPiece_15 (by decide) (pc' := 18) rfl, ev_iconst (M := MX6_endsPiece) (v := (nI 1)) rfl dX6_endsPiece_18 (pc' := 19) rfl, ev_zretI (M := MX6_endsPiece) rfl dX6_endsPiece_19, ev_iload_n (M := MX6_endsPiece) (k := 3) rfl dX6_endsPiece_20 (pc' := 21) rfl, ev_bipush (M := MX6_endsPiece) (v := (nI 8)) rfl dX6_endsPiece_21 (pc' := 23) rfl, ev_icmp_lt (M := MX6_endsPiece) (t := 41) dX6_endsPiece_23 (by decide) (pc' := 26) rfl, ev_aload_n (M := MX6_endsPiece) (k := 0) rfl dX6_endsPiece_26 (pc' := 27) rfl, ev_iload_n (M := MX6_endsPiece) (k := 2) rfl dX6_endsPiece_27 (pc' := 28) rfl, ev_cS2 (M := MX6_endsPiece) dX6_endsPiece_28 c_7_237 (by decide) mX6_windowSum rfl rfl (pc' := 31) rfl, ev_bipush (M := MX6_endsPiece) (v := (nI 16)) rfl dX6_endsPiece_31 (pc' := 33) rfl, ev_irem (M := MX6_endsPiece) dX6_endsPiece_33 (pc' := 34) rfl, ev_if_ne (M := MX6_endsPiece) (t := 41) dX6_endsPiece_34 (by decide) (pc' := 37) rfl, ev_iconst (M := MX6_endsPiece) (v := (nI 1)) rfl dX6_endsPiece_37 (pc' := 38) rfl, ev_goto (M := MX6_endsPiece) (pc' := 42) dX6_endsPiece_38 (by decide), ev_iconst (M := MX6_endsPiece) (v := (nI 0)) rfl dX6_endsPiece_41 (pc' := 42) rfl, ev_zretI (M := MX6_endsPiece) rfl dX6_endsPiece_42, uX6_endsPiece, lI_some, lJ_some, lR_ref, lR_null, lD_some, lget_cons, ldel_cons, ldel_nil, evR_v, evR_0, evR_x, vrf_s, vrf_n, Value.category, Nat.reduceEqDiff, Nat.reduceAdd, Nat.reduceSub, Nat.reduceMul, Nat.reduceLeDiff, reduceIte, if_true, if_false, or_self, or_false, false_or, or_true, true_or, and_self, and_true, true_and, and_false, false_and, not_true_eq_false, not_false_eq_true, List.length_cons, List.length_nil, Nat.zero_le, Nat.add_eq_zero_iff, Nat.succ_ne_zero, Nat.zero_add, Nat.add_zero, nle_t, nle_f, nlt_t, nlt_f, neq_t, neq_f, i_lt0, i_le0, i_0le, i_0lt, i_eq0, i_lt, i_le, i_eq, nI_add, i_sub, i_cl, i_m1a, i_m1b, i_m1c, i_m1d, i_m1e, i_am1, i_ite0, hr, c_X3_size h]
  · by_cases c2 : e - f = 32
    · rw [if_pos (ee.mpr (Or.inr (Or.inl c2)))]
      simp (disch := omega) only [ev_iload_n (M := MX6_endsPiece) (k := 2) rfl dX6_endsPiece_0 (pc' := 1) rfl, ev_iload_n (M := MX6_endsPiece) (k := 1) rfl dX6_endsPiece_1 (pc' := 2) rfl, ev_isub (M := MX6_endsPiece) dX6_endsPiece_2 (pc' := 3) rfl, ev_istore_n (M := MX6_endsPiece) (k := 3) rfl dX6_endsPiece_3 (by decide) (pc' := 4) rfl, ev_iload_n (M := MX6_endsPiece) (k := 2) rfl dX6_endsPiece_4 (pc' := 5) rfl, ev_aload_n (M := MX6_endsPiece) (k := 0) rfl dX6_endsPiece_5 (pc' := 6) rfl, ev_cV0 (M := MX6_endsPiece) (kk := 5) dX6_endsPiece_6 c_7_47 mX3_size rfl rfl (by decide) rfl (pc' := 9) rfl, ev_icmp_eq (M := MX6_endsPiece) (t := 18) dX6_endsPiece_9 (by decide) (pc' := 12) rfl, ev_iload_n (M := MX6_endsPiece) (k := 3) rfl dX6_endsPiece_12 (pc' := 13) rfl, ev_bipush (M := MX6_endsPiece) (v := (nI 32)) rfl dX6_endsPiece_13 (pc' := 15) rfl, ev_icmp_ne (M := MX6_endsPiece) (t := 20) dX6_endsPiece_15 (by decide) (pc' := 18) rfl, ev_iconst (M := MX6_endsPiece) (v := (nI 1)) rfl dX6_endsPiece_18 (pc' := 19) rfl, ev_zretI (M := MX6_endsPiece) rfl dX6_endsPiece_19, ev_iload_n (M := MX6_endsPiece) (k := 3) rfl dX6_endsPiece_20 (pc' := 21) rfl, ev_bipush (M := MX6_endsPiece) (v := (nI 8)) rfl dX6_endsPiece_21 (pc' := 23) rfl, ev_icmp_lt (M := MX6_endsPiece) (t := 41) dX6_endsPiece_23 (by decide) (pc' := 26) rfl, ev_aload_n (M := MX6_endsPiece) (k := 0) rfl dX6_endsPiece_26 (pc' := 27) rfl, ev_iload_n (M := MX6_endsPiece) (k := 2) rfl dX6_endsPiece_27 (pc' := 28) rfl, ev_cS2 (M := MX6_endsPiece) dX6_endsPiece_28 c_7_237 (by decide) mX6_windowSum rfl rfl (pc' := 31) rfl, ev_bipush (M := MX6_endsPiece) (v := (nI 16)) rfl dX6_endsPiece_31 (pc' := 33) rfl, ev_irem (M := MX6_endsPiece) dX6_endsPiece_33 (pc' := 34) rfl, ev_if_ne (M := MX6_endsPiece) (t := 41) dX6_endsPiece_34 (by decide) (pc' := 37) rfl, ev_iconst (M := MX6_endsPiece) (v := (nI 1)) rfl dX6_endsPiece_37 (pc' := 38) rfl, ev_goto (M := MX6_endsPiece) (pc' := 42) dX6_endsPiece_38 (by decide), ev_iconst (M := MX6_endsPiece) (v := (nI 0)) rfl dX6_endsPiece_41 (pc' := 42) rfl, ev_zretI (M := MX6_endsPiece) rfl dX6_endsPiece_42, uX6_endsPiece, lI_some, lJ_some, lR_ref, lR_null, lD_some, lget_cons, ldel_cons, ldel_nil, evR_v, evR_0, evR_x, vrf_s, vrf_n, Value.category, Nat.reduceEqDiff, Nat.reduceAdd, Nat.reduceSub, Nat.reduceMul, Nat.reduceLeDiff, reduceIte, if_true, if_false, or_self, or_false, false_or, or_true, true_or, and_self, and_true, true_and, and_false, false_and, not_true_eq_false, not_false_eq_true, List.length_cons, List.length_nil, Nat.zero_le, Nat.add_eq_zero_iff, Nat.succ_ne_zero, Nat.zero_add, Nat.add_zero, nle_t, nle_f, nlt_t, nlt_f, neq_t, neq_f, i_lt0, i_le0, i_0le, i_0lt, i_eq0, i_lt, i_le, i_eq, nI_add, i_sub, i_cl, i_m1a, i_m1b, i_m1c, i_m1d, i_m1e, i_am1, i_ite0, hr, c_X3_size h]
    · by_cases c3 : 8 ≤ e - f
      · have c := C_windowSum (d := d) h he (by omega)
        by_cases c4 : wsum xs e % 16 = 0
        · rw [if_pos (ee.mpr (Or.inr (Or.inr ⟨c3, c4⟩)))]
          simp (disch := omega) only [ev_iload_n (M := MX6_endsPiece) (k := 2) rfl dX6_endsPiece_0 (pc' := 1) rfl, ev_iload_n (M := MX6_endsPiece) (k := 1) rfl dX6_endsPiece_1 (pc' := 2) rfl, ev_isub (M := MX6_endsPiece) dX6_endsPiece_2 (pc' := 3) rfl, ev_istore_n (M := MX6_endsPiece) (k := 3) rfl dX6_endsPiece_3 (by decide) (pc' := 4) rfl, ev_iload_n (M := MX6_endsPiece) (k := 2) rfl dX6_endsPiece_4 (pc' := 5) rfl, ev_aload_n (M := MX6_endsPiece) (k := 0) rfl dX6_endsPiece_5 (pc' := 6) rfl, ev_cV0 (M := MX6_endsPiece) (kk := 5) dX6_endsPiece_6 c_7_47 mX3_size rfl rfl (by decide) rfl (pc' := 9) rfl, ev_icmp_eq (M := MX6_endsPiece) (t := 18) dX6_endsPiece_9 (by decide) (pc' := 12) rfl, ev_iload_n (M := MX6_endsPiece) (k := 3) rfl dX6_endsPiece_12 (pc' := 13) rfl, ev_bipush (M := MX6_endsPiece) (v := (nI 32)) rfl dX6_endsPiece_13 (pc' := 15) rfl, ev_icmp_ne (M := MX6_endsPiece) (t := 20) dX6_endsPiece_15 (by decide) (pc' := 18) rfl, ev_iconst (M := MX6_endsPiece) (v := (nI 1)) rfl dX6_endsPiece_18 (pc' := 19) rfl, ev_zretI (M := MX6_endsPiece) rfl dX6_endsPiece_19, ev_iload_n (M := MX6_endsPiece) (k := 3) rfl dX6_endsPiece_20 (pc' := 21) rfl, ev_bipush (M := MX6_endsPiece) (v := (nI 8)) rfl dX6_endsPiece_21 (pc' := 23) rfl, ev_icmp_lt (M := MX6_endsPiece) (t := 41) dX6_endsPiece_23 (by decide) (pc' := 26) rfl, ev_aload_n (M := MX6_endsPiece) (k := 0) rfl dX6_endsPiece_26 (pc' := 27) rfl, ev_iload_n (M := MX6_endsPiece) (k := 2) rfl dX6_endsPiece_27 (pc' := 28) rfl, ev_cS2 (M := MX6_endsPiece) dX6_endsPiece_28 c_7_237 (by decide) mX6_windowSum rfl rfl (pc' := 31) rfl, ev_bipush (M := MX6_endsPiece) (v := (nI 16)) rfl dX6_endsPiece_31 (pc' := 33) rfl, ev_irem (M := MX6_endsPiece) dX6_endsPiece_33 (pc' := 34) rfl, ev_if_ne (M := MX6_endsPiece) (t := 41) dX6_endsPiece_34 (by decide) (pc' := 37) rfl, ev_iconst (M := MX6_endsPiece) (v := (nI 1)) rfl dX6_endsPiece_37 (pc' := 38) rfl, ev_goto (M := MX6_endsPiece) (pc' := 42) dX6_endsPiece_38 (by decide), ev_iconst (M := MX6_endsPiece) (v := (nI 0)) rfl dX6_endsPiece_41 (pc' := 42) rfl, ev_zretI (M := MX6_endsPiece) rfl dX6_endsPiece_42, uX6_endsPiece, lI_some, lJ_some, lR_ref, lR_null, lD_some, lget_cons, ldel_cons, ldel_nil, evR_v, evR_0, evR_x, vrf_s, vrf_n, Value.category, Nat.reduceEqDiff, Nat.reduceAdd, Nat.reduceSub, Nat.reduceMul, Nat.reduceLeDiff, reduceIte, if_true, if_false, or_self, or_false, false_or, or_true, true_or, and_self, and_true, true_and, and_false, false_and, not_true_eq_false, not_false_eq_true, List.length_cons, List.length_nil, Nat.zero_le, Nat.add_eq_zero_iff, Nat.succ_ne_zero, Nat.zero_add, Nat.add_zero, nle_t, nle_f, nlt_t, nlt_f, neq_t, neq_f, i_lt0, i_le0, i_0le, i_0lt, i_eq0, i_lt, i_le, i_eq, nI_add, i_sub, i_cl, i_m1a, i_m1b, i_m1c, i_m1d, i_m1e, i_am1, i_ite0, hr, c_X3_size h, cq c, i_rem]
        · rw [if_neg (fun q => by rcases ee.mp q with q | q | q; exact c1 q; exact c2 q; exact c4 q.2)]
          simp (disch := omega) only [ev_iload_n (M := MX6_endsPiece) (k := 2) rfl dX6_endsPiece_0 (pc' := 1) rfl, ev_iload_n (M := MX6_endsPiece) (k := 1) rfl dX6_endsPiece_1 (pc' := 2) rfl, ev_isub (M := MX6_endsPiece) dX6_endsPiece_2 (pc' := 3) rfl, ev_istore_n (M := MX6_endsPiece) (k := 3) rfl dX6_endsPiece_3 (by decide) (pc' := 4) rfl, ev_iload_n (M := MX6_endsPiece) (k := 2) rfl dX6_endsPiece_4 (pc' := 5) rfl, ev_aload_n (M := MX6_endsPiece) (k := 0) rfl dX6_endsPiece_5 (pc' := 6) rfl, ev_cV0 (M := MX6_endsPiece) (kk := 5) dX6_endsPiece_6 c_7_47 mX3_size rfl rfl (by decide) rfl (pc' := 9) rfl, ev_icmp_eq (M := MX6_endsPiece) (t := 18) dX6_endsPiece_9 (by decide) (pc' := 12) rfl, ev_iload_n (M := MX6_endsPiece) (k := 3) rfl dX6_endsPiece_12 (pc' := 13) rfl, ev_bipush (M := MX6_endsPiece) (v := (nI 32)) rfl dX6_endsPiece_13 (pc' := 15) rfl, ev_icmp_ne (M := MX6_endsPiece) (t := 20) dX6_endsPiece_15 (by decide) (pc' := 18) rfl, ev_iconst (M := MX6_endsPiece) (v := (nI 1)) rfl dX6_endsPiece_18 (pc' := 19) rfl, ev_zretI (M := MX6_endsPiece) rfl dX6_endsPiece_19, ev_iload_n (M := MX6_endsPiece) (k := 3) rfl dX6_endsPiece_20 (pc' := 21) rfl, ev_bipush (M := MX6_endsPiece) (v := (nI 8)) rfl dX6_endsPiece_21 (pc' := 23) rfl, ev_icmp_lt (M := MX6_endsPiece) (t := 41) dX6_endsPiece_23 (by decide) (pc' := 26) rfl, ev_aload_n (M := MX6_endsPiece) (k := 0) rfl dX6_endsPiece_26 (pc' := 27) rfl, ev_iload_n (M := MX6_endsPiece) (k := 2) rfl dX6_endsPiece_27 (pc' := 28) rfl, ev_cS2 (M := MX6_endsPiece) dX6_endsPiece_28 c_7_237 (by decide) mX6_windowSum rfl rfl (pc' := 31) rfl, ev_bipush (M := MX6_endsPiece) (v := (nI 16)) rfl dX6_endsPiece_31 (pc' := 33) rfl, ev_irem (M := MX6_endsPiece) dX6_endsPiece_33 (pc' := 34) rfl, ev_if_ne (M := MX6_endsPiece) (t := 41) dX6_endsPiece_34 (by decide) (pc' := 37) rfl, ev_iconst (M := MX6_endsPiece) (v := (nI 1)) rfl dX6_endsPiece_37 (pc' := 38) rfl, ev_goto (M := MX6_endsPiece) (pc' := 42) dX6_endsPiece_38 (by decide), ev_iconst (M := MX6_endsPiece) (v := (nI 0)) rfl dX6_endsPiece_41 (pc' := 42) rfl, ev_zretI (M := MX6_endsPiece) rfl dX6_endsPiece_42, uX6_endsPiece, lI_some, lJ_some, lR_ref, lR_null, lD_some, lget_cons, ldel_cons, ldel_nil, evR_v, evR_0, evR_x, vrf_s, vrf_n, Value.category, Nat.reduceEqDiff, Nat.reduceAdd, Nat.reduceSub, Nat.reduceMul, Nat.reduceLeDiff, reduceIte, if_true, if_false, or_self, or_false, false_or, or_true, true_or, and_self, and_true, true_and, and_false, false_and, not_true_eq_false, not_false_eq_true, List.length_cons, List.length_nil, Nat.zero_le, Nat.add_eq_zero_iff, Nat.succ_ne_zero, Nat.zero_add, Nat.add_zero, nle_t, nle_f, nlt_t, nlt_f, neq_t, neq_f, i_lt0, i_le0, i_0le, i_0lt, i_eq0, i_lt, i_le, i_eq, nI_add, i_sub, i_cl, i_m1a, i_m1b, i_m1c, i_m1d, i_m1e, i_am1, i_ite0, hr, c_X3_size h, cq c, i_rem]
      · rw [if_neg (fun q => by rcases ee.mp q with q | q | q; exact c1 q; exact c2 q; exact c3 q.1)]
        simp (disch := omega) only [ev_iload_n (M := MX6_endsPiece) (k := 2) rfl dX6_endsPiece_0 (pc' := 1) rfl, ev_iload_n (M := MX6_endsPiece) (k := 1) rfl dX6_endsPiece_1 (pc' := 2) rfl, ev_isub (M := MX6_endsPiece) dX6_endsPiece_2 (pc' := 3) rfl, ev_istore_n (M := MX6_endsPiece) (k := 3) rfl dX6_endsPiece_3 (by decide) (pc' := 4) rfl, ev_iload_n (M := MX6_endsPiece) (k := 2) rfl dX6_endsPiece_4 (pc' := 5) rfl, ev_aload_n (M := MX6_endsPiece) (k := 0) rfl dX6_endsPiece_5 (pc' := 6) rfl, ev_cV0 (M := MX6_endsPiece) (kk := 5) dX6_endsPiece_6 c_7_47 mX3_size rfl rfl (by decide) rfl (pc' := 9) rfl, ev_icmp_eq (M := MX6_endsPiece) (t := 18) dX6_endsPiece_9 (by decide) (pc' := 12) rfl, ev_iload_n (M := MX6_endsPiece) (k := 3) rfl dX6_endsPiece_12 (pc' := 13) rfl, ev_bipush (M := MX6_endsPiece) (v := (nI 32)) rfl dX6_endsPiece_13 (pc' := 15) rfl, ev_icmp_ne (M := MX6_endsPiece) (t := 20) dX6_endsPiece_15 (by decide) (pc' := 18) rfl, ev_iconst (M := MX6_endsPiece) (v := (nI 1)) rfl dX6_endsPiece_18 (pc' := 19) rfl, ev_zretI (M := MX6_endsPiece) rfl dX6_endsPiece_19, ev_iload_n (M := MX6_endsPiece) (k := 3) rfl dX6_endsPiece_20 (pc' := 21) rfl, ev_bipush (M := MX6_endsPiece) (v := (nI 8)) rfl dX6_endsPiece_21 (pc' := 23) rfl, ev_icmp_lt (M := MX6_endsPiece) (t := 41) dX6_endsPiece_23 (by decide) (pc' := 26) rfl, ev_aload_n (M := MX6_endsPiece) (k := 0) rfl dX6_endsPiece_26 (pc' := 27) rfl, ev_iload_n (M := MX6_endsPiece) (k := 2) rfl dX6_endsPiece_27 (pc' := 28) rfl, ev_cS2 (M := MX6_endsPiece) dX6_endsPiece_28 c_7_237 (by decide) mX6_windowSum rfl rfl (pc' := 31) rfl, ev_bipush (M := MX6_endsPiece) (v := (nI 16)) rfl dX6_endsPiece_31 (pc' := 33) rfl, ev_irem (M := MX6_endsPiece) dX6_endsPiece_33 (pc' := 34) rfl, ev_if_ne (M := MX6_endsPiece) (t := 41) dX6_endsPiece_34 (by decide) (pc' := 37) rfl, ev_iconst (M := MX6_endsPiece) (v := (nI 1)) rfl dX6_endsPiece_37 (pc' := 38) rfl, ev_goto (M := MX6_endsPiece) (pc' := 42) dX6_endsPiece_38 (by decide), ev_iconst (M := MX6_endsPiece) (v := (nI 0)) rfl dX6_endsPiece_41 (pc' := 42) rfl, ev_zretI (M := MX6_endsPiece) rfl dX6_endsPiece_42, uX6_endsPiece, lI_some, lJ_some, lR_ref, lR_null, lD_some, lget_cons, ldel_cons, ldel_nil, evR_v, evR_0, evR_x, vrf_s, vrf_n, Value.category, Nat.reduceEqDiff, Nat.reduceAdd, Nat.reduceSub, Nat.reduceMul, Nat.reduceLeDiff, reduceIte, if_true, if_false, or_self, or_false, false_or, or_true, true_or, and_self, and_true, true_and, and_false, false_and, not_true_eq_false, not_false_eq_true, List.length_cons, List.length_nil, Nat.zero_le, Nat.add_eq_zero_iff, Nat.succ_ne_zero, Nat.zero_add, Nat.add_zero, nle_t, nle_f, nlt_t, nlt_f, neq_t, neq_f, i_lt0, i_le0, i_0le, i_0lt, i_eq0, i_lt, i_le, i_eq, nI_add, i_sub, i_cl, i_m1a, i_m1b, i_m1c, i_m1d, i_m1e, i_am1, i_ite0, hr, c_X3_size h]
end PCO
