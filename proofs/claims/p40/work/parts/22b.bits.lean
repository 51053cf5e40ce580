/-! sets of versions: the bits of a long -/
def bL (x : Int64) (k : Nat) : Bool := x.toBitVec.getLsbD k
theorem sL_l : ∀ n, n < 64 → (((nI n).toInt64 &&& 63).toBitVec.smod 64).toNat = n := by decide +kernel
theorem bv_one (v : BitVec 64) : (v &&& 1#64 = 1#64) ↔ v.getLsbD 0 = true := by
  constructor
  · intro h
    have := congrArg (fun w => BitVec.getLsbD w 0) h
    simpa using this
  · intro h
    apply BitVec.eq_of_getLsbD_eq
    intro i hi
    rw [BitVec.getLsbD_and, BitVec.getLsbD_one]
    by_cases e : i = 0
    · subst e
      simp [h]
    · simp [e]
theorem bL_in {x : Int64} {k : Nat} (hk : k < 64) : ((x >>> ((nI k).toInt64 &&& 63)) &&& 1 = 1) ↔ bL x k = true := by
  rw [← Int64.toBitVec_inj, Int64.toBitVec_and]
  refine (bv_one _).trans ?_
  rw [Int64.toBitVec_shiftRight]
  show (x.toBitVec.sshiftRight (((nI k).toInt64 &&& 63).toBitVec.smod 64).toNat).getLsbD 0 = true ↔ _
  rw [sL_l k hk, BitVec.getLsbD_sshiftRight]
  simp [hk, bL]
theorem bL_or {x : Int64} {k v : Nat} (hk : k < 64) (hv : v < 64) : bL (x ||| (1 <<< ((nI v).toInt64 &&& 63))) k = (bL x k || decide (k = v)) := by
  unfold bL
  rw [Int64.toBitVec_or, Int64.toBitVec_shiftLeft, BitVec.getLsbD_or]
  show (_ || ((1#64 : BitVec 64) <<< (((nI v).toInt64 &&& 63).toBitVec.smod 64).toNat).getLsbD k) = _
  rw [sL_l v hv, BitVec.getLsbD_shiftLeft, BitVec.getLsbD_one]
  congr 1
  by_cases e : k = v
  · subst e
    simp [hk]
  · rw [decide_eq_false e]
    by_cases e2 : k < v
    · simp [e2]
    · have e3 : ¬ k - v = 0 := by omega
      simp [e3]
theorem bL_off {x : Int64} {k v : Nat} (hk : k < 64) (hv : v < 64) : bL (x &&& ((1 <<< ((nI v).toInt64 &&& 63)) ^^^ (-1))) k = (bL x k && decide (k ≠ v)) := by
  unfold bL
  rw [Int64.toBitVec_and, Int64.toBitVec_xor, Int64.toBitVec_shiftLeft, BitVec.getLsbD_and, BitVec.getLsbD_xor]
  show (_ && (((1#64 : BitVec 64) <<< (((nI v).toInt64 &&& 63).toBitVec.smod 64).toNat).getLsbD k ^^ (BitVec.allOnes 64).getLsbD k)) = _
  rw [sL_l v hv, BitVec.getLsbD_shiftLeft, BitVec.getLsbD_one, BitVec.getLsbD_allOnes]
  congr 1
  by_cases e : k = v
  · subst e
    simp [hk]
  · have e' : k ≠ v := e
    by_cases e2 : k < v
    · simp [e2, hk, e']
    · have e3 : ¬ k - v = 0 := by omega
      simp [e3, hk, e']
theorem bL_0 {k : Nat} : bL 0 k = false := BitVec.getLsbD_zero
/-! longs out of ints -/
def jN (a : Nat) : Int64 := (nI a).toInt64
theorem jN_int {a : Nat} (h : a < 2147483648) : (jN a).toInt = a := by
  unfold jN
  rw [Int32.toInt_toInt64]
  exact Int32.toInt_ofNat_of_lt h
theorem lc_gt {x y : Int64} : (0 < lg_cmp x y) ↔ y < x := by
  unfold lg_cmp
  by_cases h : x > y
  · rw [if_pos h]
    exact ⟨fun _ => h, fun _ => by decide⟩
  · rw [if_neg h]
    refine ⟨fun q => ?_, fun q => absurd q h⟩
    split at q <;> exact absurd q (by decide)
theorem lc_eq {x y : Int64} : (lg_cmp x y = 0) ↔ x = y := by
  unfold lg_cmp
  by_cases h : x > y
  · rw [if_pos h]
    refine ⟨fun q => absurd q (by decide), fun q => ?_⟩
    subst q
    exact absurd h (Int64.lt_irrefl)
  · rw [if_neg h]
    by_cases e : x = y
    · rw [if_pos e]
      exact ⟨fun _ => e, fun _ => rfl⟩
    · rw [if_neg e]
      exact ⟨fun q => absurd q (by decide), fun q => absurd q e⟩
theorem lc_le0 {x y : Int64} : (lg_cmp x y ≤ 0) ↔ ¬ y < x := by
  rw [← Int32.not_lt, lc_gt]
theorem lc_ge0 {x y : Int64} : (0 ≤ lg_cmp x y) ↔ y ≤ x := by
  unfold lg_cmp
  by_cases h : x > y
  · rw [if_pos h]
    exact ⟨fun _ => Int64.le_of_lt h, fun _ => by decide⟩
  · rw [if_neg h]
    by_cases e : x = y
    · rw [if_pos e]
      subst e
      exact ⟨fun _ => Int64.le_refl _, fun _ => by decide⟩
    · rw [if_neg e]
      refine ⟨fun q => absurd q (by decide), fun q => ?_⟩
      rcases Int64.lt_or_eq_of_le q with q | q
      · exact absurd q h
      · exact absurd q.symm e
theorem lj_ge {a b : Nat} (ha : a < 2147483648) (hb : b < 2147483648) : (0 ≤ lg_cmp (nI a).toInt64 (jN b)) = (b ≤ a) := by
  refine propext (lc_ge0.trans ?_)
  rw [Int64.le_iff_toInt_le, jN_int hb, show ((nI a).toInt64).toInt = a from jN_int ha]
  omega
theorem lj_le {a b : Nat} (ha : a < 2147483648) (hb : b < 2147483648) : (lg_cmp (nI a).toInt64 (jN b) ≤ 0) = (a ≤ b) := by
  refine propext (lc_le0.trans ?_)
  rw [Int64.lt_iff_toInt_lt, jN_int hb, show ((nI a).toInt64).toInt = a from jN_int ha]
  omega
theorem lj_32 {a : Nat} : (jN a).toInt32 = nI a := by
  unfold jN
  exact Int32.toInt32_toInt64 _
theorem lj_c {a : Nat} : (nI a).toInt64 = jN a := rfl
theorem lj_0 : (0 : Int64) = jN 0 := by decide
