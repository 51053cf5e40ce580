/-! numbers, by rows that simp can use -/
theorem nle_t {a b : Nat} (h : a ≤ b) : (a ≤ b) = True := eq_true h
theorem nle_f {a b : Nat} (h : b < a) : (a ≤ b) = False := eq_false (Nat.not_le.mpr h)
theorem nlt_t {a b : Nat} (h : a < b) : (a < b) = True := eq_true h
theorem nlt_f {a b : Nat} (h : b ≤ a) : (a < b) = False := eq_false (Nat.not_lt.mpr h)
theorem neq_t {a b : Nat} (h : a = b) : (a = b) = True := eq_true h
theorem neq_f {a b : Nat} (h : a ≠ b) : (a = b) = False := eq_false h
theorem i_lt0 {a : Nat} (h : a < 2147483648) : (nI a < 0) = False := eq_false (nI_pos h)
theorem i_le0 {a : Nat} (h : a < 2147483648) : (nI a ≤ 0) = (a = 0) := propext ⟨fun q => by
  have := (nI_leI (b := 0) h (by decide)).mp q
  omega, fun q => by subst q; decide⟩
theorem i_0le {a : Nat} (h : a < 2147483648) : (0 ≤ nI a) = True := eq_true (nI_pos' h)
theorem i_0lt {a : Nat} (h : a < 2147483648) : (0 < nI a) = (0 < a) := propext (nI_ltI (a := 0) (by decide) h)
theorem i_eq0 {a : Nat} (h : a < 2147483648) : (nI a = 0) = (a = 0) := propext (nI_eq (b := 0) h (by decide))
theorem i_lt {a b : Nat} (h : a < 2147483648) (h2 : b < 2147483648) : (nI a < nI b) = (a < b) := propext (nI_ltI h h2)
theorem i_le {a b : Nat} (h : a < 2147483648) (h2 : b < 2147483648) : (nI a ≤ nI b) = (a ≤ b) := propext (nI_leI h h2)
theorem i_eq {a b : Nat} (h : a < 2147483648) (h2 : b < 2147483648) : (nI a = nI b) = (a = b) := propext (nI_eq h h2)
theorem i_sub {a b : Nat} (h : b ≤ a) : nI a - nI b = nI (a - b) := pk_sub h
theorem i_mul (a b : Nat) : nI a * nI b = nI (a * b) := pk_mul a b
theorem i_rem {a d : Nat} (h : a < 2147483648) (h0 : 0 < d) (hd : d < 2147483648) : nI a - nI a / nI d * nI d = nI (a % d) := pk_rem h h0 hd
theorem i_cl {a : Nat} (h : a < 2147483648) : (nI a).toNatClampNeg = a := nI_clamp h
theorem i_m1a {a : Nat} (h : a < 2147483648) : (nI a = -1) = False := eq_false (fun e => by
  have := nI_pos h
  rw [e] at this
  exact this (by decide))
theorem i_m1b {a : Nat} (h : a < 2147483648) : (-1 = nI a) = False := eq_false (fun e => by
  have := i_m1a h
  rw [← e] at this
  exact this.mp rfl)
theorem i_m1c {a : Nat} (h : a < 2147483648) : ((-1 : Int32) < nI a) = True := eq_true (by
  have := nI_pos' h
  rw [Int32.le_iff_toInt_le] at this
  rw [Int32.lt_iff_toInt_lt]
  have e0 : (0 : Int32).toInt = 0 := by decide
  have e1 : (-1 : Int32).toInt = -1 := by decide
  omega)
theorem i_m1d : ((-1 : Int32) < 0) = True := eq_true (by decide)
theorem i_m1e : ((-1 : Int32) = -1) = True := eq_true rfl
theorem i_am1 {a : Nat} (h : 1 ≤ a) : nI a + (-1) = nI (a - 1) := by
  obtain ⟨n, rfl⟩ := Nat.exists_eq_add_of_le' h
  exact pk_m1 n
theorem i_ite0 {c : Prop} [Decidable c] : (nI (if c then 1 else 0) = 0) = ¬ c := by
  by_cases h : c
  · rw [if_pos h]; exact propext ⟨fun q => absurd q (by decide), fun q => absurd h q⟩
  · rw [if_neg h]; exact propext ⟨fun _ => h, fun _ => rfl⟩
theorem up1_e {α : Type} (g : Nat → α) (a : Nat) (v : α) (b : Nat) : up1 g a v b = if b = a then v else g b := rfl
theorem up2_e {α : Type} (g : Nat → Nat → α) (f a : Nat) (v : α) (h b : Nat) : up2 g f a v h b = if h = f ∧ b = a then v else g h b := rfl
section EVS2
variable {d : Nat} {M : MI} {hs : Hn} {pc pc' : Nat} {l : Loc0} {st : List Value} {T : TS} {Q : Post}
theorem ev_acmp_neN {y : Nat} {off : Int} {t : Nat} (hd : decode M.2.1 pc = .ok (.if_acmp .ne off, 3)) (ht : (pc : Int) + off = (t : Int)) : Ev d M hs pc l (.ref y :: .null :: st) T Q ↔ Ev d M hs t l st T Q := by
  refine ev_one hd rfl rfl ?_
  have h0 : 0 ≤ (pc : Int) + off := by omega
  have h1 : ((pc : Int) + off).toNat = t := by omega
  simp [step, stkF, locF, braF, h0, h1]
theorem ev_aretO {x : Option Nat} (hr : rtRef M.2.2.2.1 = true) (hd : decode M.2.1 pc = .ok (.areturn, 1)) : Ev d M hs pc l [va_rf x] T Q ↔ Q (.inl (some (va_rf x))) T := by
  cases x with
  | none => exact ev_aretN hr hd
  | some a => exact ev_aret hr hd
theorem ev_zretI {k : Nat} (hr : M.2.2.2.1 = some .boolean) (hd : decode M.2.1 pc = .ok (.ireturn, 1)) (hk : k ≤ 1) : Ev d M hs pc l [.int (nI k)] T Q ↔ Q (.inl (some (.int (nI k)))) T := by
  refine ev_zret hr ?_ hd
  have : k = 0 ∨ k = 1 := by omega
  rcases this with rfl | rfl
  · exact Or.inl rfl
  · exact Or.inr rfl
end EVS2
/-! a call is its body, by name: printed by wip/whole/evgen.py -/
theorem uX0_init {d : Nat} {a0 : Nat} {a1 : Int32} {a2 : Nat} {a3 : Nat} {T : TS} {Q : Post} : CallQ (d + 1) 13 [.ref a0, .int a1, .ref a2, .ref a3] T Q ↔ Ev d MX0_init [] 0 [(0, .ref a0), (1, .int a1), (2, .ref a2), (3, .ref a3)] [] T Q := qX0_init (Nat.le_of_ble_eq_true rfl)
theorem uX0_number {d : Nat} {a0 : Nat} {T : TS} {Q : Post} : CallQ (d + 1) 14 [.ref a0] T Q ↔ Ev d MX0_number [] 0 [(0, .ref a0)] [] T Q := qX0_number (Nat.le_of_ble_eq_true rfl)
theorem uX0_bytes {d : Nat} {a0 : Nat} {T : TS} {Q : Post} : CallQ (d + 1) 15 [.ref a0] T Q ↔ Ev d MX0_bytes [] 0 [(0, .ref a0)] [] T Q := qX0_bytes (Nat.le_of_ble_eq_true rfl)
theorem uX0_home {d : Nat} {a0 : Nat} {T : TS} {Q : Post} : CallQ (d + 1) 16 [.ref a0] T Q ↔ Ev d MX0_home [] 0 [(0, .ref a0)] [] T Q := qX0_home (Nat.le_of_ble_eq_true rfl)
theorem uX0_moveTo {d : Nat} {a0 : Nat} {a1 : Nat} {T : TS} {Q : Post} : CallQ (d + 1) 17 [.ref a0, .ref a1] T Q ↔ Ev d MX0_moveTo [] 0 [(0, .ref a0), (1, .ref a1)] [] T Q := qX0_moveTo (Nat.le_of_ble_eq_true rfl)
theorem uX0_uses {d : Nat} {a0 : Nat} {T : TS} {Q : Post} : CallQ (d + 1) 18 [.ref a0] T Q ↔ Ev d MX0_uses [] 0 [(0, .ref a0)] [] T Q := qX0_uses (Nat.le_of_ble_eq_true rfl)
theorem uX0_addUses {d : Nat} {a0 : Nat} {a1 : Int32} {T : TS} {Q : Post} : CallQ (d + 1) 19 [.ref a0, .int a1] T Q ↔ Ev d MX0_addUses [] 0 [(0, .ref a0), (1, .int a1)] [] T Q := qX0_addUses (Nat.le_of_ble_eq_true rfl)
theorem uX1_init {d : Nat} {a0 : Nat} {a1 : Int32} {T : TS} {Q : Post} : CallQ (d + 1) 20 [.ref a0, .int a1] T Q ↔ Ev d MX1_init [] 0 [(0, .ref a0), (1, .int a1)] [] T Q := qX1_init (Nat.le_of_ble_eq_true rfl)
theorem uX1_number {d : Nat} {a0 : Nat} {T : TS} {Q : Post} : CallQ (d + 1) 21 [.ref a0] T Q ↔ Ev d MX1_number [] 0 [(0, .ref a0)] [] T Q := qX1_number (Nat.le_of_ble_eq_true rfl)
theorem uX1_filled {d : Nat} {a0 : Nat} {T : TS} {Q : Post} : CallQ (d + 1) 22 [.ref a0] T Q ↔ Ev d MX1_filled [] 0 [(0, .ref a0)] [] T Q := qX1_filled (Nat.le_of_ble_eq_true rfl)
theorem uX1_count {d : Nat} {a0 : Nat} {T : TS} {Q : Post} : CallQ (d + 1) 23 [.ref a0] T Q ↔ Ev d MX1_count [] 0 [(0, .ref a0)] [] T Q := qX1_count (Nat.le_of_ble_eq_true rfl)
theorem uX1_fits {d : Nat} {a0 : Nat} {a1 : Nat} {T : TS} {Q : Post} : CallQ (d + 1) 24 [.ref a0, .ref a1] T Q ↔ Ev d MX1_fits [] 0 [(0, .ref a0), (1, .ref a1)] [] T Q := qX1_fits (Nat.le_of_ble_eq_true rfl)
theorem uX1_put {d : Nat} {a0 : Nat} {a1 : Nat} {T : TS} {Q : Post} : CallQ (d + 1) 25 [.ref a0, .ref a1] T Q ↔ Ev d MX1_put [] 0 [(0, .ref a0), (1, .ref a1)] [] T Q := qX1_put (Nat.le_of_ble_eq_true rfl)
theorem uX1_withBytes {d : Nat} {a0 : Nat} {a1 : Nat} {T : TS} {Q : Post} : CallQ (d + 1) 26 [.ref a0, .ref a1] T Q ↔ Ev d MX1_withBytes [] 0 [(0, .ref a0), (1, .ref a1)] [] T Q := qX1_withBytes (Nat.le_of_ble_eq_true rfl)
theorem uX1_withNumber {d : Nat} {a0 : Nat} {a1 : Int32} {T : TS} {Q : Post} : CallQ (d + 1) 27 [.ref a0, .int a1] T Q ↔ Ev d MX1_withNumber [] 0 [(0, .ref a0), (1, .int a1)] [] T Q := qX1_withNumber (Nat.le_of_ble_eq_true rfl)
theorem uX1_needed {d : Nat} {a0 : Nat} {T : TS} {Q : Post} : CallQ (d + 1) 28 [.ref a0] T Q ↔ Ev d MX1_needed [] 0 [(0, .ref a0)] [] T Q := qX1_needed (Nat.le_of_ble_eq_true rfl)
theorem uX1_neededBytes {d : Nat} {a0 : Nat} {T : TS} {Q : Post} : CallQ (d + 1) 29 [.ref a0] T Q ↔ Ev d MX1_neededBytes [] 0 [(0, .ref a0)] [] T Q := qX1_neededBytes (Nat.le_of_ble_eq_true rfl)
theorem uX2_init {d : Nat} {a0 : Nat} {a1 : Nat} {a2 : Int32} {a3 : Int32} {T : TS} {Q : Post} : CallQ (d + 1) 30 [.ref a0, .ref a1, .int a2, .int a3] T Q ↔ Ev d MX2_init [] 0 [(0, .ref a0), (1, .ref a1), (2, .int a2), (3, .int a3)] [] T Q := qX2_init (Nat.le_of_ble_eq_true rfl)
theorem uX2_markOf {d : Nat} {a0 : Nat} {a1 : Int32} {a2 : Int32} {T : TS} {Q : Post} : CallQ (d + 1) 31 [.ref a0, .int a1, .int a2] T Q ↔ Ev d MX2_markOf [] 0 [(0, .ref a0), (1, .int a1), (2, .int a2)] [] T Q := qX2_markOf (Nat.le_of_ble_eq_true rfl)
theorem uX2_size {d : Nat} {a0 : Nat} {T : TS} {Q : Post} : CallQ (d + 1) 32 [.ref a0] T Q ↔ Ev d MX2_size [] 0 [(0, .ref a0)] [] T Q := qX2_size (Nat.le_of_ble_eq_true rfl)
theorem uX2_mark {d : Nat} {a0 : Nat} {T : TS} {Q : Post} : CallQ (d + 1) 33 [.ref a0] T Q ↔ Ev d MX2_mark [] 0 [(0, .ref a0)] [] T Q := qX2_mark (Nat.le_of_ble_eq_true rfl)
theorem uX2_get {d : Nat} {a0 : Nat} {a1 : Int32} {T : TS} {Q : Post} : CallQ (d + 1) 34 [.ref a0, .int a1] T Q ↔ Ev d MX2_get [] 0 [(0, .ref a0), (1, .int a1)] [] T Q := qX2_get (Nat.le_of_ble_eq_true rfl)
theorem uX2_detached {d : Nat} {a0 : Nat} {T : TS} {Q : Post} : CallQ (d + 1) 35 [.ref a0] T Q ↔ Ev d MX2_detached [] 0 [(0, .ref a0)] [] T Q := qX2_detached (Nat.le_of_ble_eq_true rfl)
theorem uX2_sameAs {d : Nat} {a0 : Nat} {a1 : Nat} {T : TS} {Q : Post} : CallQ (d + 1) 36 [.ref a0, .ref a1] T Q ↔ Ev d MX2_sameAs [] 0 [(0, .ref a0), (1, .ref a1)] [] T Q := qX2_sameAs (Nat.le_of_ble_eq_true rfl)
theorem uX3_init {d : Nat} {a0 : Nat} {a1 : Int32} {T : TS} {Q : Post} : CallQ (d + 1) 37 [.ref a0, .int a1] T Q ↔ Ev d MX3_init [] 0 [(0, .ref a0), (1, .int a1)] [] T Q := qX3_init (Nat.le_of_ble_eq_true rfl)
theorem uX3_size {d : Nat} {a0 : Nat} {T : TS} {Q : Post} : CallQ (d + 1) 38 [.ref a0] T Q ↔ Ev d MX3_size [] 0 [(0, .ref a0)] [] T Q := qX3_size (Nat.le_of_ble_eq_true rfl)
theorem uX3_get {d : Nat} {a0 : Nat} {a1 : Int32} {T : TS} {Q : Post} : CallQ (d + 1) 39 [.ref a0, .int a1] T Q ↔ Ev d MX3_get [] 0 [(0, .ref a0), (1, .int a1)] [] T Q := qX3_get (Nat.le_of_ble_eq_true rfl)
theorem uX3_add {d : Nat} {a0 : Nat} {a1 : Int32} {T : TS} {Q : Post} : CallQ (d + 1) 40 [.ref a0, .int a1] T Q ↔ Ev d MX3_add [] 0 [(0, .ref a0), (1, .int a1)] [] T Q := qX3_add (Nat.le_of_ble_eq_true rfl)
theorem uX3_addPart {d : Nat} {a0 : Nat} {a1 : Nat} {a2 : Int32} {a3 : Int32} {T : TS} {Q : Post} : CallQ (d + 1) 41 [.ref a0, .ref a1, .int a2, .int a3] T Q ↔ Ev d MX3_addPart [] 0 [(0, .ref a0), (1, .ref a1), (2, .int a2), (3, .int a3)] [] T Q := qX3_addPart (Nat.le_of_ble_eq_true rfl)
theorem uX3_putIn {d : Nat} {a0 : Nat} {a1 : Int32} {a2 : Int32} {T : TS} {Q : Post} : CallQ (d + 1) 42 [.ref a0, .int a1, .int a2] T Q ↔ Ev d MX3_putIn [] 0 [(0, .ref a0), (1, .int a1), (2, .int a2)] [] T Q := qX3_putIn (Nat.le_of_ble_eq_true rfl)
theorem uX3_takeOut {d : Nat} {a0 : Nat} {a1 : Int32} {a2 : Int32} {T : TS} {Q : Post} : CallQ (d + 1) 43 [.ref a0, .int a1, .int a2] T Q ↔ Ev d MX3_takeOut [] 0 [(0, .ref a0), (1, .int a1), (2, .int a2)] [] T Q := qX3_takeOut (Nat.le_of_ble_eq_true rfl)
theorem uX4_init {d : Nat} {a0 : Nat} {T : TS} {Q : Post} : CallQ (d + 1) 44 [.ref a0] T Q ↔ Ev d MX4_init [] 0 [(0, .ref a0)] [] T Q := qX4_init (Nat.le_of_ble_eq_true rfl)
theorem uX4_hits {d : Nat} {a0 : Nat} {T : TS} {Q : Post} : CallQ (d + 1) 45 [.ref a0] T Q ↔ Ev d MX4_hits [] 0 [(0, .ref a0)] [] T Q := qX4_hits (Nat.le_of_ble_eq_true rfl)
theorem uX4_reads {d : Nat} {a0 : Nat} {T : TS} {Q : Post} : CallQ (d + 1) 46 [.ref a0] T Q ↔ Ev d MX4_reads [] 0 [(0, .ref a0)] [] T Q := qX4_reads (Nat.le_of_ble_eq_true rfl)
theorem uX4_containerCount {d : Nat} {a0 : Nat} {T : TS} {Q : Post} : CallQ (d + 1) 47 [.ref a0] T Q ↔ Ev d MX4_containerCount [] 0 [(0, .ref a0)] [] T Q := qX4_containerCount (Nat.le_of_ble_eq_true rfl)
theorem uX4_openNumber {d : Nat} {a0 : Nat} {T : TS} {Q : Post} : CallQ (d + 1) 48 [.ref a0] T Q ↔ Ev d MX4_openNumber [] 0 [(0, .ref a0)] [] T Q := qX4_openNumber (Nat.le_of_ble_eq_true rfl)
theorem uX4_recentNumber {d : Nat} {a0 : Nat} {a1 : Int32} {T : TS} {Q : Post} : CallQ (d + 1) 49 [.ref a0, .int a1] T Q ↔ Ev d MX4_recentNumber [] 0 [(0, .ref a0), (1, .int a1)] [] T Q := qX4_recentNumber (Nat.le_of_ble_eq_true rfl)
theorem uX4_has {d : Nat} {a0 : Nat} {a1 : Nat} {T : TS} {Q : Post} : CallQ (d + 1) 50 [.ref a0, .ref a1] T Q ↔ Ev d MX4_has [] 0 [(0, .ref a0), (1, .ref a1)] [] T Q := qX4_has (Nat.le_of_ble_eq_true rfl)
theorem uX4_findChunk {d : Nat} {a0 : Nat} {a1 : Int32} {T : TS} {Q : Post} : CallQ (d + 1) 51 [.ref a0, .int a1] T Q ↔ Ev d MX4_findChunk [] 0 [(0, .ref a0), (1, .int a1)] [] T Q := qX4_findChunk (Nat.le_of_ble_eq_true rfl)
theorem uX4_chunkCount {d : Nat} {a0 : Nat} {T : TS} {Q : Post} : CallQ (d + 1) 52 [.ref a0] T Q ↔ Ev d MX4_chunkCount [] 0 [(0, .ref a0)] [] T Q := qX4_chunkCount (Nat.le_of_ble_eq_true rfl)
theorem uX4_filledBytes {d : Nat} {a0 : Nat} {T : TS} {Q : Post} : CallQ (d + 1) 53 [.ref a0] T Q ↔ Ev d MX4_filledBytes [] 0 [(0, .ref a0)] [] T Q := qX4_filledBytes (Nat.le_of_ble_eq_true rfl)
theorem uX4_garbageBytes {d : Nat} {a0 : Nat} {T : TS} {Q : Post} : CallQ (d + 1) 54 [.ref a0] T Q ↔ Ev d MX4_garbageBytes [] 0 [(0, .ref a0)] [] T Q := qX4_garbageBytes (Nat.le_of_ble_eq_true rfl)
theorem uX4_chunkFor {d : Nat} {a0 : Nat} {a1 : Nat} {T : TS} {Q : Post} : CallQ (d + 1) 55 [.ref a0, .ref a1] T Q ↔ Ev d MX4_chunkFor [] 0 [(0, .ref a0), (1, .ref a1)] [] T Q := qX4_chunkFor (Nat.le_of_ble_eq_true rfl)
theorem uX4_chunkIn {d : Nat} {a0 : Nat} {a1 : Nat} {T : TS} {Q : Post} : CallQ (d + 1) 56 [.ref a0, .ref a1] T Q ↔ Ev d MX4_chunkIn [] 0 [(0, .ref a0), (1, .ref a1)] [] T Q := qX4_chunkIn (Nat.le_of_ble_eq_true rfl)
theorem uX4_storeNew {d : Nat} {a0 : Nat} {a1 : Nat} {T : TS} {Q : Post} : CallQ (d + 1) 57 [.ref a0, .ref a1] T Q ↔ Ev d MX4_storeNew [] 0 [(0, .ref a0), (1, .ref a1)] [] T Q := qX4_storeNew (Nat.le_of_ble_eq_true rfl)
theorem uX4_openFor {d : Nat} {a0 : Nat} {a1 : Nat} {T : TS} {Q : Post} : CallQ (d + 1) 58 [.ref a0, .ref a1] T Q ↔ Ev d MX4_openFor [] 0 [(0, .ref a0), (1, .ref a1)] [] T Q := qX4_openFor (Nat.le_of_ble_eq_true rfl)
theorem uX4_use {d : Nat} {a0 : Nat} {a1 : Nat} {T : TS} {Q : Post} : CallQ (d + 1) 59 [.ref a0, .ref a1] T Q ↔ Ev d MX4_use [] 0 [(0, .ref a0), (1, .ref a1)] [] T Q := qX4_use (Nat.le_of_ble_eq_true rfl)
theorem uX4_leaveCache {d : Nat} {a0 : Nat} {a1 : Nat} {T : TS} {Q : Post} : CallQ (d + 1) 60 [.ref a0, .ref a1] T Q ↔ Ev d MX4_leaveCache [] 0 [(0, .ref a0), (1, .ref a1)] [] T Q := qX4_leaveCache (Nat.le_of_ble_eq_true rfl)
theorem uX4_collectGarbage {d : Nat} {a0 : Nat} {T : TS} {Q : Post} : CallQ (d + 1) 61 [.ref a0] T Q ↔ Ev d MX4_collectGarbage [] 0 [(0, .ref a0)] [] T Q := qX4_collectGarbage (Nat.le_of_ble_eq_true rfl)
theorem uX4_empty {d : Nat} {a0 : Nat} {a1 : Nat} {T : TS} {Q : Post} : CallQ (d + 1) 62 [.ref a0, .ref a1] T Q ↔ Ev d MX4_empty [] 0 [(0, .ref a0), (1, .ref a1)] [] T Q := qX4_empty (Nat.le_of_ble_eq_true rfl)
theorem uX5_init {d : Nat} {a0 : Nat} {a1 : Int32} {a2 : Int32} {a3 : Nat} {T : TS} {Q : Post} : CallQ (d + 1) 63 [.ref a0, .int a1, .int a2, .ref a3] T Q ↔ Ev d MX5_init [] 0 [(0, .ref a0), (1, .int a1), (2, .int a2), (3, .ref a3)] [] T Q := qX5_init (Nat.le_of_ble_eq_true rfl)
theorem uX5_file {d : Nat} {a0 : Nat} {T : TS} {Q : Post} : CallQ (d + 1) 64 [.ref a0] T Q ↔ Ev d MX5_file [] 0 [(0, .ref a0)] [] T Q := qX5_file (Nat.le_of_ble_eq_true rfl)
theorem uX5_number {d : Nat} {a0 : Nat} {T : TS} {Q : Post} : CallQ (d + 1) 65 [.ref a0] T Q ↔ Ev d MX5_number [] 0 [(0, .ref a0)] [] T Q := qX5_number (Nat.le_of_ble_eq_true rfl)
theorem uX5_copy {d : Nat} {a0 : Nat} {T : TS} {Q : Post} : CallQ (d + 1) 66 [.ref a0] T Q ↔ Ev d MX5_copy [] 0 [(0, .ref a0)] [] T Q := qX5_copy (Nat.le_of_ble_eq_true rfl)
theorem uX5_base {d : Nat} {a0 : Nat} {T : TS} {Q : Post} : CallQ (d + 1) 67 [.ref a0] T Q ↔ Ev d MX5_base [] 0 [(0, .ref a0)] [] T Q := qX5_base (Nat.le_of_ble_eq_true rfl)
theorem uX5_entryCount {d : Nat} {a0 : Nat} {T : TS} {Q : Post} : CallQ (d + 1) 68 [.ref a0] T Q ↔ Ev d MX5_entryCount [] 0 [(0, .ref a0)] [] T Q := qX5_entryCount (Nat.le_of_ble_eq_true rfl)
theorem uX5_entryNumber {d : Nat} {a0 : Nat} {a1 : Int32} {T : TS} {Q : Post} : CallQ (d + 1) 69 [.ref a0, .int a1] T Q ↔ Ev d MX5_entryNumber [] 0 [(0, .ref a0), (1, .int a1)] [] T Q := qX5_entryNumber (Nat.le_of_ble_eq_true rfl)
theorem uX5_addEntry {d : Nat} {a0 : Nat} {a1 : Nat} {T : TS} {Q : Post} : CallQ (d + 1) 70 [.ref a0, .ref a1] T Q ↔ Ev d MX5_addEntry [] 0 [(0, .ref a0), (1, .ref a1)] [] T Q := qX5_addEntry (Nat.le_of_ble_eq_true rfl)
theorem uX5_releaseEntries {d : Nat} {a0 : Nat} {T : TS} {Q : Post} : CallQ (d + 1) 71 [.ref a0] T Q ↔ Ev d MX5_releaseEntries [] 0 [(0, .ref a0)] [] T Q := qX5_releaseEntries (Nat.le_of_ble_eq_true rfl)
theorem uX5_restored {d : Nat} {a0 : Nat} {a1 : Int32} {T : TS} {Q : Post} : CallQ (d + 1) 72 [.ref a0, .int a1] T Q ↔ Ev d MX5_restored [] 0 [(0, .ref a0), (1, .int a1)] [] T Q := qX5_restored (Nat.le_of_ble_eq_true rfl)
theorem uX5_chain {d : Nat} {a0 : Nat} {T : TS} {Q : Post} : CallQ (d + 1) 73 [.ref a0] T Q ↔ Ev d MX5_chain [] 0 [(0, .ref a0)] [] T Q := qX5_chain (Nat.le_of_ble_eq_true rfl)
theorem uX5_cost {d : Nat} {a0 : Nat} {T : TS} {Q : Post} : CallQ (d + 1) 74 [.ref a0] T Q ↔ Ev d MX5_cost [] 0 [(0, .ref a0)] [] T Q := qX5_cost (Nat.le_of_ble_eq_true rfl)
theorem uX5_chooseBase {d : Nat} {a0 : Nat} {a1 : Nat} {T : TS} {Q : Post} : CallQ (d + 1) 75 [.ref a0, .ref a1] T Q ↔ Ev d MX5_chooseBase [] 0 [(0, .ref a0), (1, .ref a1)] [] T Q := qX5_chooseBase (Nat.le_of_ble_eq_true rfl)
theorem nX5_chooseBase {d : Nat} {a0 : Nat} {T : TS} {Q : Post} : CallQ (d + 1) 75 [.ref a0, .null] T Q ↔ Ev d MX5_chooseBase [] 0 [(0, .ref a0), (1, .null)] [] T Q := qX5_chooseBase (Nat.le_of_ble_eq_true rfl)
theorem uX5_loseBase {d : Nat} {a0 : Nat} {a1 : Nat} {T : TS} {Q : Post} : CallQ (d + 1) 76 [.ref a0, .ref a1] T Q ↔ Ev d MX5_loseBase [] 0 [(0, .ref a0), (1, .ref a1)] [] T Q := qX5_loseBase (Nat.le_of_ble_eq_true rfl)
theorem nX5_loseBase {d : Nat} {a0 : Nat} {T : TS} {Q : Post} : CallQ (d + 1) 76 [.ref a0, .null] T Q ↔ Ev d MX5_loseBase [] 0 [(0, .ref a0), (1, .null)] [] T Q := qX5_loseBase (Nat.le_of_ble_eq_true rfl)
theorem uX5_differenceTo {d : Nat} {a0 : Nat} {a1 : Nat} {T : TS} {Q : Post} : CallQ (d + 1) 77 [.ref a0, .ref a1] T Q ↔ Ev d MX5_differenceTo [] 0 [(0, .ref a0), (1, .ref a1)] [] T Q := qX5_differenceTo (Nat.le_of_ble_eq_true rfl)
theorem nX5_differenceTo {d : Nat} {a0 : Nat} {T : TS} {Q : Post} : CallQ (d + 1) 77 [.ref a0, .null] T Q ↔ Ev d MX5_differenceTo [] 0 [(0, .ref a0), (1, .null)] [] T Q := qX5_differenceTo (Nat.le_of_ble_eq_true rfl)
theorem uX5_fromEnd {d : Nat} {a0 : Nat} {a1 : Int32} {T : TS} {Q : Post} : CallQ (d + 1) 78 [.ref a0, .int a1] T Q ↔ Ev d MX5_fromEnd [] 0 [(0, .ref a0), (1, .int a1)] [] T Q := qX5_fromEnd (Nat.le_of_ble_eq_true rfl)
theorem uX6_init {d : Nat} {a0 : Nat} {T : TS} {Q : Post} : CallQ (d + 1) 79 [.ref a0] T Q ↔ Ev d MX6_init [] 0 [(0, .ref a0)] [] T Q := qX6_init (Nat.le_of_ble_eq_true rfl)
theorem uX6_append {d : Nat} {a0 : Nat} {a1 : Int32} {a2 : Int32} {a3 : Int32} {T : TS} {Q : Post} : CallQ (d + 1) 80 [.ref a0, .int a1, .int a2, .int a3] T Q ↔ Ev d MX6_append [] 0 [(0, .ref a0), (1, .int a1), (2, .int a2), (3, .int a3)] [] T Q := qX6_append (Nat.le_of_ble_eq_true rfl)
theorem uX6_appendCopy {d : Nat} {a0 : Nat} {a1 : Int32} {a2 : Int32} {a3 : Int32} {a4 : Int32} {T : TS} {Q : Post} : CallQ (d + 1) 81 [.ref a0, .int a1, .int a2, .int a3, .int a4] T Q ↔ Ev d MX6_appendCopy [] 0 [(0, .ref a0), (1, .int a1), (2, .int a2), (3, .int a3), (4, .int a4)] [] T Q := qX6_appendCopy (Nat.le_of_ble_eq_true rfl)
theorem uX6_insert {d : Nat} {a0 : Nat} {a1 : Int32} {a2 : Int32} {T : TS} {Q : Post} : CallQ (d + 1) 82 [.ref a0, .int a1, .int a2] T Q ↔ Ev d MX6_insert [] 0 [(0, .ref a0), (1, .int a1), (2, .int a2)] [] T Q := qX6_insert (Nat.le_of_ble_eq_true rfl)
theorem uX6_cut {d : Nat} {a0 : Nat} {a1 : Int32} {a2 : Int32} {T : TS} {Q : Post} : CallQ (d + 1) 83 [.ref a0, .int a1, .int a2] T Q ↔ Ev d MX6_cut [] 0 [(0, .ref a0), (1, .int a1), (2, .int a2)] [] T Q := qX6_cut (Nat.le_of_ble_eq_true rfl)
theorem uX6_clearDraft {d : Nat} {a0 : Nat} {T : TS} {Q : Post} : CallQ (d + 1) 84 [.ref a0] T Q ↔ Ev d MX6_clearDraft [] 0 [(0, .ref a0)] [] T Q := qX6_clearDraft (Nat.le_of_ble_eq_true rfl)
theorem uX6_draftLength {d : Nat} {a0 : Nat} {T : TS} {Q : Post} : CallQ (d + 1) 85 [.ref a0] T Q ↔ Ev d MX6_draftLength [] 0 [(0, .ref a0)] [] T Q := qX6_draftLength (Nat.le_of_ble_eq_true rfl)
theorem uX6_draftAt {d : Nat} {a0 : Nat} {a1 : Int32} {T : TS} {Q : Post} : CallQ (d + 1) 86 [.ref a0, .int a1] T Q ↔ Ev d MX6_draftAt [] 0 [(0, .ref a0), (1, .int a1)] [] T Q := qX6_draftAt (Nat.le_of_ble_eq_true rfl)
theorem uX6_save {d : Nat} {a0 : Nat} {a1 : Int32} {T : TS} {Q : Post} : CallQ (d + 1) 87 [.ref a0, .int a1] T Q ↔ Ev d MX6_save [] 0 [(0, .ref a0), (1, .int a1)] [] T Q := qX6_save (Nat.le_of_ble_eq_true rfl)
theorem uX6_wouldStore {d : Nat} {a0 : Nat} {T : TS} {Q : Post} : CallQ (d + 1) 88 [.ref a0] T Q ↔ Ev d MX6_wouldStore [] 0 [(0, .ref a0)] [] T Q := qX6_wouldStore (Nat.le_of_ble_eq_true rfl)
theorem uX6_forget {d : Nat} {a0 : Nat} {a1 : Int32} {a2 : Int32} {T : TS} {Q : Post} : CallQ (d + 1) 89 [.ref a0, .int a1, .int a2] T Q ↔ Ev d MX6_forget [] 0 [(0, .ref a0), (1, .int a1), (2, .int a2)] [] T Q := qX6_forget (Nat.le_of_ble_eq_true rfl)
theorem uX6_collect {d : Nat} {a0 : Nat} {T : TS} {Q : Post} : CallQ (d + 1) 90 [.ref a0] T Q ↔ Ev d MX6_collect [] 0 [(0, .ref a0)] [] T Q := qX6_collect (Nat.le_of_ble_eq_true rfl)
theorem uX6_versions {d : Nat} {a0 : Nat} {T : TS} {Q : Post} : CallQ (d + 1) 91 [.ref a0] T Q ↔ Ev d MX6_versions [] 0 [(0, .ref a0)] [] T Q := qX6_versions (Nat.le_of_ble_eq_true rfl)
theorem uX6_isKept {d : Nat} {a0 : Nat} {a1 : Int32} {a2 : Int32} {T : TS} {Q : Post} : CallQ (d + 1) 92 [.ref a0, .int a1, .int a2] T Q ↔ Ev d MX6_isKept [] 0 [(0, .ref a0), (1, .int a1), (2, .int a2)] [] T Q := qX6_isKept (Nat.le_of_ble_eq_true rfl)
theorem uX6_latest {d : Nat} {a0 : Nat} {a1 : Int32} {T : TS} {Q : Post} : CallQ (d + 1) 93 [.ref a0, .int a1] T Q ↔ Ev d MX6_latest [] 0 [(0, .ref a0), (1, .int a1)] [] T Q := qX6_latest (Nat.le_of_ble_eq_true rfl)
theorem uX6_length {d : Nat} {a0 : Nat} {a1 : Int32} {a2 : Int32} {T : TS} {Q : Post} : CallQ (d + 1) 94 [.ref a0, .int a1, .int a2] T Q ↔ Ev d MX6_length [] 0 [(0, .ref a0), (1, .int a1), (2, .int a2)] [] T Q := qX6_length (Nat.le_of_ble_eq_true rfl)
theorem uX6_byteAt {d : Nat} {a0 : Nat} {a1 : Int32} {a2 : Int32} {a3 : Int32} {T : TS} {Q : Post} : CallQ (d + 1) 95 [.ref a0, .int a1, .int a2, .int a3] T Q ↔ Ev d MX6_byteAt [] 0 [(0, .ref a0), (1, .int a1), (2, .int a2), (3, .int a3)] [] T Q := qX6_byteAt (Nat.le_of_ble_eq_true rfl)
theorem uX6_byteByCopy {d : Nat} {a0 : Nat} {a1 : Int32} {a2 : Int32} {a3 : Int32} {T : TS} {Q : Post} : CallQ (d + 1) 96 [.ref a0, .int a1, .int a2, .int a3] T Q ↔ Ev d MX6_byteByCopy [] 0 [(0, .ref a0), (1, .int a1), (2, .int a2), (3, .int a3)] [] T Q := qX6_byteByCopy (Nat.le_of_ble_eq_true rfl)
theorem uX6_chunksOf {d : Nat} {a0 : Nat} {a1 : Int32} {a2 : Int32} {T : TS} {Q : Post} : CallQ (d + 1) 97 [.ref a0, .int a1, .int a2] T Q ↔ Ev d MX6_chunksOf [] 0 [(0, .ref a0), (1, .int a1), (2, .int a2)] [] T Q := qX6_chunksOf (Nat.le_of_ble_eq_true rfl)
theorem uX6_chunkAt {d : Nat} {a0 : Nat} {a1 : Int32} {a2 : Int32} {a3 : Int32} {T : TS} {Q : Post} : CallQ (d + 1) 98 [.ref a0, .int a1, .int a2, .int a3] T Q ↔ Ev d MX6_chunkAt [] 0 [(0, .ref a0), (1, .int a1), (2, .int a2), (3, .int a3)] [] T Q := qX6_chunkAt (Nat.le_of_ble_eq_true rfl)
theorem uX6_baseOf {d : Nat} {a0 : Nat} {a1 : Int32} {a2 : Int32} {T : TS} {Q : Post} : CallQ (d + 1) 99 [.ref a0, .int a1, .int a2] T Q ↔ Ev d MX6_baseOf [] 0 [(0, .ref a0), (1, .int a1), (2, .int a2)] [] T Q := qX6_baseOf (Nat.le_of_ble_eq_true rfl)
theorem uX6_chainOf {d : Nat} {a0 : Nat} {a1 : Int32} {a2 : Int32} {T : TS} {Q : Post} : CallQ (d + 1) 100 [.ref a0, .int a1, .int a2] T Q ↔ Ev d MX6_chainOf [] 0 [(0, .ref a0), (1, .int a1), (2, .int a2)] [] T Q := qX6_chainOf (Nat.le_of_ble_eq_true rfl)
theorem uX6_costOf {d : Nat} {a0 : Nat} {a1 : Int32} {a2 : Int32} {T : TS} {Q : Post} : CallQ (d + 1) 101 [.ref a0, .int a1, .int a2] T Q ↔ Ev d MX6_costOf [] 0 [(0, .ref a0), (1, .int a1), (2, .int a2)] [] T Q := qX6_costOf (Nat.le_of_ble_eq_true rfl)
theorem uX6_isStored {d : Nat} {a0 : Nat} {a1 : Int32} {T : TS} {Q : Post} : CallQ (d + 1) 102 [.ref a0, .int a1] T Q ↔ Ev d MX6_isStored [] 0 [(0, .ref a0), (1, .int a1)] [] T Q := qX6_isStored (Nat.le_of_ble_eq_true rfl)
theorem uX6_chunks {d : Nat} {a0 : Nat} {T : TS} {Q : Post} : CallQ (d + 1) 103 [.ref a0] T Q ↔ Ev d MX6_chunks [] 0 [(0, .ref a0)] [] T Q := qX6_chunks (Nat.le_of_ble_eq_true rfl)
theorem uX6_chunkLength {d : Nat} {a0 : Nat} {a1 : Int32} {T : TS} {Q : Post} : CallQ (d + 1) 104 [.ref a0, .int a1] T Q ↔ Ev d MX6_chunkLength [] 0 [(0, .ref a0), (1, .int a1)] [] T Q := qX6_chunkLength (Nat.le_of_ble_eq_true rfl)
theorem uX6_fingerprint {d : Nat} {a0 : Nat} {a1 : Int32} {T : TS} {Q : Post} : CallQ (d + 1) 105 [.ref a0, .int a1] T Q ↔ Ev d MX6_fingerprint [] 0 [(0, .ref a0), (1, .int a1)] [] T Q := qX6_fingerprint (Nat.le_of_ble_eq_true rfl)
theorem uX6_references {d : Nat} {a0 : Nat} {a1 : Int32} {T : TS} {Q : Post} : CallQ (d + 1) 106 [.ref a0, .int a1] T Q ↔ Ev d MX6_references [] 0 [(0, .ref a0), (1, .int a1)] [] T Q := qX6_references (Nat.le_of_ble_eq_true rfl)
theorem uX6_containerOf {d : Nat} {a0 : Nat} {a1 : Int32} {T : TS} {Q : Post} : CallQ (d + 1) 107 [.ref a0, .int a1] T Q ↔ Ev d MX6_containerOf [] 0 [(0, .ref a0), (1, .int a1)] [] T Q := qX6_containerOf (Nat.le_of_ble_eq_true rfl)
theorem uX6_containers {d : Nat} {a0 : Nat} {T : TS} {Q : Post} : CallQ (d + 1) 108 [.ref a0] T Q ↔ Ev d MX6_containers [] 0 [(0, .ref a0)] [] T Q := qX6_containers (Nat.le_of_ble_eq_true rfl)
theorem uX6_openContainer {d : Nat} {a0 : Nat} {T : TS} {Q : Post} : CallQ (d + 1) 109 [.ref a0] T Q ↔ Ev d MX6_openContainer [] 0 [(0, .ref a0)] [] T Q := qX6_openContainer (Nat.le_of_ble_eq_true rfl)
theorem uX6_cached {d : Nat} {a0 : Nat} {a1 : Int32} {T : TS} {Q : Post} : CallQ (d + 1) 110 [.ref a0, .int a1] T Q ↔ Ev d MX6_cached [] 0 [(0, .ref a0), (1, .int a1)] [] T Q := qX6_cached (Nat.le_of_ble_eq_true rfl)
theorem uX6_cacheHits {d : Nat} {a0 : Nat} {T : TS} {Q : Post} : CallQ (d + 1) 111 [.ref a0] T Q ↔ Ev d MX6_cacheHits [] 0 [(0, .ref a0)] [] T Q := qX6_cacheHits (Nat.le_of_ble_eq_true rfl)
theorem uX6_indexReads {d : Nat} {a0 : Nat} {T : TS} {Q : Post} : CallQ (d + 1) 112 [.ref a0] T Q ↔ Ev d MX6_indexReads [] 0 [(0, .ref a0)] [] T Q := qX6_indexReads (Nat.le_of_ble_eq_true rfl)
theorem uX6_storedBytes {d : Nat} {a0 : Nat} {T : TS} {Q : Post} : CallQ (d + 1) 113 [.ref a0] T Q ↔ Ev d MX6_storedBytes [] 0 [(0, .ref a0)] [] T Q := qX6_storedBytes (Nat.le_of_ble_eq_true rfl)
theorem uX6_savedBytes {d : Nat} {a0 : Nat} {T : TS} {Q : Post} : CallQ (d + 1) 114 [.ref a0] T Q ↔ Ev d MX6_savedBytes [] 0 [(0, .ref a0)] [] T Q := qX6_savedBytes (Nat.le_of_ble_eq_true rfl)
theorem uX6_garbage {d : Nat} {a0 : Nat} {T : TS} {Q : Post} : CallQ (d + 1) 115 [.ref a0] T Q ↔ Ev d MX6_garbage [] 0 [(0, .ref a0)] [] T Q := qX6_garbage (Nat.le_of_ble_eq_true rfl)
theorem uX6_ratio {d : Nat} {a0 : Nat} {T : TS} {Q : Post} : CallQ (d + 1) 116 [.ref a0] T Q ↔ Ev d MX6_ratio [] 0 [(0, .ref a0)] [] T Q := qX6_ratio (Nat.le_of_ble_eq_true rfl)
theorem uX6_noByteValue {d : Nat} {a0 : Int32} {T : TS} {Q : Post} : CallQ (d + 1) 117 [.int a0] T Q ↔ Ev d MX6_noByteValue [] 0 [(0, .int a0)] [] T Q := qX6_noByteValue (Nat.le_of_ble_eq_true rfl)
theorem uX6_noPlace {d : Nat} {a0 : Int32} {a1 : Int32} {T : TS} {Q : Post} : CallQ (d + 1) 118 [.int a0, .int a1] T Q ↔ Ev d MX6_noPlace [] 0 [(0, .int a0), (1, .int a1)] [] T Q := qX6_noPlace (Nat.le_of_ble_eq_true rfl)
theorem uX6_noSpan {d : Nat} {a0 : Int32} {a1 : Int32} {a2 : Int32} {T : TS} {Q : Post} : CallQ (d + 1) 119 [.int a0, .int a1, .int a2] T Q ↔ Ev d MX6_noSpan [] 0 [(0, .int a0), (1, .int a1), (2, .int a2)] [] T Q := qX6_noSpan (Nat.le_of_ble_eq_true rfl)
theorem uX6_numberOf {d : Nat} {a0 : Nat} {T : TS} {Q : Post} : CallQ (d + 1) 120 [.ref a0] T Q ↔ Ev d MX6_numberOf [] 0 [(0, .ref a0)] [] T Q := qX6_numberOf (Nat.le_of_ble_eq_true rfl)
theorem nX6_numberOf {d : Nat}  {T : TS} {Q : Post} : CallQ (d + 1) 120 [.null] T Q ↔ Ev d MX6_numberOf [] 0 [(0, .null)] [] T Q := qX6_numberOf (Nat.le_of_ble_eq_true rfl)
theorem uX6_findVersion {d : Nat} {a0 : Nat} {a1 : Int32} {a2 : Int32} {T : TS} {Q : Post} : CallQ (d + 1) 121 [.ref a0, .int a1, .int a2] T Q ↔ Ev d MX6_findVersion [] 0 [(0, .ref a0), (1, .int a1), (2, .int a2)] [] T Q := qX6_findVersion (Nat.le_of_ble_eq_true rfl)
theorem uX6_demandVersion {d : Nat} {a0 : Nat} {a1 : Int32} {a2 : Int32} {T : TS} {Q : Post} : CallQ (d + 1) 122 [.ref a0, .int a1, .int a2] T Q ↔ Ev d MX6_demandVersion [] 0 [(0, .ref a0), (1, .int a1), (2, .int a2)] [] T Q := qX6_demandVersion (Nat.le_of_ble_eq_true rfl)
theorem uX6_demandChunk {d : Nat} {a0 : Nat} {a1 : Int32} {T : TS} {Q : Post} : CallQ (d + 1) 123 [.ref a0, .int a1] T Q ↔ Ev d MX6_demandChunk [] 0 [(0, .ref a0), (1, .int a1)] [] T Q := qX6_demandChunk (Nat.le_of_ble_eq_true rfl)
theorem uX6_latestKept {d : Nat} {a0 : Nat} {a1 : Int32} {T : TS} {Q : Post} : CallQ (d + 1) 124 [.ref a0, .int a1] T Q ↔ Ev d MX6_latestKept [] 0 [(0, .ref a0), (1, .int a1)] [] T Q := qX6_latestKept (Nat.le_of_ble_eq_true rfl)
theorem uX6_piecesOf {d : Nat} {a0 : Nat} {T : TS} {Q : Post} : CallQ (d + 1) 125 [.ref a0] T Q ↔ Ev d MX6_piecesOf [] 0 [(0, .ref a0)] [] T Q := qX6_piecesOf (Nat.le_of_ble_eq_true rfl)
theorem uX6_endsPiece {d : Nat} {a0 : Nat} {a1 : Int32} {a2 : Int32} {T : TS} {Q : Post} : CallQ (d + 1) 126 [.ref a0, .int a1, .int a2] T Q ↔ Ev d MX6_endsPiece [] 0 [(0, .ref a0), (1, .int a1), (2, .int a2)] [] T Q := qX6_endsPiece (Nat.le_of_ble_eq_true rfl)
theorem uX6_windowSum {d : Nat} {a0 : Nat} {a1 : Int32} {T : TS} {Q : Post} : CallQ (d + 1) 127 [.ref a0, .int a1] T Q ↔ Ev d MX6_windowSum [] 0 [(0, .ref a0), (1, .int a1)] [] T Q := qX6_windowSum (Nat.le_of_ble_eq_true rfl)
theorem uX6_cameBefore {d : Nat} {a0 : Nat} {a1 : Int32} {T : TS} {Q : Post} : CallQ (d + 1) 128 [.ref a0, .int a1] T Q ↔ Ev d MX6_cameBefore [] 0 [(0, .ref a0), (1, .int a1)] [] T Q := qX6_cameBefore (Nat.le_of_ble_eq_true rfl)
theorem uL_draw {d : Nat} {a0 : Nat} {a1 : Int32} {a2 : Int32} {T : TS} {Q : Post} : CallQ (d + 1) 129 [.ref a0, .int a1, .int a2] T Q ↔ Ev d ML_draw [] 0 [(0, .ref a0), (1, .int a1), (2, .int a2)] [] T Q := qL_draw (Nat.le_of_ble_eq_true rfl)
theorem uL_isIn {d : Nat} {a0 : Int64} {a1 : Int32} {T : TS} {Q : Post} : CallQ (d + 1) 130 [.long a0, .int a1] T Q ↔ Ev d ML_isIn [] 0 [(0, .long a0), (2, .int a1)] [] T Q := qL_isIn (Nat.le_of_ble_eq_true rfl)
theorem uL_many {d : Nat} {a0 : Nat} {T : TS} {Q : Post} : CallQ (d + 1) 131 [.ref a0] T Q ↔ Ev d ML_many [] 0 [(0, .ref a0)] [] T Q := qL_many (Nat.le_of_ble_eq_true rfl)
theorem uL_kept {d : Nat} {a0 : Nat} {a1 : Int32} {a2 : Int32} {T : TS} {Q : Post} : CallQ (d + 1) 132 [.ref a0, .int a1, .int a2] T Q ↔ Ev d ML_kept [] 0 [(0, .ref a0), (1, .int a1), (2, .int a2)] [] T Q := qL_kept (Nat.le_of_ble_eq_true rfl)
theorem uL_isVersion {d : Nat} {a0 : Nat} {a1 : Int32} {a2 : Int32} {T : TS} {Q : Post} : CallQ (d + 1) 133 [.ref a0, .int a1, .int a2] T Q ↔ Ev d ML_isVersion [] 0 [(0, .ref a0), (1, .int a1), (2, .int a2)] [] T Q := qL_isVersion (Nat.le_of_ble_eq_true rfl)
theorem uL_isListed {d : Nat} {a0 : Nat} {a1 : Nat} {a2 : Int32} {a3 : Int32} {T : TS} {Q : Post} : CallQ (d + 1) 134 [.ref a0, .ref a1, .int a2, .int a3] T Q ↔ Ev d ML_isListed [] 0 [(0, .ref a0), (1, .ref a1), (2, .int a2), (3, .int a3)] [] T Q := qL_isListed (Nat.le_of_ble_eq_true rfl)
theorem uL_areUnlike {d : Nat} {a0 : Nat} {a1 : Int32} {a2 : Int32} {a3 : Int32} {a4 : Int32} {a5 : Int32} {a6 : Int32} {T : TS} {Q : Post} : CallQ (d + 1) 135 [.ref a0, .int a1, .int a2, .int a3, .int a4, .int a5, .int a6] T Q ↔ Ev d ML_areUnlike [] 0 [(0, .ref a0), (1, .int a1), (2, .int a2), (3, .int a3), (4, .int a4), (5, .int a5), (6, .int a6)] [] T Q := qL_areUnlike (Nat.le_of_ble_eq_true rfl)
theorem uL_areVersions {d : Nat} {a0 : Nat} {a1 : Nat} {a2 : Int32} {a3 : Int32} {T : TS} {Q : Post} : CallQ (d + 1) 136 [.ref a0, .ref a1, .int a2, .int a3] T Q ↔ Ev d ML_areVersions [] 0 [(0, .ref a0), (1, .ref a1), (2, .int a2), (3, .int a3)] [] T Q := qL_areVersions (Nat.le_of_ble_eq_true rfl)
theorem uL_uses {d : Nat} {a0 : Nat} {a1 : Nat} {a2 : Int32} {T : TS} {Q : Post} : CallQ (d + 1) 137 [.ref a0, .ref a1, .int a2] T Q ↔ Ev d ML_uses [] 0 [(0, .ref a0), (1, .ref a1), (2, .int a2)] [] T Q := qL_uses (Nat.le_of_ble_eq_true rfl)
theorem uL_areChunks {d : Nat} {a0 : Nat} {a1 : Nat} {T : TS} {Q : Post} : CallQ (d + 1) 138 [.ref a0, .ref a1] T Q ↔ Ev d ML_areChunks [] 0 [(0, .ref a0), (1, .ref a1)] [] T Q := qL_areChunks (Nat.le_of_ble_eq_true rfl)
theorem uL_isCache {d : Nat} {a0 : Nat} {T : TS} {Q : Post} : CallQ (d + 1) 139 [.ref a0] T Q ↔ Ev d ML_isCache [] 0 [(0, .ref a0)] [] T Q := qL_isCache (Nat.le_of_ble_eq_true rfl)
theorem uL_saves {d : Nat} {a0 : Nat} {a1 : Nat} {a2 : Int32} {a3 : Int32} {T : TS} {Q : Post} : CallQ (d + 1) 140 [.ref a0, .ref a1, .int a2, .int a3] T Q ↔ Ev d ML_saves [] 0 [(0, .ref a0), (1, .ref a1), (2, .int a2), (3, .int a3)] [] T Q := qL_saves (Nat.le_of_ble_eq_true rfl)
theorem uL_forgets {d : Nat} {a0 : Nat} {a1 : Nat} {a2 : Int32} {a3 : Int32} {T : TS} {Q : Post} : CallQ (d + 1) 141 [.ref a0, .ref a1, .int a2, .int a3] T Q ↔ Ev d ML_forgets [] 0 [(0, .ref a0), (1, .ref a1), (2, .int a2), (3, .int a3)] [] T Q := qL_forgets (Nat.le_of_ble_eq_true rfl)
theorem uL_collects {d : Nat} {a0 : Nat} {a1 : Nat} {T : TS} {Q : Post} : CallQ (d + 1) 142 [.ref a0, .ref a1] T Q ↔ Ev d ML_collects [] 0 [(0, .ref a0), (1, .ref a1)] [] T Q := qL_collects (Nat.le_of_ble_eq_true rfl)
theorem uL_drafts {d : Nat} {a0 : Nat} {a1 : Int32} {a2 : Int32} {a3 : Int32} {a4 : Nat} {T : TS} {Q : Post} : CallQ (d + 1) 143 [.ref a0, .int a1, .int a2, .int a3, .ref a4] T Q ↔ Ev d ML_drafts [] 0 [(0, .ref a0), (1, .int a1), (2, .int a2), (3, .int a3), (4, .ref a4)] [] T Q := qL_drafts (Nat.le_of_ble_eq_true rfl)
theorem uL_vault {d : Nat} {a0 : Nat} {a1 : Int32} {T : TS} {Q : Post} : CallQ (d + 1) 144 [.ref a0, .int a1] T Q ↔ Ev d ML_vault [] 0 [(0, .ref a0), (1, .int a1)] [] T Q := qL_vault (Nat.le_of_ble_eq_true rfl)
