/-! a collection: what it leaves in each container, how much goes -/
section CO
variable {cb : Nat → List Nat} {U us : Nat → Nat}
/-- a weight of a container's chunks -/
def gI (R : List Nat) (bx w : Nat → Nat) (c : Nat) : Nat := (R.map (fun n => if bx n = c then w n else 0)).sum
theorem gI_app (A B : List Nat) (bx w : Nat → Nat) (c : Nat) : gI (A ++ B) bx w c = gI A bx w c + gI B bx w c := by
  unfold gI
  rw [List.map_append, List.sum_append_nat]
theorem gI_one (n : Nat) (bx w : Nat → Nat) (c : Nat) : gI [n] bx w c = if bx n = c then w n else 0 := by
  unfold gI
  show _ + 0 = _
  rw [Nat.add_zero]
theorem gI_cons (n : Nat) (B : List Nat) (bx w : Nat → Nat) (c : Nat) : gI (n :: B) bx w c = (if bx n = c then w n else 0) + gI B bx w c := by
  unfold gI
  rw [List.map_cons, List.sum_cons]
theorem gI_up {R : List Nat} {bx w : Nat → Nat} {c n o : Nat} (h : n ∉ R) : gI R (up1 bx n o) w c = gI R bx w c := by
  unfold gI
  congr 1
  exact List.map_congr_left (fun x hx => by rw [upn hx h])
theorem gI_b (R : List Nat) (bx : Nat → Nat) (c : Nat) : bIn R bx cb c = gI R bx (fun n => (cb n).length) c := rfl
theorem gI_l (R : List Nat) (bx : Nat → Nat) (c : Nat) : lvR R bx cb U c = gI R bx (fun n => if 0 < U n then (cb n).length else 0) c := by
  unfold lvR gI
  congr 1
  refine List.map_congr_left (fun n _ => ?_)
  dsimp only
  by_cases e : bx n = c
  · by_cases e2 : 0 < U n
    · rw [if_pos ⟨e, e2⟩, if_pos e, if_pos e2]
    · rw [if_neg (fun q => e2 q.2), if_pos e, if_neg e2]
  · rw [if_neg (fun q => e q.1), if_neg e]
theorem mvL_g {c : Nat} (w : Nat → Nat) : ∀ (B A C : List Nat) (bx : Nat → Nat) (op : Nat), (A ++ B ++ C).Nodup → c < op → (∀ k, k ≠ c → k < op → gI (mvL cb U c B A C bx op).1 (mvL cb U c B A C bx op).2.1 w k = gI (A ++ B ++ C) bx w k) ∧ gI (mvL cb U c B A C bx op).1 (mvL cb U c B A C bx op).2.1 w c = gI (A ++ C) bx w c := by
  intro B
  induction B with
  | nil =>
    intro A C bx op _ _
    rw [List.append_nil]
    exact ⟨fun k _ _ => rfl, rfl⟩
  | cons n B ih =>
    intro A C bx op hnd hc
    have hnB : n ∉ B := (List.nodup_cons.mp (List.nodup_append.mp (List.nodup_append.mp hnd).1).2.1).1
    have hnA : n ∉ A := fun q => (List.nodup_append.mp (List.nodup_append.mp hnd).1).2.2 n q n (List.mem_cons_self ..) rfl
    have hnC : n ∉ C := fun q => (List.nodup_append.mp hnd).2.2 n (List.mem_append.mpr (Or.inr (List.mem_cons_self ..))) n q rfl
    have hndB : (A ++ B ++ C).Nodup := by
      refine hnd.sublist ?_
      exact List.Sublist.append (List.Sublist.append (List.Sublist.refl _) (List.sublist_cons_self _ _)) (List.Sublist.refl _)
    by_cases e : bx n = c
    · by_cases eu : 0 < U n
      · have em : mvL cb U c (n :: B) A C bx op = mvL cb U c B A (C ++ [n]) (up1 bx n (opR (A ++ B ++ C) bx cb op (cb n).length)) (opR (A ++ B ++ C) bx cb op (cb n).length) := by
          show (if bx n = c then _ else _) = _
          rw [if_pos e, if_pos eu]
        have ge := (opR_le (cb := cb) (R := A ++ B ++ C) (bx := bx) op (cb n).length).1
        rw [em]
        generalize opR (A ++ B ++ C) bx cb op (cb n).length = o at *
        have hnd2 : (A ++ B ++ (C ++ [n])).Nodup := by
          rw [← List.append_assoc]
          refine List.nodup_append.mpr ⟨hndB, (by simp), fun a ha b hb q => ?_⟩
          rw [List.mem_singleton.mp hb] at q
          subst q
          rcases List.mem_append.mp ha with ha | ha
          · rcases List.mem_append.mp ha with ha | ha
            · exact hnA ha
            · exact hnB ha
          · exact hnC ha
        obtain ⟨i1, i2⟩ := ih A (C ++ [n]) (up1 bx n o) o hnd2 (by omega)
        refine ⟨fun k hk hk2 => ?_, ?_⟩
        · rw [i1 k hk (by omega), gI_app, gI_app, gI_app, gI_app, gI_app, gI_one, gI_cons, gI_up hnA, gI_up hnB, gI_up hnC, up1_at, if_neg (by omega), if_neg (by omega)]
          omega
        · rw [i2, gI_app, gI_app, gI_app, gI_one, gI_up hnA, gI_up hnC, up1_at, if_neg (by omega)]
          omega
      · have em : mvL cb U c (n :: B) A C bx op = mvL cb U c B A C bx op := by
          show (if bx n = c then _ else _) = _
          rw [if_pos e, if_neg eu]
        rw [em]
        obtain ⟨i1, i2⟩ := ih A C bx op hndB hc
        refine ⟨fun k hk hk2 => ?_, i2⟩
        rw [i1 k hk hk2, gI_app, gI_app, gI_app, gI_app, gI_cons, if_neg (by omega)]
        omega
    · have em : mvL cb U c (n :: B) A C bx op = mvL cb U c B (A ++ [n]) C bx op := by
        show (if bx n = c then _ else _) = _
        rw [if_neg e]
      have ea : A ++ [n] ++ B ++ C = A ++ n :: B ++ C := by rw [List.append_assoc A]; rfl
      rw [em]
      obtain ⟨i1, i2⟩ := ih (A ++ [n]) C bx op (by rw [ea]; exact hnd) hc
      rw [ea] at i1
      refine ⟨i1, ?_⟩
      rw [i2, gI_app, gI_app, gI_app, gI_one, if_neg e]
      omega
/-- what a collection leaves of a container that was closed -/
def half (cb : Nat → List Nat) (U : Nat → Nat) (D : RC) (k : Nat) : Prop := bIn D.1 D.2.1 cb k = 0 ∨ bIn D.1 D.2.1 cb k ≤ 2 * lvR D.1 D.2.1 cb U k
theorem col_half {D0 : RC} {op : Nat} (h : ∀ k, k < op → (cRn cb U D0 k).1.Nodup ∧ k < (cRn cb U D0 k).2.2.1) : ∀ c, c ≤ op → ∀ k, k < c → half cb U (cRn cb U D0 c) k := by
  intro c
  induction c with
  | zero => intro _ k hk; omega
  | succ c ih =>
    intro hc k hk
    obtain ⟨h1, h2⟩ := h c (by omega)
    have IH := ih (by omega)
    show half cb U (cR cb U (cRn cb U D0 c) c) k
    generalize cRn cb U D0 c = D at *
    unfold cR
    by_cases e : 2 * lvR D.1 D.2.1 cb U c < bIn D.1 D.2.1 cb c
    · rw [if_pos e]
      have hnd : ([] ++ D.1 ++ []).Nodup := by rw [List.append_nil]; exact h1
      obtain ⟨a1, a2⟩ := mvL_g (cb := cb) (U := U) (fun n => (cb n).length) D.1 [] [] D.2.1 D.2.2.1 hnd h2
      obtain ⟨b1, b2⟩ := mvL_g (cb := cb) (U := U) (fun n => if 0 < U n then (cb n).length else 0) D.1 [] [] D.2.1 D.2.2.1 hnd h2
      unfold half
      dsimp only
      rw [gI_b, gI_l]
      by_cases ek : k = c
      · subst ek
        rw [a2]
        exact Or.inl rfl
      · have ee : [] ++ D.1 ++ [] = D.1 := by rw [List.append_nil]; rfl
        rw [ee] at a1 b1
        rw [a1 k ek (by omega), b1 k ek (by omega), ← gI_b, ← gI_l]
        exact IH k (by omega)
    · rw [if_neg e]
      by_cases ek : k = c
      · subst ek
        exact Or.inr (by omega)
      · exact IH k (by omega)
theorem col_cs {D0 : RC} (h : D0.2.2.2.1.Nodup) : ∀ c, (cRn cb U D0 c).2.2.2.1.Nodup := by
  intro c
  induction c with
  | zero => exact h
  | succ c ih =>
    show (cR cb U (cRn cb U D0 c) c).2.2.2.1.Nodup
    generalize cRn cb U D0 c = D at *
    unfold cR
    split
    · exact ih.filter _
    · exact ih
/-- the bytes that go, the rows that stay -/
theorem col_sum {bl : List Nat} {co : Nat → List Nat} {op : Nat} {cs rw : List Nat} {bx : Nat → Nat} {ud st : Nat} (h : SI U us cb bl co op cs rw bx ud st) (hu : ud ≤ 61440) : byS cb (cRn cb U (rw, bx, op, cs, 0) op).1 + (cRn cb U (rw, bx, op, cs, 0) op).2.2.2.2 = byS cb rw ∧ ∀ n ∈ (cRn cb U (rw, bx, op, cs, 0) op).1, n ∈ rw := by
  have hop := h.op hu
  obtain ⟨h1, h2, h3, h4, h5, h6, h7⟩ := h
  have h0 : CI cb U us bl rw op (2 * ud) 0 (bl, co, op, cs, 0, 0) (rw, bx, op, cs, 0) := by
    refine ⟨h1, rfl, rfl, rfl, Nat.le_refl _, rfl, fun k _ _ => Iff.rfl, h2, fun n hn => ⟨hn, (h3 n hn).2⟩, h5, h6, rfl, h7, fun n hn _ => hn⟩
  obtain ⟨B1, -⟩ := col_all h0 (by omega) (by omega) op (Nat.le_refl _)
  obtain ⟨a1, a2, a3, a4, a5, a6, a7, a8, a9, a10, a11, a12, a13, a14⟩ := B1
  exact ⟨a12, fun n hn => (a9 n hn).1⟩
/-- bytes are live ones and garbage -/
theorem by_split (U : Nat → Nat) : ∀ R : List Nat, byS cb R = (R.map (fun n => if 0 < U n then (cb n).length else 0)).sum + (R.map (fun n => if U n = 0 then (cb n).length else 0)).sum := by
  intro R
  unfold byS
  induction R with
  | nil => rfl
  | cons a l ih =>
    rw [List.map_cons, List.map_cons, List.map_cons, List.sum_cons, List.sum_cons, List.sum_cons, ih]
    by_cases e : U a = 0
    · rw [if_neg (by omega), if_pos e]; omega
    · rw [if_pos (by omega), if_neg e]; omega
theorem col_gar {rw rw' : List Nat} {st g : Nat} (h1 : rw.Nodup) (h2 : rw'.Nodup) (h3 : ∀ n ∈ rw, n < st) (h4 : ∀ n ∈ rw', n ∈ rw) (h5 : ∀ n ∈ rw, 0 < U n → n ∈ rw') (hb : byS cb rw' + g = byS cb rw) : (rw'.map (fun n => if U n = 0 then (cb n).length else 0)).sum + g = (rw.map (fun n => if U n = 0 then (cb n).length else 0)).sum := by
  have e1 := by_split (cb := cb) U rw
  have e2 := by_split (cb := cb) U rw'
  have e3 : (rw'.map (fun n => if 0 < U n then (cb n).length else 0)).sum = (rw.map (fun n => if 0 < U n then (cb n).length else 0)).sum := by
    rw [← sm_in (fun n => if 0 < U n then (cb n).length else 0) rw h1 h3, ← sm_in (fun n => if 0 < U n then (cb n).length else 0) rw' h2 (fun n hn => h3 n (h4 n hn))]
    refine sm_congr (fun n _ => ?_)
    by_cases e : 0 < U n
    · by_cases q : n ∈ rw
      · rw [if_pos (h5 n q e), if_pos q]
      · rw [if_neg (fun z => q (h4 n z)), if_neg q]
    · rw [if_neg e]
      split <;> split <;> rfl
  omega
/-- a container's garbage -/
theorem gar_box (R : List Nat) (bx : Nat → Nat) (c : Nat) : gI R bx (fun n => if U n = 0 then (cb n).length else 0) c + lvR R bx cb U c = bIn R bx cb c := by
  rw [gI_l, gI_b]
  unfold gI
  induction R with
  | nil => rfl
  | cons a l ih =>
    rw [List.map_cons, List.map_cons, List.map_cons, List.sum_cons, List.sum_cons, List.sum_cons]
    dsimp only at ih ⊢
    by_cases e : bx a = c
    · rw [if_pos e, if_pos e, if_pos e]
      by_cases e2 : U a = 0
      · rw [if_pos e2, if_neg (by omega)]; omega
      · rw [if_neg e2, if_pos (by omega)]; omega
    · rw [if_neg e, if_neg e, if_neg e]; omega
end CO
