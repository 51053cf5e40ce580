/-! a list in the store and its cells: taken out, and put back -/
theorem cel_list {G : GP} {g : GG} {T : TS} {a : Nat} (h : tK T a = 23) : cel G g T a = some (.inr (0, [.int (g.2.1 a), va_rf (g.1 a), .int (nI (tL T a).length)])) := by
  unfold cel
  rw [h]
  rfl
theorem cel_row {G : GP} {g : GG} {T : TS} {e o : Nat} (h : tK T e = 0) (h2 : g.2.2 e = some o) : cel G g T e = some (lrow G (tc T o) (refs (tL T o))) := by
  unfold cel
  rw [if_pos h, h2]
  rfl
/-- what the new store is beside the old one -/
def TL (T T1 : TS) (a k : Nat) (ys : List Nat) : Prop := tK T1 = tK T ∧ tI T1 = tI T ∧ tR T1 = tR T ∧ tA T1 = tA T ∧ tl T1 = tl T ∧ tJ T1 = tJ T ∧ (∀ x, tL T1 x = if x = a then ys else tL T x) ∧ ∀ x, tc T1 x = if x = a then k else tc T x
theorem Rel.lst {G : GP} {T : TS} {H : Heap} {a : Nat} (hR : Rel G T H) (h23 : tK T a = 23) : ∃ (m0 : Int32) (r : Nat), JG G (tn T) a m0 r (tc T a) (tL T a) H ∧ a < tn T ∧ ((tL T a).length ≤ tc T a ∧ tc T a ≤ 300000) ∧ (∀ q, AG a r (tc T a) (tn T) q → own G q) ∧ (∀ b, 2 ≤ tK T b → tK T b ≤ 9 → EB G (AG a r (tc T a) (tn T)) b H) ∧ (∀ y ∈ tL T a, 2 ≤ tK T y ∧ tK T y ≤ 9) ∧
    ∀ (T1 : TS) (H1 : Heap) (m1 : Int32) (r1 k1 : Nat) (ys : List Nat), TL T T1 a k1 ys → (tn T1 = tn T ∧ r1 = r ∧ 0 < tc T a ∧ 0 < k1 ∨ tn T1 = tn T + 1 ∧ r1 = tn T ∧ 0 < k1) → (ys.length ≤ k1 ∧ k1 ≤ 300000) → (∀ y ∈ ys, 2 ≤ tK T y ∧ tK T y ≤ 9) → KA G (tn T1) a m1 r1 k1 ys H1 → (∀ q, q < H.size → ¬ AG a r (tc T a) (tn T) q → H1[q]? = H[q]?) → Rel G T1 H1 := by
  obtain ⟨z1, z2, z3, hk, g, hl, hbk, hP⟩ := hR
  obtain ⟨l1, l2, l3⟩ := hl a h23
  have ha := cel_lt hk hbk (cel_list (G := G) (g := g) h23)
  obtain ⟨r, hr, hrk⟩ : ∃ r, g.1 a = some r ∧ ((tc T a = 0 ∧ r = gE G) ∨ (0 < tc T a ∧ g.2.2 r = some a)) := by
    rcases l3 with ⟨q1, q2⟩ | ⟨e, q1, q2, q3⟩
    · exact ⟨_, q2, Or.inl ⟨q1, rfl⟩⟩
    · exact ⟨e, q2, Or.inr ⟨q1, q3⟩⟩
  have hat : va_at (gD G) kcl (a, lobj (g.2.1 a) r (nI (tL T a).length)) H := by
    have h9 := hP a _ (cel_list h23)
    rw [hr] at h9
    exact h9
  have hA : ∀ q, AG a r (tc T a) (tn T) q → own G q := by
    intro q hq
    rcases hq with rfl | ⟨h0, rfl⟩ | hq
    · exact ha.1
    · rcases hrk with ⟨q1, -⟩ | ⟨-, q2⟩
      · omega
      · exact (hbk _ _ q2).2.2.1
    · exact Nat.le_trans z2 hq
  have hEB : ∀ b, 2 ≤ tK T b → tK T b ≤ 9 → EB G (AG a r (tc T a) (tn T)) b H := by
    intro b h2 h9
    have hc : cel G g T b = some (.inr (tK T b - 1, flds T (tK T b - 1) b)) := cel_obj (by omega) (by omega)
    have hb := cel_lt hk hbk hc
    refine ⟨fun hq => ?_, _, _, by omega, by omega, hP b _ hc⟩
    rcases hq with rfl | ⟨h0, rfl⟩ | hq
    · omega
    · rcases hrk with ⟨q1, -⟩ | ⟨-, q2⟩
      · omega
      · have := (hbk _ _ q2).1
        omega
    · omega
  refine ⟨g.2.1 a, r, ⟨z1, z3, ?_⟩, ha.2, l1, hA, hEB, l2, ?_⟩
  · rcases hrk with ⟨q1, q2⟩ | ⟨q1, q2⟩
    · exact Or.inl ⟨q1, q2, hat⟩
    · have hb := hbk _ _ q2
      refine Or.inr ⟨q1, fun h => by rw [← h] at hb; omega, hb.2.1, va_P2 hat (hP r _ (cel_row hb.1 q2)), fun i y hy => ?_⟩
      have hm : y ∈ tL T a := List.mem_of_getElem? hy
      obtain ⟨p1, p2⟩ := hEB y (l2 y hm).1 (l2 y hm).2
      exact ⟨p1, p2⟩
  · rintro T1 H1 m1 r1 k1 ys ⟨tK1, tI1, tR1, tA1, tl1, tJ1, tL1, tc1⟩ hn hys hyk ⟨hz, hP1⟩ hfr
    have hk1 : 0 < k1 := by rcases hn with h | h <;> omega
    have hn1 : tn T ≤ tn T1 := by rcases hn with h | h <;> omega
    have hr0 : tK T r1 = 0 ∧ r1 < tn T1 ∧ (gH G).size ≤ r1 ∧ r1 ≠ a ∧ ∀ o, g.2.2 r1 = some o → o = a := by
      rcases hn with ⟨e1, rfl, e3, -⟩ | ⟨e1, rfl, -⟩
      · rcases hrk with ⟨q1, -⟩ | ⟨-, q2⟩
        · omega
        · have hb := hbk _ _ q2
          exact ⟨hb.1, by omega, hb.2.2.1, fun h => by rw [h] at hb; omega, fun o ho => Option.some.inj (ho.symm.trans q2)⟩
      · have h0 : tK T (tn T) = 0 := by
          by_cases h9 : tK T (tn T) = 0
          · exact h9
          · rcases hk _ h9 with h | h <;> omega
        exact ⟨h0, by omega, z2, by omega, fun o ho => by have := (hbk _ _ ho).2.1; omega⟩
    obtain ⟨w1, w2, w3, w4, w5⟩ := hr0
    have hfl : ∀ c x, flds T1 c x = flds T c x := by
      intro c x
      unfold flds fvl
      rw [tI1, tR1]
    let g1 : GG := (fun x => if x = a then some r1 else g.1 x, fun x => if x = a then m1 else g.2.1 x, fun x => if x = r1 then some a else if g.2.2 x = some a then none else g.2.2 x)
    have g1a : ∀ x, g1.1 x = if x = a then some r1 else g.1 x := fun _ => rfl
    have g1b : ∀ x, g1.2.1 x = if x = a then m1 else g.2.1 x := fun _ => rfl
    have g1c : ∀ x, g1.2.2 x = if x = r1 then some a else if g.2.2 x = some a then none else g.2.2 x := fun _ => rfl
    clear_value g1
    refine ⟨hz, Nat.le_trans z2 hn1, fun q hq => ?_, fun x hx => ?_, g1, fun x hx => ?_, fun e o he => ?_, fun x e he => ?_⟩
    · rw [hfr q (by omega) (fun z => absurd (hA q z) (Nat.not_le_of_lt hq))]
      exact z3 q hq
    · rw [tK1] at hx ⊢
      rw [tl1, tA1]
      rcases hk x hx with h | h
      · exact Or.inl ⟨h.1, by omega, h.2.2⟩
      · exact Or.inr h
    · rw [tK1] at hx
      rw [tL1, tc1, tK1, g1a]
      by_cases e : x = a
      · subst e
        rw [if_pos rfl, if_pos rfl, if_pos rfl]
        exact ⟨hys, hyk, Or.inr ⟨r1, hk1, rfl, by rw [g1c, if_pos rfl]⟩⟩
      · rw [if_neg e, if_neg e, if_neg e]
        obtain ⟨p1, p2, p3⟩ := hl x hx
        refine ⟨p1, p2, p3.imp id ?_⟩
        rintro ⟨e9, c1, c2, c3⟩
        refine ⟨e9, c1, c2, ?_⟩
        rw [g1c, if_neg (fun h => e (w5 x (by rw [← h]; exact c3))), if_neg (fun h => e (Option.some.inj (c3.symm.trans h)))]
        exact c3
    · rw [g1c] at he
      rw [tK1, tc1, g1a]
      by_cases e1 : e = r1
      · rw [if_pos e1] at he
        cases he
        subst e1
        rw [if_pos rfl, if_pos rfl]
        exact ⟨w1, w2, w3, h23, rfl, hk1⟩
      · rw [if_neg e1] at he
        by_cases e2 : g.2.2 e = some a
        · rw [if_pos e2] at he; cases he
        · rw [if_neg e2] at he
          obtain ⟨b1, b2, b3, b4, b5, b6⟩ := hbk e o he
          have hoa : o ≠ a := fun h => e2 (by rw [he, h])
          rw [if_neg hoa, if_neg hoa]
          exact ⟨b1, by omega, b3, b4, b5, b6⟩
    · by_cases e1 : x = a
      · subst e1
        rw [cel_list (by rw [tK1]; exact h23), g1a, g1b, if_pos rfl, if_pos rfl, tL1, if_pos rfl] at he
        cases he
        exact hP1 0 _ rfl
      · by_cases e2 : x = r1
        · subst e2
          rw [cel_row (o := a) (by rw [tK1]; exact w1) (by rw [g1c, if_pos rfl]), tc1, if_pos rfl, tL1, if_pos rfl] at he
          cases he
          exact hP1 1 _ rfl
        · have hrr : 0 < tc T a → g.2.2 r = some a := fun h => by
            rcases hrk with ⟨q1, -⟩ | ⟨-, q2⟩
            · omega
            · exact q2
          have hold : cel G g T x = some e ∧ (0 < tc T a → x ≠ r) := by
            by_cases e3 : tK T x = 0
            · unfold cel at he
              rw [tK1, if_pos e3, g1c, if_neg e2] at he
              by_cases e4 : g.2.2 x = some a
              · rw [if_pos e4] at he; cases he
              · rw [if_neg e4] at he
                refine ⟨?_, fun h0 h => e4 (by rw [h]; exact hrr h0)⟩
                · unfold cel
                  rw [if_pos e3]
                  cases ho : g.2.2 x with
                  | none => rw [ho] at he; cases he
                  | some o =>
                    rw [ho] at he
                    have hoa : o ≠ a := fun h => e4 (by rw [ho, h])
                    simp only [Option.map_some] at he ⊢
                    rw [tc1, if_neg hoa, tL1, if_neg hoa] at he
                    exact he
            · refine ⟨?_, fun h0 h => e3 (by rw [h]; exact (hbk _ _ (hrr h0)).1)⟩
              · rw [← he]
                unfold cel
                rw [tK1, if_neg e3, if_neg e3, hfl, tl1, tA1, tJ1, g1a, g1b, if_neg e1, if_neg e1, tL1, if_neg e1]
          have hlt := (cel_lt hk hbk hold.1).2
          refine (hP x e hold.1).kept (hfr x (by omega) (fun hq => ?_))
          rcases hq with h | ⟨h0, h⟩ | h
          · exact e1 h
          · exact hold.2 h0 h
          · omega
