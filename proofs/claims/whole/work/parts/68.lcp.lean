/-! the cache's row as a list: pure -/
section LCP
theorem lcS_y {c : Int32} {i n : Nat} {g : Nat → Int32} (h : g i = c) : lcS c i (g, n) = (fun j => if j = i then -1 else g j, n) := by
  unfold lcS
  rw [if_pos h]
theorem lcS_n {c : Int32} {i n : Nat} {g : Nat → Int32} (h : ¬ g i = c) : lcS c i (g, n) = (fun j => if j = n then g i else if j = i then -1 else g j, n + 1) := by
  unfold lcS
  rw [if_neg h]
/-- three places, those that hold c left out -/
def lc3 (c x y z : Int32) (j : Nat) : Int32 :=
  if x = c then (if y = c then (if z = c then (if j < 3 then -1 else 0) else if j = 0 then z else -1) else if z = c then (if j = 0 then y else -1) else (if j = 0 then y else if j = 1 then z else -1))
  else if y = c then (if z = c then (if j = 0 then x else -1) else if j = 0 then x else if j = 1 then z else -1) else if z = c then (if j = 0 then x else if j = 1 then y else -1) else (if j = 0 then x else if j = 1 then y else z)
theorem lcV3 {c : Int32} {g : Nat → Int32} {j : Nat} (hj : j < 3) : (lcV c g 3).1 j = lc3 c (g 0) (g 1) (g 2) j := by
  have e : lcV c g 3 = lcS c 2 (lcS c 1 (lcS c 0 (g, 0))) := rfl
  rw [e]
  have hj3 : j = 0 ∨ j = 1 ∨ j = 2 := by omega
  unfold lc3
  by_cases h0 : g 0 = c <;> by_cases h1 : g 1 = c <;> by_cases h2 : g 2 = c <;> rcases hj3 with rfl | rfl | rfl <;> simp [lcS, h0, h1, h2]
/-- what a list says at a place -/
def caV (cs : List Nat) (i : Nat) : Int32 := if i < cs.length then nI (cs.getD i 0) else -1
theorem lc3_list {cs : List Nat} {c : Nat} (hl : cs.length ≤ 3) (hc : c < 1000000) (hcs : ∀ k ∈ cs, k < 1000000) {j : Nat} (hj : j < 3) : lc3 (nI c) (caV cs 0) (caV cs 1) (caV cs 2) j = caV (cs.filter (fun k => decide (k ≠ c))) j := by
  have hm : ¬ (-1 : Int32) = nI c := fun q => by
    have := i_m1b (a := c) (by omega)
    rw [this] at q
    exact q
  have hn : ∀ k ∈ cs, (nI k = nI c ↔ k = c) := fun k hk => by
    have := hcs k hk
    rw [nI_eq (by omega) (by omega)]
  have hj3 : j = 0 ∨ j = 1 ∨ j = 2 := by omega
  rcases cs with _ | ⟨a, _ | ⟨b, _ | ⟨e, _ | ⟨x, l⟩⟩⟩⟩
  · have e1 : caV [] 0 = -1 := rfl
    have e2 : caV [] 1 = -1 := rfl
    have e3 : caV [] 2 = -1 := rfl
    unfold lc3
    rw [e1, e2, e3, if_neg hm, if_neg hm, if_neg hm]
    rcases hj3 with rfl | rfl | rfl <;> rfl
  · have e1 : caV [a] 0 = nI a := rfl
    have e2 : caV [a] 1 = -1 := rfl
    have e3 : caV [a] 2 = -1 := rfl
    have ha := hn a (by simp)
    unfold lc3
    rw [e1, e2, e3, if_neg hm, if_neg hm, if_neg hm, if_neg hm]
    by_cases h1 : a = c
    · rw [if_pos (ha.mpr h1), List.filter_cons_of_neg (by simp [h1])]
      rcases hj3 with rfl | rfl | rfl <;> rfl
    · rw [if_neg (fun q => h1 (ha.mp q)), List.filter_cons_of_pos (by simp [h1])]
      rcases hj3 with rfl | rfl | rfl <;> rfl
  · have e1 : caV [a, b] 0 = nI a := rfl
    have e2 : caV [a, b] 1 = nI b := rfl
    have e3 : caV [a, b] 2 = -1 := rfl
    have ha := hn a (by simp)
    have hb := hn b (by simp)
    unfold lc3
    rw [e1, e2, e3, if_neg hm, if_neg hm, if_neg hm, if_neg hm]
    by_cases h1 : a = c
    · rw [if_pos (ha.mpr h1), List.filter_cons_of_neg (by simp [h1])]
      by_cases h2 : b = c
      · rw [if_pos (hb.mpr h2), List.filter_cons_of_neg (by simp [h2])]
        rcases hj3 with rfl | rfl | rfl <;> rfl
      · rw [if_neg (fun q => h2 (hb.mp q)), List.filter_cons_of_pos (by simp [h2])]
        rcases hj3 with rfl | rfl | rfl <;> rfl
    · rw [if_neg (fun q => h1 (ha.mp q)), List.filter_cons_of_pos (by simp [h1])]
      by_cases h2 : b = c
      · rw [if_pos (hb.mpr h2), List.filter_cons_of_neg (by simp [h2])]
        rcases hj3 with rfl | rfl | rfl <;> rfl
      · rw [if_neg (fun q => h2 (hb.mp q)), List.filter_cons_of_pos (by simp [h2])]
        rcases hj3 with rfl | rfl | rfl <;> rfl
  · have e1 : caV [a, b, e] 0 = nI a := rfl
    have e2 : caV [a, b, e] 1 = nI b := rfl
    have e3 : caV [a, b, e] 2 = nI e := rfl
    have ha := hn a (by simp)
    have hb := hn b (by simp)
    have he := hn e (by simp)
    unfold lc3
    rw [e1, e2, e3]
    by_cases h1 : a = c
    · rw [if_pos (ha.mpr h1), List.filter_cons_of_neg (by simp [h1])]
      by_cases h2 : b = c
      · rw [if_pos (hb.mpr h2), List.filter_cons_of_neg (by simp [h2])]
        by_cases h3 : e = c
        · rw [if_pos (he.mpr h3), List.filter_cons_of_neg (by simp [h3])]
          rcases hj3 with rfl | rfl | rfl <;> rfl
        · rw [if_neg (fun q => h3 (he.mp q)), List.filter_cons_of_pos (by simp [h3])]
          rcases hj3 with rfl | rfl | rfl <;> rfl
      · rw [if_neg (fun q => h2 (hb.mp q)), List.filter_cons_of_pos (by simp [h2])]
        by_cases h3 : e = c
        · rw [if_pos (he.mpr h3), List.filter_cons_of_neg (by simp [h3])]
          rcases hj3 with rfl | rfl | rfl <;> rfl
        · rw [if_neg (fun q => h3 (he.mp q)), List.filter_cons_of_pos (by simp [h3])]
          rcases hj3 with rfl | rfl | rfl <;> rfl
    · rw [if_neg (fun q => h1 (ha.mp q)), List.filter_cons_of_pos (by simp [h1])]
      by_cases h2 : b = c
      · rw [if_pos (hb.mpr h2), List.filter_cons_of_neg (by simp [h2])]
        by_cases h3 : e = c
        · rw [if_pos (he.mpr h3), List.filter_cons_of_neg (by simp [h3])]
          rcases hj3 with rfl | rfl | rfl <;> rfl
        · rw [if_neg (fun q => h3 (he.mp q)), List.filter_cons_of_pos (by simp [h3])]
          rcases hj3 with rfl | rfl | rfl <;> rfl
      · rw [if_neg (fun q => h2 (hb.mp q)), List.filter_cons_of_pos (by simp [h2])]
        by_cases h3 : e = c
        · rw [if_pos (he.mpr h3), List.filter_cons_of_neg (by simp [h3])]
          rcases hj3 with rfl | rfl | rfl <;> rfl
        · rw [if_neg (fun q => h3 (he.mp q)), List.filter_cons_of_pos (by simp [h3])]
          rcases hj3 with rfl | rfl | rfl <;> rfl
  · simp only [List.length_cons] at hl
    omega
variable {m : Nat} {T : TS} {cs : List Nat} {c : Nat}
theorem mCa.leave (h : mCa T m cs) (hc : c < 1000000) (hcs : ∀ k ∈ cs, k < 1000000) : ∀ j, j < 3 → (lcV (nI c) (tA T (m + 15)) 3).1 j = caV (cs.filter (fun k => decide (k ≠ c))) j := by
  intro j hj
  rw [lcV3 hj, h.2 0 (by omega), h.2 1 (by omega), h.2 2 (by omega)]
  exact lc3_list h.1 hc hcs hj
theorem caV_cons (b : Nat) (l : List Nat) (j : Nat) : caV (b :: l) (j + 1) = caV l j := by
  unfold caV
  rw [List.length_cons]
  by_cases e : j < l.length
  · rw [if_pos e, if_pos (by omega)]
    rfl
  · rw [if_neg e, if_neg (by omega)]
theorem caV_take (l : List Nat) {j n : Nat} (hj : j < n) : caV (l.take n) j = caV l j := by
  unfold caV
  rw [List.length_take]
  by_cases e : j < l.length
  · rw [if_pos e, if_pos (by omega), List.getD_eq_getElem?_getD, List.getElem?_take, if_pos hj, ← List.getD_eq_getElem?_getD]
  · rw [if_neg e, if_neg (by omega)]
theorem mCa.use (h : mCa T m cs) (hc : c < 1000000) (hcs : ∀ k ∈ cs, k < 1000000) : ∀ j, j < 3 → useG (nI c) (tA T (m + 15)) j = caV (useC c cs) j := by
  intro j hj
  have hl := h.leave hc hcs
  unfold useC
  rw [caV_take _ hj]
  unfold useG
  have hj3 : j = 0 ∨ j = 1 ∨ j = 2 := by omega
  rcases hj3 with rfl | rfl | rfl
  · rfl
  · rw [caV_cons]
    exact hl 0 (by omega)
  · rw [caV_cons]
    exact hl 1 (by omega)
end LCP
