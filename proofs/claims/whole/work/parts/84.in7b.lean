/-! the reference, made, whole -/
section IN7
variable {d : Nat} {T : TS}
theorem C_X7_init {vf vn : Nat → Nat} {vb ve : Nat → List Nat} {vp : Nat → Option Nat} {bx sf : Nat → Nat} {cb : Nat → List Nat} (hw : wf T) : CallQ (d + 1) 129 [.ref (tn T)] (nO 8 T) (fun q T' => q = .inl none ∧ MR T' (tn T) [] [] vf vn vb ve vp (fun _ => 0) [] bx sf cb 0 0 0 [] 0 0 ∧ tn T' = tn T + 16 ∧ fr (fun _ => False) 16 S7 T T') := by
  obtain ⟨htn, hu, a3, m1, hI, hf⟩ := U7_a hw
  obtain ⟨s7, hs7⟩ : ∃ s, s = S7 := ⟨_, rfl⟩
  rw [← hs7] at hu ⊢
  have hz8 := (U7_b hw 8 (by decide)).2.2.1
  have hmdl := U7_m hw
  refine Z_i7 hw ?_
  generalize mkR (tn T) (nO 8 T) L7 = U at *
  obtain ⟨-, ⟨-, r2, -, -, -, -, -, -, -, -, -, -, -, -, r15⟩, ⟨-, k2, -, -, -, -, -, -, -, -, -, -, -, -, k15⟩, ⟨-, l2, -, -, -, -, -, -, -, -, -, -, -, -, l15⟩⟩ := id hmdl
  refine lpX (fun k => [(1, .int (nI k)), (0, .ref (tn T))]) (fun k => sAs (tn T + 2) (fun j => if j < k then -1 else tA U (tn T + 2) j) U) 20 rfl ?_ (fun k hk hq => ?_) (Z_i7c ?_)
  · refine (sAs_id _ _).symm.trans (sAs_x fun j => ?_)
    rw [if_neg (Nat.not_lt_zero j)]
  · refine Z_i7b (by rw [tK_sAs]; exact m1) hk (by rw [tR_sAs]; exact r2) (by rw [tK_sAs]; exact k2) (by rw [tl_sAs]; exact l2) ?_
    rw [sA_sAs]
    refine ev_eq rfl (sAs_x fun j => ?_) hq
    by_cases e : j = k
    · rw [if_pos e, if_pos (by omega)]
    · rw [if_neg e]
      by_cases e2 : j < k
      · rw [if_pos e2, if_pos (by omega)]
      · rw [if_neg e2, if_neg (by omega)]
  have hA2 : ∀ a, a ≠ tn T + 2 → tA (sAs (tn T + 2) (fun j => if j < 20 then -1 else tA U (tn T + 2) j) U) a = tA U a := fun a ha => by rw [tA_sAs, up1_nea ha]
  have h22 : ∀ j, j < 20 → tA (sAs (tn T + 2) (fun j => if j < 20 then -1 else tA U (tn T + 2) j) U) (tn T + 2) j = -1 := fun j hj => by rw [sAs_tA, if_pos hj]
  have hms : ms (tn T) U (sAs (tn T + 2) (fun j => if j < 20 then -1 else tA U (tn T + 2) j) U) := ms.sAs (by omega)
  have hI2 : tI (sAs (tn T + 2) (fun j => if j < 20 then -1 else tA U (tn T + 2) j) U) = tI U := by rw [tI_sAs]
  generalize sAs (tn T + 2) (fun j => if j < 20 then -1 else tA U (tn T + 2) j) U = V at *
  obtain ⟨-, -, z1, z2, z3, -⟩ := id hms
  refine lpX (fun k => [(1, .int (nI k)), (0, .ref (tn T))]) (fun k => sAs (tn T + 15) (fun j => if j < k then -1 else tA V (tn T + 15) j) V) 4 rfl ?_ (fun k hk hq => ?_) (Z_i7e ?_)
  · refine (sAs_id _ _).symm.trans (sAs_x fun j => ?_)
    rw [if_neg (Nat.not_lt_zero j)]
  · refine Z_i7d (by rw [tK_sAs, z1]; exact m1) hk (by rw [tR_sAs, z2]; exact r15) (by rw [tK_sAs, z1]; exact k15) (by rw [tl_sAs, z3]; exact l15) ?_
    rw [sA_sAs]
    refine ev_eq rfl (sAs_x fun j => ?_) hq
    by_cases e : j = k
    · rw [if_pos e, if_pos (by omega)]
    · rw [if_neg e]
      by_cases e2 : j < k
      · rw [if_pos e2, if_pos (by omega)]
      · rw [if_neg e2, if_neg (by omega)]
  have hA3 : ∀ a, a ≠ tn T + 15 → tA (sAs (tn T + 15) (fun j => if j < 4 then -1 else tA V (tn T + 15) j) V) a = tA V a := fun a ha => by rw [tA_sAs, up1_nea ha]
  have h15 : ∀ j, j < 4 → tA (sAs (tn T + 15) (fun j => if j < 4 then -1 else tA V (tn T + 15) j) V) (tn T + 15) j = -1 := fun j hj => by rw [sAs_tA, if_pos hj]
  have hms3 : ms (tn T) U (sAs (tn T + 15) (fun j => if j < 4 then -1 else tA V (tn T + 15) j) V) := hms.tr (ms.sAs (by omega))
  have hI3 : tI (sAs (tn T + 15) (fun j => if j < 4 then -1 else tA V (tn T + 15) j) V) = tI U := by rw [tI_sAs, hI2]
  generalize sAs (tn T + 15) (fun j => if j < 4 then -1 else tA V (tn T + 15) j) V = P at *
  refine ⟨rfl, U7_MR hmdl hms3 (fun f => by rw [hI3]; exact hI f) (fun j hj => by rw [hA3 _ (by omega)]; exact h22 j hj) (fun j => by rw [hA3 _ (by omega), hA2 _ (by omega)]; exact hz8 j) h15, ?_, ?_⟩
  · rw [hms3.1]; exact htn
  · obtain ⟨c1, c2, c3, c4, c5, c6⟩ := hms3
    refine ⟨fun a ha => ?_, by omega, by omega, by omega, by omega, fun a ha hq => ?_⟩
    · rw [c3]; exact a3 a (by omega)
    · rw [c6 a (Or.inl ?_)]
      · exact hf a ha
      · by_cases q : a < tn T
        · exact q
        · exact absurd (hw a (by omega)) ha
end IN7
