/-! DedupVault$Version: what it makes and changes; its chain; a byte restored -/
section VE2
variable {d v w : Nat} {ca : Nat → Nat} {T : TS}
theorem C_verInit {f n r cap : Nat} {bs : List Nat} (hw : wf T) (hr : rowIs T r bs cap) (hf : f < 6) (hn : n < 1000000) : CallQ (d + 4) 63 [.ref (tn T), .int (nI f), .int (nI n), .ref r] (nO 6 T) (fun q T' => q = .inl none ∧ verR T' (tn T) ca f n bs [] none ∧ tc T' (tn T + 3) = 0 ∧ tn T' = tn T + 4 ∧ fr (fun _ => False) 4 (bs.length + 10) T T') := by
  have hl := hr.2.2.2.2.2.1
  have hl2 := hr.2.2.2.2.2.2.1
  have f1 := fr_nO (W := fun _ => False) (c := 6) hw
  have f2 := f1.nw hw (fr_sI (W := fun a => a = tn T) (f := 192) (a := tn T) (v := nI f) f1.ok rfl) (fun a e => Or.inr (Nat.le_of_eq e.symm))
  have f3 := f2.nw hw (fr_sI (W := fun a => a = tn T) (f := 193) (a := tn T) (v := nI n) f2.ok rfl) (fun a e => Or.inr (Nat.le_of_eq e.symm))
  obtain ⟨T1, hT1⟩ : ∃ T1, T1 = sI 193 (tn T) (nI n) (sI 192 (tn T) (nI f) (nO 6 T)) := ⟨_, rfl⟩
  rw [← hT1] at f3
  have t1 : tn T1 = tn T + 1 := by rw [hT1]; rfl
  have r1 : rowIs T1 r bs cap := hr.of (f3.ce hr.1 (fun q => q)) (f3.ce hr.2.2.2.1 (fun q => q))
  have k1 : tK T1 (tn T) = 7 := by rw [hT1, tK_sI, tK_sI, tK_nO, up1_e, if_pos rfl]
  have i1 : tI T1 192 (tn T) = nI f := by rw [hT1, tI_sI, up2_e, if_neg (by omega), tI_sI, up2_e, if_pos ⟨rfl, rfl⟩]
  have i2 : tI T1 193 (tn T) = nI n := by rw [hT1, tI_sI, up2_e, if_pos ⟨rfl, rfl⟩]
  have F1 := newRow_fr (W := fun _ => False) (n := bs.length) f3.ok
  have N1 := newRow_is (T := T1) (n := bs.length) (by omega)
  obtain ⟨T2, hT2⟩ : ∃ T2, T2 = sR 194 (tn T) (some (tn T + 1)) (newRow bs.length T1) := ⟨_, rfl⟩
  have G2 := F1.nw f3.ok (fr_sR (W := fun a => a = tn T) (f := 194) (a := tn T) (v := some (tn T + 1)) F1.ok rfl) (W := fun a => a = tn T) (fun a e => Or.inl e)
  sorry
end VE2
