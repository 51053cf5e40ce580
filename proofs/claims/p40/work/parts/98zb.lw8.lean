/-! a list is made; the six together -/
section LWI
variable {l : Launch} {G : GP}
theorem Rel.newl {G : GP} {T : TS} {H H1 : Heap} {a : Nat} (hR : Rel G T H) (h1 : tK T a = 1) (hat : va_at (gD G) kcl (a, lobj 0 (gE G) 0) H1) (hz : H1.size = H.size) (hfr : ∀ q, q < H.size → q ≠ a → H1[q]? = H[q]?) : Rel G (nL a T) H1 := by
  obtain ⟨z1, z2, z3, hk, g, hl, hbk, hP⟩ := hR
  have ha := cel_lt hk hbk (cel_obj (G := G) (g := g) (c := 0) h1 (by decide))
  have kK : ∀ x, tK (nL a T) x = if x = a then 23 else tK T x := fun _ => rfl
  have kL : ∀ x, tL (nL a T) x = if x = a then [] else tL T x := fun _ => rfl
  have kc : ∀ x, tc (nL a T) x = if x = a then 0 else tc T x := fun _ => rfl
  have kl : tl (nL a T) = tl T := rfl
  have kA : tA (nL a T) = tA T := rfl
  have kJ : tJ (nL a T) = tJ T := rfl
  have kn : tn (nL a T) = tn T := rfl
  have kf : ∀ c x, flds (nL a T) c x = flds T c x := fun _ _ => rfl
  generalize nL a T = T1 at *
  let g1 : GG := (fun x => if x = a then some (gE G) else g.1 x, fun x => if x = a then 0 else g.2.1 x, g.2.2)
  have g1a : ∀ x, g1.1 x = if x = a then some (gE G) else g.1 x := fun _ => rfl
  have g1b : ∀ x, g1.2.1 x = if x = a then 0 else g.2.1 x := fun _ => rfl
  have g1c : g1.2.2 = g.2.2 := rfl
  clear_value g1
  refine ⟨by omega, by omega, fun q hq => ?_, fun x hx => ?_, g1, fun x hx => ?_, fun e o he => ?_, fun x e he => ?_⟩
  · rw [hfr q (by omega) (by omega)]
    exact z3 q hq
  · rw [kK] at hx ⊢
    rw [kl, kA, kn]
    by_cases e : x = a
    · subst e
      rw [if_pos rfl]
      exact Or.inl ⟨ha.1, ha.2, by omega⟩
    · rw [if_neg e] at hx ⊢
      exact hk x hx
  · rw [kK] at hx
    rw [kL, kc, g1a]
    by_cases e : x = a
    · subst e
      rw [if_pos rfl, if_pos rfl, if_pos rfl]
      exact ⟨⟨Nat.le_refl _, Nat.zero_le _⟩, fun y hy => (nomatch hy), Or.inl ⟨rfl, rfl⟩⟩
    · rw [if_neg e] at hx
      rw [if_neg e, if_neg e, if_neg e, g1c]
      obtain ⟨p1, p2, p3⟩ := hl x hx
      refine ⟨p1, fun y hy => ?_, p3⟩
      obtain ⟨y1, y2⟩ := p2 y hy
      have hya : y ≠ a := fun h => by rw [h] at y1; omega
      rw [kK, if_neg hya]
      exact ⟨y1, y2⟩
  · rw [g1c] at he
    obtain ⟨b1, b2, b3, b4, b5, b6⟩ := hbk e o he
    have hea : e ≠ a := fun h => by rw [h] at b1; omega
    have hoa : o ≠ a := fun h => by rw [h] at b4; omega
    rw [kK, kK, kn, g1a, kc, if_neg hea, if_neg hoa, if_neg hoa, if_neg hoa]
    exact ⟨b1, b2, b3, b4, b5, b6⟩
  · by_cases e1 : x = a
    · subst e1
      rw [cel_list (by rw [kK, if_pos rfl]), g1a, g1b, if_pos rfl, if_pos rfl, kL, if_pos rfl] at he
      cases he
      exact hat
    · have hold : cel G g T x = some e := by
        by_cases e3 : tK T x = 0
        · unfold cel at he ⊢
          rw [kK, if_neg e1, if_pos e3, g1c] at he
          rw [if_pos e3]
          cases ho : g.2.2 x with
          | none => rw [ho] at he; cases he
          | some o =>
            rw [ho] at he
            have hoa : o ≠ a := fun h => by
              have := (hbk x o ho).2.2.2.1
              rw [h] at this
              omega
            simp only [Option.map_some] at he ⊢
            rw [kc, if_neg hoa, kL, if_neg hoa] at he
            exact he
        · rw [← he]
          unfold cel
          rw [kK, if_neg e1, if_neg e3, if_neg e3, kf, kl, kA, kJ, g1a, g1b, if_neg e1, if_neg e1, kL, if_neg e1]
      have hlt := (cel_lt hk hbk hold).2
      exact (hP x e hold).kept (hfr x (by omega) e1)
theorem lt_init {a : Nat} {T : TS} (h1 : tK T a = 1) (i0 : tI T 0 a = 0) (i1 : tR T 1 a = none) (i2 : tI T 2 a = 0) : vx_Met l yJx4a65c_init_da8c8 (.code yJx4a65c_init_da8c8 cJx4a65c_init_da8c8 1 none :: gw) (rmS 0 (tn (nL a T) - tn T) (tu (nL a T) - tu T)) (PcG G T [.ref a]) (QcG G (.inl none) (nL a T)) (XcG G (.inl none) (nL a T)) (tn (nL a T) - tn T) (tu (nL a T) - tu T) (own G) := by
  refine lt_intro 3 rfl (by decide +kernel) (Nat.le_of_ble_eq_true rfl) ?_
  intro p e R s m below meth c ls r1 r2 r3 r4 hx hb hml hr hlocks hown hname hts hG hR hl
  have hR0 := hR
  obtain ⟨z1, z2, z3, hk, g, hlo, hbk, hP⟩ := hR0
  have hc := cel_obj (G := G) (g := g) (c := 0) h1 (by decide)
  have ha := cel_lt hk hbk hc
  have hat : va_at (gD G) kcl (a, .inr (0, [.int 0, .null, .int 0])) s.heap := by
    have h9 := hP a _ hc
    have hf : flds T 0 a = [.int 0, .null, .int 0] := by
      show [Value.int (tI T 0 a), va_rf (tR T 1 a), Value.int (tI T 2 a)] = _
      rw [i0, i1, i2]
      rfl
    rw [hf] at h9
    exact h9
  have hAo : ∀ q, q = a → own G q := fun q h => by rw [h]; exact ha.1
  refine lv_aload_n hx hb dJx4a65c_init_da8c8_0 rfl (lv_at hl 0 rfl) ?_
  refine hm_I (n := 0) (b := a) (As := []) (rest := []) (jAL (A := fun q => q = a) (n := tn T) (x0 := .int 0) (x1 := .null) (x2 := .int 0) rfl) hx hb (by rw [hml]; exact hl.1.symm) hown hts hG va_S.rf (fun q h => h) ⟨z1, hat⟩ jw_58 jw_59 rfl jw_4 jw_60 ⟨by decide +kernel, by decide +kernel⟩ rfl (Nat.zero_le _) (by omega) (by omega) (by omega) (by omega) rfl dJx4a65c_init_da8c8_1 ?_
  rintro v H1 locs1 ⟨rfl, hn1, hat1⟩ - - hS1
  refine lv_aload_n hx hb dJx4a65c_init_da8c8_4 rfl (lv_at hl 0 rfl) ?_
  refine va_gets hx hb (gE_stat (A := fun q => q = a) hG z3 hAo) hS1 hown (hts _ jw_65) (fun x h => h) dJx4a65c_init_da8c8_5 ?_
  refine l_ped (A := fun q => q = a) (ws := []) hx hb hts hown hG (at_one hat1) (va_D1 rfl) hS1 dJx4a65c_init_da8c8_8 (fun H2 locs2 hP2 hD2 hS2 => ?_)
  refine hm_size (fun hz => ?_)
  have hz2 := hS2.1
  exact lt_ret hx hb hr hlocks rfl dJx4a65c_init_da8c8_11 (hR.newl h1 (hP2 0 _ rfl) (by omega) (fun q x1 x2 => hS2.2.1 q x1 x2)) hS2 hAo (Nat.zero_le _) (Nat.zero_le _)
theorem LSound_ok : LSound l := by
  intro mid M As T r T1 G hM h
  unfold lst at h
  split at h
  · obtain ⟨a, rfl, h1, h2, h3, h4, rfl, rfl⟩ := h
    rw [mJx4a65c_init_da8c8] at hM
    cases hM
    exact lt_init h1 h2 h3 h4
  · obtain ⟨a, rfl, h1, rfl, rfl⟩ := h
    rw [mJx4a65c_size_8abf5] at hM
    cases hM
    exact lt_size h1
  · obtain ⟨a, k, b, rfl, h1, h2, h3, rfl, rfl⟩ := h
    rw [mJx4a65c_get_915e3] at hM
    cases hM
    exact lt_get h1 h2 h3
  · obtain ⟨a, b, rfl, h1, h2, h3, h4, rfl, h5⟩ := h
    rw [mJx4a65c_add_9ea2d] at hM
    cases hM
    exact lt_add h1 h2 h3 h4 h5
  · obtain ⟨a, k, b, rfl, h1, h2, h3, h4, h5, h6, rfl, h7⟩ := h
    rw [mJx4a65c_add_7a177] at hM
    cases hM
    exact lt_addAt h1 h2 h3 h4 h5 h7
  · obtain ⟨a, k, b, rfl, h1, h2, h3, rfl, h4⟩ := h
    rw [mJx4a65c_remove_915e3] at hM
    cases hM
    exact lt_remove h1 h2 h3 h4
  · exact h.elim
end LWI
