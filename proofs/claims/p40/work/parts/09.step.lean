/-! the machine's steps, off the heap -/
theorem lget_mem {l : Loc0} {k : Nat} {v : Value} (h : lget l k = some v) : (k, v) ∈ l := by
  induction l with
  | nil => cases h
  | cons q l ih =>
    obtain ⟨j, w⟩ := q
    unfold lget at h
    split at h
    · rename_i e
      cases h
      rw [← e]
      exact List.mem_cons_self
    · exact List.mem_cons_of_mem _ (ih h)
theorem lget_at {ls : Array Slot} {nL : Nat} {l : Loc0} {k : Nat} {v : Value} (hl : lv_has ls nL l) (h : lget l k = some v) : ls[k]? = some (.val v) := hl.2.2 (k, v) (lget_mem h)
theorem ldel_eq (l : Loc0) (k : Nat) : l.filter (fun q => !(q.1 == k) && !(q.1 + 1 == k && q.2.category == 2)) = ldel l k := by
  induction l with
  | nil => rfl
  | cons q l ih =>
    obtain ⟨j, w⟩ := q
    rw [List.filter_cons, ih]
    show _ = if j = k ∨ (j + 1 = k ∧ w.category = 2) then ldel l k else (j, w) :: ldel l k
    by_cases h1 : j = k
    · simp [h1]
    · by_cases h2 : j + 1 = k ∧ w.category = 2
      · simp [h2]
      · simp [h1, h2]
theorem ldel2_eq (l : Loc0) (k : Nat) : l.filter (fun q => !(q.1 == k) && (!(q.1 == k + 1) && !(q.1 + 1 == k && q.2.category == 2))) = ldel2 l k := by
  induction l with
  | nil => rfl
  | cons q l ih =>
    obtain ⟨j, w⟩ := q
    rw [List.filter_cons, ih]
    show _ = if j = k ∨ j = k + 1 ∨ (j + 1 = k ∧ w.category = 2) then ldel2 l k else (j, w) :: ldel2 l k
    by_cases h1 : j = k
    · simp [h1]
    · by_cases h2 : j + 1 = k ∧ w.category = 2
      · simp [h2]
      · by_cases h3 : j = k + 1
        · simp [h3]
        · simp [h1, h2, h3]
section STP
variable {p : Program} {l : Launch} {e : Env} {R : Room} {s : State} {m : MethodId} {args : Array Value} {below : List Frame} {meth : Method} {c : Code} {H : Heap} {locs : List Loc} {cells slots : Nat} {Q : State → Prop}
variable {cc : ByteArray} {pc : Nat} {ls : Array Slot}
theorem stk_sound {o : Nat} {i : Instr} {st st' : List Value} (hx : p.tables.exec = Jvm.exec) (hb : c.code = cc) (hown : s.vm.findClass (RN o) = some m.cls) (hts : ∀ w ∈ gw, w.before args s = true) (h : stkF o i st = some st') (hd : decode cc pc = .ok (i, ilen i)) (k : W p l e R s m args below meth c H locs cells slots Q (F0 m (pc + ilen i) ls st')) : W p l e R s m args below meth c H locs cells slots Q (F0 m pc ls st) := by
  unfold stkF at h
  split at h
  · cases h; exact lv_iconst hx hb hd rfl k
  · cases h; exact lv_bipush hx hb hd rfl k
  · cases h; exact lv_sipush hx hb hd rfl k
  · cases h; exact lv_lconst hx hb hd rfl k
  · split at h
    · rename_i e; subst e; cases h; exact lv_dconst0 hx hb hd k
    · cases h
  · cases h; exact lv_null hx hb hd k
  · split at h
    · rename_i v e
      cases h
      unfold ldcT at e
      split at e
      · rename_i e9
        subst e9
        split at e
        · rename_i e1; subst e1; cases e
          exact lv_ldc hx hb hown (hts (.constant "DedupVaultLaw" 161 1073741824) (gw_of (p := 210) (by decide +kernel) (by decide +kernel))) hd k
        · split at e
          · rename_i e1; subst e1; cases e
            exact lv_ldc hx hb hown (hts (.constant "DedupVaultLaw" 7 735439303) (gw_of (p := 214) (by decide +kernel) (by decide +kernel))) hd k
          · split at e
            · rename_i e1; subst e1; cases e
              exact lv_ldc hx hb hown (hts (.constant "DedupVaultLaw" 8 1578607569) (gw_of (p := 215) (by decide +kernel) (by decide +kernel))) hd k
            · split at e
              · rename_i e1; subst e1; cases e
                exact lv_ldc hx hb hown (hts (.constant "DedupVaultLaw" 9 2147483647) (gw_of (p := 216) (by decide +kernel) (by decide +kernel))) hd k
              · cases e
      · cases e
    · cases h
  · split at h
    · rename_i e; obtain ⟨rfl, rfl⟩ := e; cases h
      exact lv_ldc2 hx hb hown (hts (.constantLong "DedupVaultLaw" 135 (-1)) (gw_of (p := 792) (by decide +kernel) (by decide +kernel))) hd k
    · cases h
  · split at h
    · cases h; exact lv_iadd hx hb hd k
    · cases h
  · split at h
    · cases h; exact lv_isub hx hb hd k
    · cases h
  · split at h
    · cases h; exact lv_imul hx hb hd k
    · cases h
  · split at h
    · split at h
      · cases h
      · rename_i hy; cases h; exact lv_irem hx hb hd hy k
    · cases h
  · split at h
    · split at h
      · cases h
      · rename_i hy; cases h; exact lv_idiv hx hb hd hy k
    · cases h
  · split at h
    · cases h; exact lv_land hx hb hd k
    · cases h
  · split at h
    · cases h; exact lv_lor hx hb hd k
    · cases h
  · split at h
    · cases h; exact lv_lxor hx hb hd k
    · cases h
  · split at h
    · cases h; exact lv_lshl hx hb hd rfl k
    · cases h
  · split at h
    · cases h; exact lv_lshr hx hb hd rfl k
    · cases h
  · split at h
    · cases h; exact lv_l2i hx hb hd rfl k
    · cases h
  · split at h
    · cases h; exact lv_iand hx hb hd k
    · cases h
  · split at h
    · cases h; exact lv_i2l hx hb hd rfl k
    · cases h
  · split at h
    · cases h; exact lv_i2b hx hb hd rfl k
    · cases h
  · split at h
    · cases h; exact lv_i2d hx hb hd k
    · cases h
  · split at h
    · cases h; exact W.lcmp hx hb hd k
    · cases h
  · split at h
    · cases h; exact lv_dcmp hx hb hd k
    · cases h
  · split at h
    · split at h
      · rename_i hy; cases h; exact lv_ddiv hx hb hd hy k
      · cases h
    · cases h
  · split at h
    · cases h; exact lv_dup hx hb hd rfl k
    · cases h; exact lv_dup hx hb hd rfl k
    · cases h
  · split at h
    · cases h; exact lv_dup2_11 hx hb hd rfl rfl k
    · cases h
  · split at h
    · cases h; exact lv_pop hx hb hd rfl k
    · cases h; exact lv_pop hx hb hd rfl k
    · cases h
  · cases h
theorem jmp_of {off : Int} {st st' : List Value} {pc' : Nat} (h : jmp pc off st = some (pc', st')) : (pc : Int) + off = (pc' : Int) ∧ st' = st := by
  unfold jmp at h
  split at h
  · rename_i e; cases h; exact ⟨(Int.toNat_of_nonneg e).symm, rfl⟩
  · cases h
theorem bra_sound {i : Instr} {len : Nat} {st st' : List Value} {pc' : Nat} (hx : p.tables.exec = Jvm.exec) (hb : c.code = cc) (h : braF i pc st = some (pc', st')) (hlen : lenOk i len) (hd : decode cc pc = .ok (i, len)) (k : W p l e R s m args below meth c H locs cells slots Q (F0 m pc' ls st')) : W p l e R s m args below meth c H locs cells slots Q (F0 m pc ls st) := by
  unfold braF at h
  split at h
  · rename_i cnd off
    cases (show len = 3 from hlen)
    split at h
    · split at h
      · rename_i ht
        have ht := (Int.toNat_of_nonneg ht).symm
        cases h
        cases cnd
        · refine lv_if_eq hx hb hd ht (fun h9 => ?_) (fun h9 => ?_)
          · simpa [cmpB, h9] using k
          · simpa [cmpB, h9] using k
        · refine lv_if_ne hx hb hd ht (fun h9 => ?_) (fun h9 => ?_)
          · simpa [cmpB, h9] using k
          · simpa [cmpB, h9] using k
        · refine lv_if_lt hx hb hd ht (fun h9 => ?_) (fun h9 => ?_)
          · simpa [cmpB, h9] using k
          · simpa [cmpB, h9] using k
        · refine lv_if_ge hx hb hd ht (fun h9 => ?_) (fun h9 => ?_)
          · simpa [cmpB, h9] using k
          · simpa [cmpB, h9] using k
        · refine lv_if_gt hx hb hd ht (fun h9 => ?_) (fun h9 => ?_)
          · simpa [cmpB, h9] using k
          · simpa [cmpB, h9] using k
        · refine lv_if_le hx hb hd ht (fun h9 => ?_) (fun h9 => ?_)
          · simpa [cmpB, h9] using k
          · simpa [cmpB, h9] using k
      · cases h
    · cases h
  · rename_i cnd off
    cases (show len = 3 from hlen)
    split at h
    · split at h
      · rename_i ht
        have ht := (Int.toNat_of_nonneg ht).symm
        cases h
        cases cnd
        · refine lv_icmp_eq hx hb hd ht (fun h9 => ?_) (fun h9 => ?_)
          · simpa [cmpB, h9] using k
          · simpa [cmpB, h9] using k
        · refine lv_icmp_ne hx hb hd ht (fun h9 => ?_) (fun h9 => ?_)
          · simpa [cmpB, h9] using k
          · simpa [cmpB, h9] using k
        · refine lv_icmp_lt hx hb hd ht (fun h9 => ?_) (fun h9 => ?_)
          · simpa [cmpB, h9] using k
          · simpa [cmpB, h9] using k
        · refine lv_icmp_ge hx hb hd ht (fun h9 => ?_) (fun h9 => ?_)
          · simpa [cmpB, h9] using k
          · simpa [cmpB, h9] using k
        · refine lv_icmp_gt hx hb hd ht (fun h9 => ?_) (fun h9 => ?_)
          · simpa [cmpB, h9] using k
          · simpa [cmpB, h9] using k
        · refine lv_icmp_le hx hb hd ht (fun h9 => ?_) (fun h9 => ?_)
          · simpa [cmpB, h9] using k
          · simpa [cmpB, h9] using k
      · cases h
    · cases h
  · rename_i cnd off
    cases (show len = 3 from hlen)
    split at h
    · rename_i y x st1
      split at h
      · rename_i ht
        have ht := (Int.toNat_of_nonneg ht).symm
        cases cnd
        · rw [if_neg (by decide)] at h
          cases h
          refine lv_acmp_eq (rx := some x) (ry := some y) hx hb hd ht (fun h9 => ?_) (fun h9 => ?_)
          · have h9 := Option.some.inj h9
            simpa [h9] using k
          · have h9 : ¬ x = y := fun z => h9 (by rw [z])
            simpa [h9] using k
        · rw [if_pos rfl] at h
          cases h
          refine lv_acmp_ne (rx := some x) (ry := some y) hx hb hd ht (fun h9 => ?_) (fun h9 => ?_)
          · have h9 : ¬ x = y := fun z => h9 (by rw [z])
            simpa [h9] using k
          · have h9 := Option.some.inj h9
            simpa [h9] using k
      · cases h
    · rename_i y st1
      split at h
      · rename_i ht
        have ht := (Int.toNat_of_nonneg ht).symm
        cases cnd
        · rw [if_neg (by decide)] at h
          cases h
          refine lv_acmp_eq (rx := none) (ry := some y) hx hb hd ht (fun h9 => ?_) (fun h9 => ?_)
          · cases h9
          · exact k
        · rw [if_pos rfl] at h
          cases h
          refine lv_acmp_ne (rx := none) (ry := some y) hx hb hd ht (fun h9 => ?_) (fun h9 => ?_)
          · exact k
          · cases h9
      · cases h
    · cases h
  · cases (show len = 3 from hlen)
    split at h
    · cases h; exact lv_ifnull hx hb hd k
    · obtain ⟨ht, rfl⟩ := jmp_of h
      exact lv_ifnullN hx hb hd ht k
    · cases h
  · cases (show len = 3 from hlen)
    split at h
    · obtain ⟨ht, rfl⟩ := jmp_of h
      exact lv_ifnonnull hx hb hd ht k
    · cases h; exact lv_ifnonnullN hx hb hd k
    · cases h
  · cases (show len = 3 from hlen)
    obtain ⟨ht, rfl⟩ := jmp_of h
    exact lv_goto hx hb hd ht k
  · split at h
    · split at h
      · rename_i hr
        obtain ⟨ht, rfl⟩ := jmp_of h
        exact lv_tableOut hx hb hd hr ht k
      · rename_i hr
        split at h
        · rename_i off ho
          obtain ⟨ht, rfl⟩ := jmp_of h
          exact lv_tableIn hx hb hd (fun z => hr (Or.inl z)) (fun z => hr (Or.inr z)) ho ht k
        · cases h
    · cases h
  · cases h
theorem loc_sound {nL : Nat} {i : Instr} {lv lv' : Loc0} {st st' : List Value} (hx : p.tables.exec = Jvm.exec) (hb : c.code = cc) (hl : lv_has ls nL lv) (h : locF nL i lv st = some (lv', st')) (hd : decode cc pc = .ok (i, ilen i)) (k : ∀ ls', lv_has ls' nL lv' → W p l e R s m args below meth c H locs cells slots Q (F0 m (pc + ilen i) ls' st')) : W p l e R s m args below meth c H locs cells slots Q (F0 m pc ls st) := by
  unfold locF at h
  split at h
  · split at h
    · rename_i x hg; cases h; exact lv_iload hx hb hd (lget_at hl hg) (k ls hl)
    · cases h
  · split at h
    · rename_i x hg; cases h; exact lv_iload_n hx hb hd rfl (lget_at hl hg) (k ls hl)
    · cases h
  · split at h
    · rename_i x hg; cases h; exact lv_aload hx hb hd (lget_at hl hg) (k ls hl)
    · rename_i hg; cases h; exact lv_aloadN hx hb hd (lget_at hl hg) (k ls hl)
    · cases h
  · split at h
    · rename_i x hg; cases h; exact lv_aload_n hx hb hd rfl (lget_at hl hg) (k ls hl)
    · rename_i hg; cases h; exact lv_aload_nN hx hb hd rfl (lget_at hl hg) (k ls hl)
    · cases h
  · split at h
    · rename_i x hg; cases h; exact lv_dload hx hb hd (lget_at hl hg) (k ls hl)
    · cases h
  · split at h
    · rename_i x hg; cases h; exact lv_lload_n hx hb hd rfl (lget_at hl hg) (k ls hl)
    · cases h
  · split at h
    · split at h
      · rename_i hk; cases h; exact lv_istore hx hb hd hl hk (by rw [ldel_eq]) k
      · cases h
    · cases h
  · split at h
    · split at h
      · rename_i hk; cases h; exact lv_istore_n hx hb hd rfl hl hk (by rw [ldel_eq]) k
      · cases h
    · cases h
  · split at h
    · split at h
      · rename_i hk; cases h; exact lv_astore hx hb hd hl hk (by rw [ldel_eq]) k
      · cases h
    · split at h
      · rename_i hk; cases h; exact lv_astoreN hx hb hd hl hk (by rw [ldel_eq]) k
      · cases h
    · cases h
  · split at h
    · split at h
      · rename_i hk; cases h; exact lv_astore_n hx hb hd rfl hl hk (by rw [ldel_eq]) k
      · cases h
    · split at h
      · rename_i hk; cases h; exact lv_astore_nN hx hb hd rfl hl hk (by rw [ldel_eq]) k
      · cases h
    · cases h
  · split at h
    · split at h
      · rename_i hk; cases h; exact lv_dstore hx hb hd hl hk (by rw [ldel2_eq]) k
      · cases h
    · cases h
  · split at h
    · rename_i x hg
      split at h
      · rename_i hk
        cases h
        obtain ⟨j, hj⟩ := List.getElem?_of_mem (lget_mem hg)
        exact lv_iinc hx hb hd hl hj rfl hk (by rw [ldel_eq]) k
      · cases h
    · cases h
  · cases h
end STP
