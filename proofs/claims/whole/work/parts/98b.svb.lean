/-! save, both sides -/
section SVB
variable {S X m o L : Nat} {xs : Nat → Int32} {n0 u0 c D : Nat} {va ba ca : Nat → Nat} {dr kl : List Nat} {vf vn : Nat → Nat} {vb ve : Nat → List Nat} {vp : Nat → Option Nat} {nx : Nat → Nat} {sv : Nat} {cb : Nat → List Nat} {us : Nat → Nat} {bl cs : List Nat} {co : Nat → List Nat} {op hi re st : Nat} {rw : List Nat} {bx sf : Nat → Nat} {ud : Nat} {T T' T1 : TS}
theorem zS_gone (Z : ZS) (bs : List Nat) : zop (zS Z bs) + (zbl Z).length = zop Z + (zbl (zS Z bs)).length := by
  obtain ⟨zc, zu, zb, zo, zp, zk, zh, zr, zt, ze⟩ := Z
  unfold zS
  simp only [zcb, zst, zop, zcs, zhi, zre, zes, zus, zbl, zco]
  split
  · rfl
  · split
    · rfl
    · simp only [opF, blF]
      split
      · rfl
      · rw [List.length_append, List.length_singleton]
        omega
theorem zSn_gone (pb : Nat → List Nat) (Z : ZS) : ∀ n, zop (zSn pb Z n) + (zbl Z).length = zop Z + (zbl (zSn pb Z n)).length := by
  intro n
  induction n with
  | zero => rfl
  | succ n ih =>
    have := zS_gone (zSn pb Z n) (pb n)
    show zop (zS (zSn pb Z n) (pb n)) + _ = _ + (zbl (zS (zSn pb Z n) (pb n))).length
    omega
theorem SI.congr {U U' : Nat → Nat} (h : SI U us cb bl co op cs rw bx ud st) (e : ∀ n, U n = U' n) : SI U' us cb bl co op cs rw bx ud st := by
  obtain ⟨s1, s2, s3, s4⟩ := h
  exact ⟨s1, s2, fun n hn => by obtain ⟨a1, a2, a3, a4⟩ := s3 n hn; exact ⟨a1, a2, a3, by rw [a4, e]⟩, s4⟩
theorem T_save (f : Int32) (h : LI S X m o L xs n0 u0 c T) (hc : c < 512) : BA S X m o L xs n0 u0 c 9 87 156 [.int f] cdC noP T := by
  obtain ⟨va, ba, ca, dr, kl, vf, vn, vb, ve, vp, nx, sv, cb, us, bl, co, op, cs, hi, re, st, rw, bx, sf, ud, h⟩ := h
  have hX := h.1
  have hw := h.2.2.2.2.2.1.1
  have hK := h.2.2.1
  have hS := h.2.2.2.1
  have hC := h.2.2.2.2.1
  have hdl : dr.length ≤ 240 := hX.2.1.1.2.2.2.2.2.1
  rcases inR_is f (n := 6) (by decide) with ⟨e, -⟩ | ⟨j, hj, rfl, e, -⟩
  · exact BA_no (x := 102) (t := 1) h hc (by decide) (Call_up (X_save1 (d := 0) hX e) (by decide)) (fun T' hT' => Call_up (N_save1 (d := 0) hT' e) (by decide)) rfl (by decide)
  by_cases hl : kl.length < 20
  · obtain ⟨z1, z2, -⟩ := fre_is (kl := kl) (by rw [hK.len]; omega)
    obtain ⟨p1, p2, p3, p4⟩ := pieces_len hdl
    have hlim := hC.lim
    have hnx := hC.2.2.2.2.2.1 j
    have hsv := hC.2.2.2.2.2.2.1
    have qok := hC.room (sf := sf) hc hS hdl
    have hZ0 : ZQ (uO kl ve) (Z0 cb us bl co op cs hi re st) (rw, bx, sf, cb, ud, st, op, cs, hi, re, []) := by
      refine ⟨rfl, rfl, rfl, rfl, rfl, rfl, rfl, hS.congr (fun n => rfl), fun n hn => absurd hn List.not_mem_nil, fun n hn => uO_zero hK.1 hK.2.1 (fun k hk q => ?_), fun n => uO_le hK.1 hK.2.1 (fun k hk => (hK.2.2.2.2.2.2 k hk).2.2)⟩
      have := (hS.2.2.1 n ((hK.2.2.2.2.2.2 k hk).1 n q)).1
      omega
    obtain ⟨R1, R2⟩ := ZQ.run (pb := pbs dr) _ _ _ hZ0 qok hlim.1 p3 p4
    have hX2 := QX.all ((cuts dr 0).map (sub dr)) (rw, bx, sf, cb, ud, st, op, cs, hi, re, []) (fun n hn => (hS.2.2.1 n hn).1) (fun n hn => absurd hn List.not_mem_nil)
    have hCs := hC.save (j := j) hc hdl hX2
    have hgone := zSn_gone (pbs dr) (Z0 cb us bl co op cs hi re st) ((cuts dr 0).map (sub dr)).length
    rw [List.length_map] at R1 R2 hgone
    obtain ⟨_, T1, c1, rfl, ba1, ca1, v, x1, ⟨n, u, F⟩, A⟩ := X_save3 (d := 0) (z := fre kl) hw hX hj hl (by omega) (by omega) (fun k hk n hn => (hS.2.2.1 n ((hS.1.co hk).mp hn).1).1) z2 R1
    have eZ : zEnd dr cb us bl co op cs hi re st = zSn (pbs dr) (Z0 cb us bl co op cs hi re st) (cuts dr 0).length := rfl
    rw [← eZ] at R2 hgone
    have hz0 : zop (Z0 cb us bl co op cs hi re st) = op := rfl
    have hz1 : zbl (Z0 cb us bl co op cs hi re st) = bl := rfl
    rw [hz0, hz1] at hgone
    generalize zEnd dr cb us bl co op cs hi re st = Z at *
    have cmk := fun T' (hT' : MR T' m dr kl vf vn vb ve vp nx rw bx sf cb ud st op cs hi re) => N_save3 (d := 0) (j := j) hT' hj (by rw [hK.len]; omega) (by omega) qok
    generalize ((cuts dr 0).map (sub dr)).foldl qS (rw, bx, sf, cb, ud, st, op, cs, hi, re, []) = Q' at *
    obtain ⟨rw', bx', sf', cb', ud', st', op', cs', hi', re', es'⟩ := Q'
    obtain ⟨e1, e2, e3, e4, e5, e6, e7, hS', hes, -, -⟩ := R2
    simp only [e1, e2, e3, e4, e5, e6, e7] at x1 A hS'
    rw [e3] at hgone
    obtain ⟨b1, b2, b3, b4, b5, b6, b7, b8, b9, b10, b11, b12, b13⟩ := hX2
    simp only [qrw, qcb, qud, qst, qhi, qre, qes] at b1 b2 b3 b4 b7 b8
    have hK' := hK.save (dr := dr) (es := es') (cb' := cb') (rw' := rw') z2 z1 hj (by omega) b1 ⟨hes, by rw [b7, p2]; exact Nat.zero_add _, by rw [b8]; simpa using p1⟩
    obtain ⟨k1, k2, k3⟩ := hK.base hK' z2 hj
    have hbl := hS.1.len
    dsimp only at hbl
    refine BA_ok (sf' := sf') h (Call_up c1 (by decide)) x1 F (off_x hX h.2.1.1 h.2.2.2.2.2.1 (fun a q => ?_)) (h.2.2.2.2.2.2.am A (by omega) (by omega)) (fun T' hT' => ?_) hK' (hS'.congr (fun n => (uO_save hK.1 hK.2.1 z2 z1).symm)) hCs trivial
    · rcases q with q | q | q | q
      · rcases q with q | q | q | ⟨k, hk, q | q | ⟨n, hn, q⟩⟩
        · exact Or.inr (Or.inr (Or.inr (Or.inr (Or.inr (Or.inr (Or.inl q))))))
        · exact Or.inr (Or.inr (Or.inr (Or.inr (Or.inr (Or.inr (Or.inr (Or.inl q)))))))
        · exact Or.inr (Or.inr (Or.inr (Or.inr (Or.inr (Or.inr (Or.inr (Or.inr (Or.inl q))))))))
        · exact Or.inr (Or.inr (Or.inr (Or.inr (Or.inr (Or.inr (Or.inr (Or.inr (Or.inr (Or.inr ⟨k, hk, Or.inl q⟩)))))))))
        · exact Or.inr (Or.inr (Or.inr (Or.inr (Or.inr (Or.inr (Or.inr (Or.inr (Or.inr (Or.inr ⟨k, hk, Or.inr (Or.inl q)⟩)))))))))
        · exact Or.inr (Or.inr (Or.inr (Or.inr (Or.inr (Or.inr (Or.inr (Or.inr (Or.inr (Or.inr ⟨k, hk, Or.inr (Or.inr ⟨n, hn, Or.inl q⟩)⟩)))))))))
      · exact Or.inl q
      · exact Or.inr (Or.inr (Or.inr (Or.inl q)))
      · exact Or.inr (Or.inr (Or.inr (Or.inr (Or.inl q))))
    · obtain ⟨_, T2, c2, rfl, q1, q2, q3⟩ := cmk T' hT' k1 hK.2.2.2.2.2.1 k2
      have q1' : MR T2 m dr (kl ++ [fre kl]) (up1 vf (fre kl) j) (up1 vn (fre kl) (nx j)) (up1 vb (fre kl) dr) (up1 ve (fre kl) es') (up1 vp (fre kl) (newM kl vf vn ve vp (fre kl) j (nx j) es')) (up1 nx j (nx j + 1)) rw' bx' sf' cb' ud' st' op' cs' hi' re' := q1
      rw [k3] at q1'
      exact ⟨_, T2, Call_up c2 (by decide), rfl, q1', q2, q3⟩
  · have h20 : kl.length ≤ 20 := hX.2.2.2.1.2
    exact BA_no (x := 101) (t := 2) h hc (by decide) (Call_up (X_save2 (d := 0) hX hj hl) (by decide)) (fun T' hT' => Call_up (N_save2 (d := 0) hT' hj (by rw [hK.len]; omega)) (by decide)) rfl (by decide)
end SVB
