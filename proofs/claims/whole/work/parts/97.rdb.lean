/-! calls that read, both sides -/
section RDB
variable {S X m o L : Nat} {xs : Nat → Int32} {n0 u0 c : Nat} {T : TS}
def cd1 (x : Nat) : Nat := if x = 102 then 1 else 0
def noP (_ : Int32) : Prop := True
theorem KI.hp {kl : List Nat} {vf vn : Nat → Nat} {vb ve : Nat → List Nat} {vp : Nat → Option Nat} {nx : Nat → Nat} {cb : Nat → List Nat} {rw : List Nat} (h : KI kl vf vn vb ve vp nx cb rw) : ∀ k ∈ kl, ∀ j, vp k = some j → pl kl vf vn (nI (vf k)) (nI (vn j)) = some j := fun k hk j e => by
  obtain ⟨a1, a2⟩ := h.2.2.2.2.1 k hk j e
  rw [← a2]
  exact pl_at h.2.2.1 h.2.1 h.b6 a1
theorem map_in {f g : Nat → Int32} {q : Option Nat} (h : ∀ n, q = some n → f n = g n) : q.map f = q.map g := by
  cases q with
  | none => rfl
  | some n => exact congrArg some (h n rfl)
theorem T_draftLength (h : LI S X m o L xs n0 u0 c T) (hc : c < 512) : BB S X m o L xs n0 u0 c 9 85 139 [] T := by
  obtain ⟨va, ba, ca, dr, kl, vf, vn, vb, ve, vp, nx, sv, cb, us, bl, co, op, cs, hi, re, st, rw, bx, sf, ud, h⟩ := h
  have hX := h.1
  have hK := h.2.2.1
  have hS := h.2.2.2.1
  have hM := h.2.1
  have r := Call_up (d' := 9) (R_draftLength (d := 0)  hX) (by decide)
  refine BB_read h hc r (fun T' hT' => ?_)
  have n := Call_up (d' := 9) (N_draftLength (d := 0)  hT') (by decide)
  exact n
theorem T_draftAt (p : Int32) (h : LI S X m o L xs n0 u0 c T) (hc : c < 512) : BA S X m o L xs n0 u0 c 9 86 140 [.int p] cd1 noP T := by
  obtain ⟨va, ba, ca, dr, kl, vf, vn, vb, ve, vp, nx, sv, cb, us, bl, co, op, cs, hi, re, st, rw, bx, sf, ud, h⟩ := h
  have hX := h.1
  have hK := h.2.2.1
  have hS := h.2.2.2.1
  have hM := h.2.1
  have r := Call_up (d' := 9) (R_draftAt (d := 0) p hX) (by decide)
  refine BA_read h hc r (fun T' hT' => ?_) rfl (fun _ _ => trivial)
  have n := Call_up (d' := 9) (N_draftAt (d := 0) p hT') (by decide)
  exact n
theorem T_versions (h : LI S X m o L xs n0 u0 c T) (hc : c < 512) : BB S X m o L xs n0 u0 c 9 91 161 [] T := by
  obtain ⟨va, ba, ca, dr, kl, vf, vn, vb, ve, vp, nx, sv, cb, us, bl, co, op, cs, hi, re, st, rw, bx, sf, ud, h⟩ := h
  have hX := h.1
  have hK := h.2.2.1
  have hS := h.2.2.2.1
  have hM := h.2.1
  have r := Call_up (d' := 9) (R_versions (d := 0)  hX) (by decide)
  refine BB_read h hc r (fun T' hT' => ?_)
  have n := Call_up (d' := 9) (N_versions (d := 0)  hT') (by decide)
  rw [hK.len] at n
  exact n
theorem T_isKept (f : Int32) (v : Int32) (h : LI S X m o L xs n0 u0 c T) (hc : c < 512) : BA S X m o L xs n0 u0 c 9 92 162 [.int f, .int v] cd1 (fun v => v = nI 0 ∨ v = nI 1) T := by
  obtain ⟨va, ba, ca, dr, kl, vf, vn, vb, ve, vp, nx, sv, cb, us, bl, co, op, cs, hi, re, st, rw, bx, sf, ud, h⟩ := h
  have hX := h.1
  have hK := h.2.2.1
  have hS := h.2.2.2.1
  have hM := h.2.1
  have r := Call_up (d' := 9) (R_isKept (d := 0) f v hX) (by decide)
  refine BA_read h hc r (fun T' hT' => ?_) rfl (fun v e => by
    cases e2 : inR f 6 with
    | none => rw [e2] at e; cases e
    | some j =>
      rw [e2] at e
      cases e
      split
      · exact Or.inl rfl
      · exact Or.inr rfl)
  have n := Call_up (d' := 9) (N_isKept (d := 0) f v hT') (by decide)
  simp only [hK.fvpl] at n
  exact n
theorem T_latest (f : Int32) (h : LI S X m o L xs n0 u0 c T) (hc : c < 512) : BA S X m o L xs n0 u0 c 9 93 163 [.int f] cd1 noP T := by
  obtain ⟨va, ba, ca, dr, kl, vf, vn, vb, ve, vp, nx, sv, cb, us, bl, co, op, cs, hi, re, st, rw, bx, sf, ud, h⟩ := h
  have hX := h.1
  have hK := h.2.2.1
  have hS := h.2.2.2.1
  have hM := h.2.1
  have r := Call_up (d' := 9) (R_latest (d := 0) f hX) (by decide)
  refine BA_read h hc r (fun T' hT' => ?_) rfl (fun _ _ => trivial)
  have n := Call_up (d' := 9) (N_latest (d := 0) f hT') (by decide)
  simp only [hK.late] at n
  exact n
theorem T_length (f : Int32) (v : Int32) (h : LI S X m o L xs n0 u0 c T) (hc : c < 512) : BA S X m o L xs n0 u0 c 9 94 165 [.int f, .int v] cd1 noP T := by
  obtain ⟨va, ba, ca, dr, kl, vf, vn, vb, ve, vp, nx, sv, cb, us, bl, co, op, cs, hi, re, st, rw, bx, sf, ud, h⟩ := h
  have hX := h.1
  have hK := h.2.2.1
  have hS := h.2.2.2.1
  have hM := h.2.1
  have r := Call_up (d' := 9) (R_length (d := 0) f v hX) (by decide)
  refine BA_read h hc r (fun T' hT' => ?_) rfl (fun _ _ => trivial)
  have n := Call_up (d' := 9) (N_length (d := 0) f v hT') (by decide)
  rw [hK.fvpl] at n
  exact n
theorem T_byteAt (f : Int32) (v : Int32) (p : Int32) (h : LI S X m o L xs n0 u0 c T) (hc : c < 512) : BA S X m o L xs n0 u0 c 9 95 168 [.int f, .int v, .int p] cd1 noP T := by
  obtain ⟨va, ba, ca, dr, kl, vf, vn, vb, ve, vp, nx, sv, cb, us, bl, co, op, cs, hi, re, st, rw, bx, sf, ud, h⟩ := h
  have hX := h.1
  have hK := h.2.2.1
  have hS := h.2.2.2.1
  have hM := h.2.1
  have r := Call_up (d' := 9) (R_byteAt (d := 0) f v p hX) (by decide)
  refine BA_read h hc r (fun T' hT' => ?_) rfl (fun _ _ => trivial)
  have n := Call_up (d' := 9) (N_byteAt (d := 0) f v p hT' (fun k hk n hn => (hK.2.2.2.2.2.2 k hk).1 n hn) (fun k hk => Nat.le_of_eq (hK.2.2.2.2.2.2 k hk).2.1.symm)) (by decide)
  rw [hK.fvpl] at n
  exact n
theorem T_byteByCopy (f : Int32) (v : Int32) (p : Int32) (h : LI S X m o L xs n0 u0 c T) (hc : c < 512) : BA S X m o L xs n0 u0 c 9 96 169 [.int f, .int v, .int p] cd1 noP T := by
  obtain ⟨va, ba, ca, dr, kl, vf, vn, vb, ve, vp, nx, sv, cb, us, bl, co, op, cs, hi, re, st, rw, bx, sf, ud, h⟩ := h
  have hX := h.1
  have hK := h.2.2.1
  have hS := h.2.2.2.1
  have hM := h.2.1
  have r := Call_up (d' := 9) (R_byteByCopy (d := 0) f v p hX) (by decide)
  refine BA_read h hc r (fun T' hT' => ?_) rfl (fun _ _ => trivial)
  have n := Call_up (d' := 9) (N_byteByCopy (d := 0) f v p hT') (by decide)
  rw [hK.fvpl] at n
  exact n
theorem T_chunksOf (f : Int32) (v : Int32) (h : LI S X m o L xs n0 u0 c T) (hc : c < 512) : BA S X m o L xs n0 u0 c 9 97 170 [.int f, .int v] cd1 noP T := by
  obtain ⟨va, ba, ca, dr, kl, vf, vn, vb, ve, vp, nx, sv, cb, us, bl, co, op, cs, hi, re, st, rw, bx, sf, ud, h⟩ := h
  have hX := h.1
  have hK := h.2.2.1
  have hS := h.2.2.2.1
  have hM := h.2.1
  have r := Call_up (d' := 9) (R_chunksOf (d := 0) f v hX) (by decide)
  refine BA_read h hc r (fun T' hT' => ?_) rfl (fun _ _ => trivial)
  have n := Call_up (d' := 9) (N_chunksOf (d := 0) f v hT') (by decide)
  rw [hK.fvpl] at n
  exact n
theorem T_chunkAt (f : Int32) (v : Int32) (p : Int32) (h : LI S X m o L xs n0 u0 c T) (hc : c < 512) : BA S X m o L xs n0 u0 c 9 98 171 [.int f, .int v, .int p] cd1 noP T := by
  obtain ⟨va, ba, ca, dr, kl, vf, vn, vb, ve, vp, nx, sv, cb, us, bl, co, op, cs, hi, re, st, rw, bx, sf, ud, h⟩ := h
  have hX := h.1
  have hK := h.2.2.1
  have hS := h.2.2.2.1
  have hM := h.2.1
  have r := Call_up (d' := 9) (R_chunkAt (d := 0) f v p hX) (by decide)
  refine BA_read h hc r (fun T' hT' => ?_) rfl (fun _ _ => trivial)
  have n := Call_up (d' := 9) (N_chunkAt (d := 0) f v p hT') (by decide)
  rw [hK.fvpl] at n
  exact n
theorem T_baseOf (f : Int32) (v : Int32) (h : LI S X m o L xs n0 u0 c T) (hc : c < 512) : BA S X m o L xs n0 u0 c 9 99 172 [.int f, .int v] cd1 noP T := by
  obtain ⟨va, ba, ca, dr, kl, vf, vn, vb, ve, vp, nx, sv, cb, us, bl, co, op, cs, hi, re, st, rw, bx, sf, ud, h⟩ := h
  have hX := h.1
  have hK := h.2.2.1
  have hS := h.2.2.2.1
  have hM := h.2.1
  have r := Call_up (d' := 9) (R_baseOf (d := 0) f v hX) (by decide)
  refine BA_read h hc r (fun T' hT' => ?_) rfl (fun _ _ => trivial)
  have n := Call_up (d' := 9) (N_baseOf (d := 0) f v hT') (by decide)
  rw [hK.fvpl] at n
  exact n
theorem T_chainOf (f : Int32) (v : Int32) (h : LI S X m o L xs n0 u0 c T) (hc : c < 512) : BA S X m o L xs n0 u0 c 9 100 173 [.int f, .int v] cd1 noP T := by
  obtain ⟨va, ba, ca, dr, kl, vf, vn, vb, ve, vp, nx, sv, cb, us, bl, co, op, cs, hi, re, st, rw, bx, sf, ud, h⟩ := h
  have hX := h.1
  have hK := h.2.2.1
  have hS := h.2.2.2.1
  have hM := h.2.1
  have r := Call_up (d' := 9) (R_chainOf (d := 0) f v hX) (by decide)
  refine BA_read h hc r (fun T' hT' => ?_) rfl (fun _ _ => trivial)
  have n := Call_up (d' := 9) (N_chainOf (d := 0) f v hT' hK.hp hK.2.2.2.2.2.1) (by decide)
  rw [hK.fvpl] at n
  exact n
theorem T_costOf (f : Int32) (v : Int32) (h : LI S X m o L xs n0 u0 c T) (hc : c < 512) : BA S X m o L xs n0 u0 c 9 101 174 [.int f, .int v] cd1 noP T := by
  obtain ⟨va, ba, ca, dr, kl, vf, vn, vb, ve, vp, nx, sv, cb, us, bl, co, op, cs, hi, re, st, rw, bx, sf, ud, h⟩ := h
  have hX := h.1
  have hK := h.2.2.1
  have hS := h.2.2.2.1
  have hM := h.2.1
  have r := Call_up (d' := 9) (R_costOf (d := 0) f v hX) (by decide)
  refine BA_read h hc r (fun T' hT' => ?_) rfl (fun _ _ => trivial)
  have n := Call_up (d' := 9) (N_costOf (d := 0) f v hT' hK.hp) (by decide)
  rw [hK.fvpl] at n
  exact n
theorem T_isStored (w : Int32) (h : LI S X m o L xs n0 u0 c T) (hc : c < 512) : BB S X m o L xs n0 u0 c 9 102 175 [.int w] T := by
  obtain ⟨va, ba, ca, dr, kl, vf, vn, vb, ve, vp, nx, sv, cb, us, bl, co, op, cs, hi, re, st, rw, bx, sf, ud, h⟩ := h
  have hX := h.1
  have hK := h.2.2.1
  have hS := h.2.2.2.1
  have hM := h.2.1
  have r := Call_up (d' := 9) (R_isStored (d := 0) w hX) (by decide)
  have hrl : ∀ n ∈ rw, n < 1000000 := fun n hn => (hM.2.2.2.2.1.2.2.2 n hn).1
  have hfc := hS.rnfc hrl w
  refine BB_read h hc r (fun T' hT' => ?_)
  have n := Call_up (d' := 9) (N_isStored (d := 0) w hT') (by decide)
  rw [hfc] at n
  exact n
theorem T_chunks (h : LI S X m o L xs n0 u0 c T) (hc : c < 512) : BB S X m o L xs n0 u0 c 9 103 176 [] T := by
  obtain ⟨va, ba, ca, dr, kl, vf, vn, vb, ve, vp, nx, sv, cb, us, bl, co, op, cs, hi, re, st, rw, bx, sf, ud, h⟩ := h
  have hX := h.1
  have hK := h.2.2.1
  have hS := h.2.2.2.1
  have hM := h.2.1
  have r := Call_up (d' := 9) (R_chunks (d := 0)  hX) (by decide)
  refine BB_read h hc r (fun T' hT' => ?_)
  have n := Call_up (d' := 9) (N_chunks (d := 0)  hT') (by decide)
  rw [← hS.1.chunks] at n
  exact n
theorem T_chunkLength (w : Int32) (h : LI S X m o L xs n0 u0 c T) (hc : c < 512) : BA S X m o L xs n0 u0 c 9 104 178 [.int w] cd1 noP T := by
  obtain ⟨va, ba, ca, dr, kl, vf, vn, vb, ve, vp, nx, sv, cb, us, bl, co, op, cs, hi, re, st, rw, bx, sf, ud, h⟩ := h
  have hX := h.1
  have hK := h.2.2.1
  have hS := h.2.2.2.1
  have hM := h.2.1
  have r := Call_up (d' := 9) (R_chunkLength (d := 0) w hX) (by decide)
  have hrl : ∀ n ∈ rw, n < 1000000 := fun n hn => (hM.2.2.2.2.1.2.2.2 n hn).1
  have hfc := hS.rnfc hrl w
  refine BA_read h hc r (fun T' hT' => ?_) rfl (fun _ _ => trivial)
  have n := Call_up (d' := 9) (N_chunkLength (d := 0) w hT') (by decide)
  rw [hfc] at n
  exact n
theorem T_fingerprint (w : Int32) (h : LI S X m o L xs n0 u0 c T) (hc : c < 512) : BA S X m o L xs n0 u0 c 9 105 179 [.int w] cd1 noP T := by
  obtain ⟨va, ba, ca, dr, kl, vf, vn, vb, ve, vp, nx, sv, cb, us, bl, co, op, cs, hi, re, st, rw, bx, sf, ud, h⟩ := h
  have hX := h.1
  have hK := h.2.2.1
  have hS := h.2.2.2.1
  have hM := h.2.1
  have r := Call_up (d' := 9) (R_fingerprint (d := 0) w hX) (by decide)
  have hrl : ∀ n ∈ rw, n < 1000000 := fun n hn => (hM.2.2.2.2.1.2.2.2 n hn).1
  have hfc := hS.rnfc hrl w
  refine BA_read h hc r (fun T' hT' => ?_) rfl (fun _ _ => trivial)
  have n := Call_up (d' := 9) (N_fingerprint (d := 0) w hT') (by decide)
  rw [hfc] at n
  exact n
theorem T_references (w : Int32) (h : LI S X m o L xs n0 u0 c T) (hc : c < 512) : BA S X m o L xs n0 u0 c 9 106 180 [.int w] cd1 noP T := by
  obtain ⟨va, ba, ca, dr, kl, vf, vn, vb, ve, vp, nx, sv, cb, us, bl, co, op, cs, hi, re, st, rw, bx, sf, ud, h⟩ := h
  have hX := h.1
  have hK := h.2.2.1
  have hS := h.2.2.2.1
  have hM := h.2.1
  have r := Call_up (d' := 9) (R_references (d := 0) w hX) (by decide)
  have hrl : ∀ n ∈ rw, n < 1000000 := fun n hn => (hM.2.2.2.2.1.2.2.2 n hn).1
  have hfc := hS.rnfc hrl w
  have hin : ∀ n, fc bl co w = some n → n ∈ rw := fun n e => by
    rw [← hfc] at e
    exact (rn_mem e).1
  refine BA_read h hc r (fun T' hT' => ?_) rfl (fun _ _ => trivial)
  have n := Call_up (d' := 9) (N_references (d := 0) w hT') (by decide)
  rw [hfc, ← map_in (f := fun n => nI (us n)) (fun n e => congrArg nI (hS.2.2.1 n (hin n e)).2.2.2)] at n
  exact n
theorem T_containerOf (w : Int32) (h : LI S X m o L xs n0 u0 c T) (hc : c < 512) : BA S X m o L xs n0 u0 c 9 107 181 [.int w] cd1 noP T := by
  obtain ⟨va, ba, ca, dr, kl, vf, vn, vb, ve, vp, nx, sv, cb, us, bl, co, op, cs, hi, re, st, rw, bx, sf, ud, h⟩ := h
  have hX := h.1
  have hK := h.2.2.1
  have hS := h.2.2.2.1
  have hM := h.2.1
  have r := Call_up (d' := 9) (R_containerOf (d := 0) w hX) (by decide)
  have hrl : ∀ n ∈ rw, n < 1000000 := fun n hn => (hM.2.2.2.2.1.2.2.2 n hn).1
  have hfc := hS.rnfc hrl w
  have hin : ∀ n, fc bl co w = some n → n ∈ rw := fun n e => by
    rw [← hfc] at e
    exact (rn_mem e).1
  refine BA_read h hc r (fun T' hT' => ?_) rfl (fun _ _ => trivial)
  have n := Call_up (d' := 9) (N_containerOf (d := 0) w hT') (by decide)
  rw [hfc, ← map_in (f := fun n => nI (cOf bl co n)) (fun n e => congrArg nI (hS.1.cof (hin n e)))] at n
  exact n
theorem T_containers (h : LI S X m o L xs n0 u0 c T) (hc : c < 512) : BB S X m o L xs n0 u0 c 9 108 182 [] T := by
  obtain ⟨va, ba, ca, dr, kl, vf, vn, vb, ve, vp, nx, sv, cb, us, bl, co, op, cs, hi, re, st, rw, bx, sf, ud, h⟩ := h
  have hX := h.1
  have hK := h.2.2.1
  have hS := h.2.2.2.1
  have hM := h.2.1
  have r := Call_up (d' := 9) (R_containers (d := 0)  hX) (by decide)
  refine BB_read h hc r (fun T' hT' => ?_)
  have n := Call_up (d' := 9) (N_containers (d := 0)  hT') (by decide)
  rw [← hS.1.count (fun n hn => (hS.2.2.1 n hn).2.1)] at n
  exact n
theorem T_openContainer (h : LI S X m o L xs n0 u0 c T) (hc : c < 512) : BB S X m o L xs n0 u0 c 9 109 183 [] T := by
  obtain ⟨va, ba, ca, dr, kl, vf, vn, vb, ve, vp, nx, sv, cb, us, bl, co, op, cs, hi, re, st, rw, bx, sf, ud, h⟩ := h
  have hX := h.1
  have hK := h.2.2.1
  have hS := h.2.2.2.1
  have hM := h.2.1
  have r := Call_up (d' := 9) (R_openContainer (d := 0)  hX) (by decide)
  refine BB_read h hc r (fun T' hT' => ?_)
  have n := Call_up (d' := 9) (N_openContainer (d := 0)  hT') (by decide)
  exact n
theorem T_cached (p : Int32) (h : LI S X m o L xs n0 u0 c T) (hc : c < 512) : BA S X m o L xs n0 u0 c 9 110 184 [.int p] cd1 noP T := by
  obtain ⟨va, ba, ca, dr, kl, vf, vn, vb, ve, vp, nx, sv, cb, us, bl, co, op, cs, hi, re, st, rw, bx, sf, ud, h⟩ := h
  have hX := h.1
  have hK := h.2.2.1
  have hS := h.2.2.2.1
  have hM := h.2.1
  have r := Call_up (d' := 9) (R_cached (d := 0) p hX) (by decide)
  refine BA_read h hc r (fun T' hT' => ?_) rfl (fun _ _ => trivial)
  have n := Call_up (d' := 9) (N_cached (d := 0) p hT') (by decide)
  exact n
theorem T_cacheHits (h : LI S X m o L xs n0 u0 c T) (hc : c < 512) : BB S X m o L xs n0 u0 c 9 111 185 [] T := by
  obtain ⟨va, ba, ca, dr, kl, vf, vn, vb, ve, vp, nx, sv, cb, us, bl, co, op, cs, hi, re, st, rw, bx, sf, ud, h⟩ := h
  have hX := h.1
  have hK := h.2.2.1
  have hS := h.2.2.2.1
  have hM := h.2.1
  have r := Call_up (d' := 9) (R_cacheHits (d := 0)  hX) (by decide)
  refine BB_read h hc r (fun T' hT' => ?_)
  have n := Call_up (d' := 9) (N_cacheHits (d := 0)  hT') (by decide)
  exact n
theorem T_indexReads (h : LI S X m o L xs n0 u0 c T) (hc : c < 512) : BB S X m o L xs n0 u0 c 9 112 186 [] T := by
  obtain ⟨va, ba, ca, dr, kl, vf, vn, vb, ve, vp, nx, sv, cb, us, bl, co, op, cs, hi, re, st, rw, bx, sf, ud, h⟩ := h
  have hX := h.1
  have hK := h.2.2.1
  have hS := h.2.2.2.1
  have hM := h.2.1
  have r := Call_up (d' := 9) (R_indexReads (d := 0)  hX) (by decide)
  refine BB_read h hc r (fun T' hT' => ?_)
  have n := Call_up (d' := 9) (N_indexReads (d := 0)  hT') (by decide)
  exact n
theorem T_storedBytes (h : LI S X m o L xs n0 u0 c T) (hc : c < 512) : BB S X m o L xs n0 u0 c 9 113 189 [] T := by
  obtain ⟨va, ba, ca, dr, kl, vf, vn, vb, ve, vp, nx, sv, cb, us, bl, co, op, cs, hi, re, st, rw, bx, sf, ud, h⟩ := h
  have hX := h.1
  have hK := h.2.2.1
  have hS := h.2.2.2.1
  have hM := h.2.1
  have r := Call_up (d' := 9) (R_storedBytes (d := 0)  hX) (by decide)
  refine BB_read h hc r (fun T' hT' => ?_)
  have n := Call_up (d' := 9) (N_storedBytes (d := 0)  hT') (by decide)
  rw [← hS.1.bytes cb] at n
  exact n
theorem T_savedBytes (h : LI S X m o L xs n0 u0 c T) (hc : c < 512) : BB S X m o L xs n0 u0 c 9 114 190 [] T := by
  obtain ⟨va, ba, ca, dr, kl, vf, vn, vb, ve, vp, nx, sv, cb, us, bl, co, op, cs, hi, re, st, rw, bx, sf, ud, h⟩ := h
  have hX := h.1
  have hK := h.2.2.1
  have hS := h.2.2.2.1
  have hM := h.2.1
  have r := Call_up (d' := 9) (R_savedBytes (d := 0)  hX) (by decide)
  refine BB_read h hc r (fun T' hT' => ?_)
  have n := Call_up (d' := 9) (N_savedBytes (d := 0)  hT') (by decide)
  rw [hK.saved] at n
  exact n
theorem T_garbage (h : LI S X m o L xs n0 u0 c T) (hc : c < 512) : BB S X m o L xs n0 u0 c 9 115 191 [] T := by
  obtain ⟨va, ba, ca, dr, kl, vf, vn, vb, ve, vp, nx, sv, cb, us, bl, co, op, cs, hi, re, st, rw, bx, sf, ud, h⟩ := h
  have hX := h.1
  have hK := h.2.2.1
  have hS := h.2.2.2.1
  have hM := h.2.1
  have r := Call_up (d' := 9) (R_garbage (d := 0)  hX) (by decide)
  refine BB_read h hc r (fun T' hT' => ?_)
  have n := Call_up (d' := 9) (N_garbage (d := 0)  hT') (by decide)
  have e : gbR rw kl ve cb = _ := hS.garbage.symm
  rw [e] at n
  exact n
end RDB
