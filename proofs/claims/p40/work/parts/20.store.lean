/-! what the store says behind each change: printed -/
theorem tn_sI (f a : Nat) (v : Int32) (T : TS) : tn (sI f a v T) = tn T := rfl
theorem tu_sI (f a : Nat) (v : Int32) (T : TS) : tu (sI f a v T) = tu T := rfl
theorem tK_sI (f a : Nat) (v : Int32) (T : TS) : tK (sI f a v T) = tK T := rfl
theorem tI_sI (f a : Nat) (v : Int32) (T : TS) : tI (sI f a v T) = up2 (tI T) f a v := rfl
theorem tR_sI (f a : Nat) (v : Int32) (T : TS) : tR (sI f a v T) = tR T := rfl
theorem tA_sI (f a : Nat) (v : Int32) (T : TS) : tA (sI f a v T) = tA T := rfl
theorem tl_sI (f a : Nat) (v : Int32) (T : TS) : tl (sI f a v T) = tl T := rfl
theorem tJ_sI (f a : Nat) (v : Int32) (T : TS) : tJ (sI f a v T) = tJ T := rfl
theorem tL_sI (f a : Nat) (v : Int32) (T : TS) : tL (sI f a v T) = tL T := rfl
theorem tc_sI (f a : Nat) (v : Int32) (T : TS) : tc (sI f a v T) = tc T := rfl
theorem tn_sR (f a : Nat) (v : Option Nat) (T : TS) : tn (sR f a v T) = tn T := rfl
theorem tu_sR (f a : Nat) (v : Option Nat) (T : TS) : tu (sR f a v T) = tu T := rfl
theorem tK_sR (f a : Nat) (v : Option Nat) (T : TS) : tK (sR f a v T) = tK T := rfl
theorem tI_sR (f a : Nat) (v : Option Nat) (T : TS) : tI (sR f a v T) = tI T := rfl
theorem tR_sR (f a : Nat) (v : Option Nat) (T : TS) : tR (sR f a v T) = up2 (tR T) f a v := rfl
theorem tA_sR (f a : Nat) (v : Option Nat) (T : TS) : tA (sR f a v T) = tA T := rfl
theorem tl_sR (f a : Nat) (v : Option Nat) (T : TS) : tl (sR f a v T) = tl T := rfl
theorem tJ_sR (f a : Nat) (v : Option Nat) (T : TS) : tJ (sR f a v T) = tJ T := rfl
theorem tL_sR (f a : Nat) (v : Option Nat) (T : TS) : tL (sR f a v T) = tL T := rfl
theorem tc_sR (f a : Nat) (v : Option Nat) (T : TS) : tc (sR f a v T) = tc T := rfl
theorem tn_sA (a i : Nat) (v : Int32) (T : TS) : tn (sA a i v T) = tn T := rfl
theorem tu_sA (a i : Nat) (v : Int32) (T : TS) : tu (sA a i v T) = tu T := rfl
theorem tK_sA (a i : Nat) (v : Int32) (T : TS) : tK (sA a i v T) = tK T := rfl
theorem tI_sA (a i : Nat) (v : Int32) (T : TS) : tI (sA a i v T) = tI T := rfl
theorem tR_sA (a i : Nat) (v : Int32) (T : TS) : tR (sA a i v T) = tR T := rfl
theorem tA_sA (a i : Nat) (v : Int32) (T : TS) : tA (sA a i v T) = up2 (tA T) a i v := rfl
theorem tl_sA (a i : Nat) (v : Int32) (T : TS) : tl (sA a i v T) = tl T := rfl
theorem tJ_sA (a i : Nat) (v : Int32) (T : TS) : tJ (sA a i v T) = tJ T := rfl
theorem tL_sA (a i : Nat) (v : Int32) (T : TS) : tL (sA a i v T) = tL T := rfl
theorem tc_sA (a i : Nat) (v : Int32) (T : TS) : tc (sA a i v T) = tc T := rfl
theorem tn_sJ (a i : Nat) (v : Int64) (T : TS) : tn (sJ a i v T) = tn T := rfl
theorem tu_sJ (a i : Nat) (v : Int64) (T : TS) : tu (sJ a i v T) = tu T := rfl
theorem tK_sJ (a i : Nat) (v : Int64) (T : TS) : tK (sJ a i v T) = tK T := rfl
theorem tI_sJ (a i : Nat) (v : Int64) (T : TS) : tI (sJ a i v T) = tI T := rfl
theorem tR_sJ (a i : Nat) (v : Int64) (T : TS) : tR (sJ a i v T) = tR T := rfl
theorem tA_sJ (a i : Nat) (v : Int64) (T : TS) : tA (sJ a i v T) = tA T := rfl
theorem tl_sJ (a i : Nat) (v : Int64) (T : TS) : tl (sJ a i v T) = tl T := rfl
theorem tJ_sJ (a i : Nat) (v : Int64) (T : TS) : tJ (sJ a i v T) = up2 (tJ T) a i v := rfl
theorem tL_sJ (a i : Nat) (v : Int64) (T : TS) : tL (sJ a i v T) = tL T := rfl
theorem tc_sJ (a i : Nat) (v : Int64) (T : TS) : tc (sJ a i v T) = tc T := rfl
theorem tn_nO (c : Nat) (T : TS) : tn (nO c T) = tn T + 1 := rfl
theorem tu_nO (c : Nat) (T : TS) : tu (nO c T) = tu T + NN c := rfl
theorem tK_nO (c : Nat) (T : TS) : tK (nO c T) = up1 (tK T) (tn T) (c + 1) := rfl
theorem tI_nO (c : Nat) (T : TS) : tI (nO c T) = (fun f a => if a = tn T then 0 else tI T f a) := rfl
theorem tR_nO (c : Nat) (T : TS) : tR (nO c T) = (fun f a => if a = tn T then none else tR T f a) := rfl
theorem tA_nO (c : Nat) (T : TS) : tA (nO c T) = tA T := rfl
theorem tl_nO (c : Nat) (T : TS) : tl (nO c T) = tl T := rfl
theorem tJ_nO (c : Nat) (T : TS) : tJ (nO c T) = tJ T := rfl
theorem tL_nO (c : Nat) (T : TS) : tL (nO c T) = tL T := rfl
theorem tc_nO (c : Nat) (T : TS) : tc (nO c T) = tc T := rfl
theorem tn_nA (k n : Nat) (T : TS) : tn (nA k n T) = tn T + 1 := rfl
theorem tu_nA (k n : Nat) (T : TS) : tu (nA k n T) = tu T + n := rfl
theorem tK_nA (k n : Nat) (T : TS) : tK (nA k n T) = up1 (tK T) (tn T) k := rfl
theorem tI_nA (k n : Nat) (T : TS) : tI (nA k n T) = tI T := rfl
theorem tR_nA (k n : Nat) (T : TS) : tR (nA k n T) = tR T := rfl
theorem tA_nA (k n : Nat) (T : TS) : tA (nA k n T) = up1 (tA T) (tn T) (fun _ => 0) := rfl
theorem tl_nA (k n : Nat) (T : TS) : tl (nA k n T) = up1 (tl T) (tn T) n := rfl
theorem tJ_nA (k n : Nat) (T : TS) : tJ (nA k n T) = up1 (tJ T) (tn T) (fun _ => 0) := rfl
theorem tL_nA (k n : Nat) (T : TS) : tL (nA k n T) = tL T := rfl
theorem tc_nA (k n : Nat) (T : TS) : tc (nA k n T) = tc T := rfl
theorem tn_nX  (T : TS) : tn (nX  T) = tn T + 1 := rfl
theorem tu_nX  (T : TS) : tu (nX  T) = tu T + 6 := rfl
theorem tK_nX  (T : TS) : tK (nX  T) = tK T := rfl
theorem tI_nX  (T : TS) : tI (nX  T) = tI T := rfl
theorem tR_nX  (T : TS) : tR (nX  T) = tR T := rfl
theorem tA_nX  (T : TS) : tA (nX  T) = tA T := rfl
theorem tl_nX  (T : TS) : tl (nX  T) = tl T := rfl
theorem tJ_nX  (T : TS) : tJ (nX  T) = tJ T := rfl
theorem tL_nX  (T : TS) : tL (nX  T) = tL T := rfl
theorem tc_nX  (T : TS) : tc (nX  T) = tc T := rfl
theorem tn_sL (a : Nat) (xs : List Nat) (T : TS) : tn (sL a xs T) = tn T := rfl
theorem tu_sL (a : Nat) (xs : List Nat) (T : TS) : tu (sL a xs T) = tu T := rfl
theorem tK_sL (a : Nat) (xs : List Nat) (T : TS) : tK (sL a xs T) = tK T := rfl
theorem tI_sL (a : Nat) (xs : List Nat) (T : TS) : tI (sL a xs T) = tI T := rfl
theorem tR_sL (a : Nat) (xs : List Nat) (T : TS) : tR (sL a xs T) = tR T := rfl
theorem tA_sL (a : Nat) (xs : List Nat) (T : TS) : tA (sL a xs T) = tA T := rfl
theorem tl_sL (a : Nat) (xs : List Nat) (T : TS) : tl (sL a xs T) = tl T := rfl
theorem tJ_sL (a : Nat) (xs : List Nat) (T : TS) : tJ (sL a xs T) = tJ T := rfl
theorem tL_sL (a : Nat) (xs : List Nat) (T : TS) : tL (sL a xs T) = up1 (tL T) a xs := rfl
theorem tc_sL (a : Nat) (xs : List Nat) (T : TS) : tc (sL a xs T) = tc T := rfl
theorem tn_nL (a : Nat) (T : TS) : tn (nL a T) = tn T := rfl
theorem tu_nL (a : Nat) (T : TS) : tu (nL a T) = tu T := rfl
theorem tK_nL (a : Nat) (T : TS) : tK (nL a T) = up1 (tK T) a 23 := rfl
theorem tI_nL (a : Nat) (T : TS) : tI (nL a T) = tI T := rfl
theorem tR_nL (a : Nat) (T : TS) : tR (nL a T) = tR T := rfl
theorem tA_nL (a : Nat) (T : TS) : tA (nL a T) = tA T := rfl
theorem tl_nL (a : Nat) (T : TS) : tl (nL a T) = tl T := rfl
theorem tJ_nL (a : Nat) (T : TS) : tJ (nL a T) = tJ T := rfl
theorem tL_nL (a : Nat) (T : TS) : tL (nL a T) = up1 (tL T) a [] := rfl
theorem tc_nL (a : Nat) (T : TS) : tc (nL a T) = up1 (tc T) a 0 := rfl
theorem tn_gL (a c : Nat) (T : TS) : tn (gL a c T) = tn T + 1 := rfl
theorem tu_gL (a c : Nat) (T : TS) : tu (gL a c T) = tu T + c := rfl
theorem tK_gL (a c : Nat) (T : TS) : tK (gL a c T) = tK T := rfl
theorem tI_gL (a c : Nat) (T : TS) : tI (gL a c T) = tI T := rfl
theorem tR_gL (a c : Nat) (T : TS) : tR (gL a c T) = tR T := rfl
theorem tA_gL (a c : Nat) (T : TS) : tA (gL a c T) = tA T := rfl
theorem tl_gL (a c : Nat) (T : TS) : tl (gL a c T) = tl T := rfl
theorem tJ_gL (a c : Nat) (T : TS) : tJ (gL a c T) = tJ T := rfl
theorem tL_gL (a c : Nat) (T : TS) : tL (gL a c T) = tL T := rfl
theorem tc_gL (a c : Nat) (T : TS) : tc (gL a c T) = up1 (tc T) a c := rfl
theorem vrf_s (a : Nat) : va_rf (some a) = .ref a := rfl
theorem vrf_n : va_rf none = .null := rfl
theorem lit_0 : (0 : Int32) = 0 := rfl
theorem one_ne_0 : ¬ (1 : Int32) = 0 := by decide
theorem zero_ne_1 : ¬ (0 : Int32) = 1 := by decide
theorem inb {k n : Nat} (h : k < n) (hn : n < 2 ^ 31) : ¬ (nI k < 0 ∨ n ≤ (nI k).toNatClampNeg) := nI_in h hn
theorem rng {k : Nat} (h : k < 2 ^ 31) : (nI k).toNatClampNeg = k := nI_clamp h
