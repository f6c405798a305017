/-! THE CLASS: the digest -/
def xI (X : Nat → Nat → Int32) (n k : Nat) : Nat → Nat → Int32 := if cTk (X 0) n (nI k) (nI 10) = true then X else va_up X 1 (cIfM X n k (nI 10) 12)
def xP (X : Nat → Nat → Int32) (n k : Nat) : Nat → (Nat → Nat → Int32)
  | 0 => X
  | i + 1 => xI (xP X n k i) n k
def xB (X : Nat → Nat → Int32) (n k : Nat) : Nat → Nat → Int32 := va_up X 1 (cBs X n k 12).2.2.2.2
def xS (X : Nat → Nat → Int32) (n : Nat) : Nat → (Nat → Nat → Int32)
  | 0 => X
  | i + 1 => xB (xP (xS X n i) n i 3) n i
def xT (X : Nat → Nat → Int32) (n b : Nat) : Nat → Nat → Int32 := va_up X 1 (cHs (cCp (X 1) (X 0) n) n (cTi (cCp (X 1) (X 0) n) n b 98 0).2)
def xQ (X : Nat → Nat → Int32) (n : Nat) : Nat → (Nat → Nat → Int32)
  | 0 => X
  | b + 1 => xT (xQ X n b) n b
theorem xI_0 (X : Nat → Nat → Int32) (n k : Nat) : xI X n k 0 = X 0 := by unfold xI; split; rfl; exact va_up_ne _ _ (by omega)
theorem xP_0 (X : Nat → Nat → Int32) (n k : Nat) : ∀ i, xP X n k i 0 = X 0
  | 0 => rfl
  | i + 1 => (xI_0 _ _ _).trans (xP_0 X n k i)
theorem xB_0 (X : Nat → Nat → Int32) (n k : Nat) : xB X n k 0 = X 0 := va_up_ne _ _ (by omega)
theorem xS_0 (X : Nat → Nat → Int32) (n : Nat) : ∀ i, xS X n i 0 = X 0
  | 0 => rfl
  | i + 1 => (xB_0 _ _ _).trans ((xP_0 _ _ _ 3).trans (xS_0 X n i))
theorem xQ_0 (X : Nat → Nat → Int32) (n : Nat) : ∀ i, xQ X n i 0 = X 0
  | 0 => rfl
  | i + 1 => (va_up_ne _ _ (by omega) : xT (xQ X n i) n i 0 = xQ X n i 0).trans (xQ_0 X n i)
def dC (M : Nat → Int32) (n sz : Nat) : Nat → Int64
  | 0 => 3089
  | i + 1 => mxH (dC M n sz i) (Int32.toInt64 (cCnt M n sz i))
def dS (M : Nat → Int32) (h : Int64) : Nat → Int64
  | 0 => h
  | i + 1 => mxH (dS M h i) (Int32.toInt64 (M (0 + i)))
def dT (M : Nat → Int32) (k : Nat) (h : Int64) : Nat → Int64
  | 0 => h
  | i + 1 => mxH (dT M k h i) (Int32.toInt64 (cSto M k i))
def dI (X : Nat → Nat → Int32) (n k : Nat) (h : Int64) : Nat → Int64
  | 0 => h
  | i + 1 => mxH (dI X n k h i) (Int32.toInt64 (cIfR (xP X n k i) n k (nI 10) 12 i))
def dK (X : Nat → Nat → Int32) (n : Nat) (h : Int64) : Nat → Int64
  | 0 => h
  | i + 1 => mxH (dI (xS X n i) n i (dT (xS X n i 0) i (dK X n h i) 10) 3) (Int32.toInt64 (cBs (xP (xS X n i) n i 3) n i 12).1)
def dB (M : Nat → Int32) (n b : Nat) (h : Int64) : Nat → Int64
  | 0 => h
  | i + 1 => mxH (dB M n b h i) (Int32.toInt64 (cBre M n b i))
def dR (X : Nat → Nat → Int32) (n : Nat) (h : Int64) : Nat → Int64
  | 0 => h
  | b + 1 => mxH (dB (xQ X n b 0) n b (dR X n h b) 7) (Int32.toInt64 (cTi (cCp (xQ X n b 1) (xQ X n b 0) n) n b 98 0).1)
def dO (M : Nat → Int32) (n q : Nat) (h : Int64) : Nat → Int64
  | 0 => h
  | i + 1 => mxH (dO M n q h i) (Int32.toInt64 (if i = 0 then cBrk M (nI q) else cAt M (nI q) n 11 0))
def dQ (M : Nat → Int32) (n : Nat) (h : Int64) : Nat → Int64
  | 0 => h
  | i + 1 => dO M n i (dQ M n h i) 2
def dP (K : Nat → Int32) (h : Int64) : Nat → Int64
  | 0 => h
  | i + 1 => mxH (dP K h i) (kpL (K i))
