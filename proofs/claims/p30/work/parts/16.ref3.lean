/-! THE REFERENCE: an hour, sums, what is put aside -/
def htZ (Z : Nat → Int32) (b n : Nat) : Int32 := if Z (7 + 5 * b + 1) = nI 1 ∧ 0 < carS Z b n - Z (7 + 5 * b + 0) then Z (7 + 5 * b + 2) + (carS Z b n - Z (7 + 5 * b + 0)) / nI 10 + nI 1 else if Z (7 + 5 * b + 2) < Z 0 then nI 0 else Z (7 + 5 * b + 2) - Z 0
def wr1 (Z : Nat → Int32) (b n : Nat) : Nat → Int32 := upd Z (7 + 5 * b + 2) (htZ Z b n)
def warmZ (Z : Nat → Int32) (b n : Nat) : Nat → Int32 := upd (wr1 Z b n) (7 + 5 * b + 4) (wr1 Z b n (7 + 5 * b + 4) + carS (wr1 Z b n) b n)
def mt1 (Z : Nat → Int32) (k : Nat) : Nat → Int32 := upd Z (39 + 8 * k + 6) (Z (39 + 8 * k + 6) + (if rsn Z k = 0 then Z (39 + 8 * k + 0) else nI 0))
def mt2 (Z : Nat → Int32) (k : Nat) : Nat → Int32 := upd (mt1 Z k) (39 + 8 * k + 7) (mt1 Z k (39 + 8 * k + 7) + (if 1 < rsn Z k then nI 1 else nI 0))
def meterZ (Z : Nat → Int32) (k : Nat) : Nat → Int32 := upd (mt2 Z k) 6 (mt2 Z k 6 + (if rsn Z k = 0 then nI 1 else nI 0))
theorem wr1_zW {Z : Nat → Int32} {b n : Nat} (h : zW Z n) (hb : b < 4) : zW (wr1 Z b n) n := zW_upd h (by omega) (fun _ _ => by omega) (fun _ _ => by omega)
theorem warmZ_zW {Z : Nat → Int32} {b n : Nat} (h : zW Z n) (hb : b < 4) : zW (warmZ Z b n) n := zW_upd (wr1_zW h hb) (by omega) (fun _ _ => by omega) (fun _ _ => by omega)
theorem meterZ_zW {Z : Nat → Int32} {k n : Nat} (h : zW Z n) : zW (meterZ Z k) n := zW_upd (zW_upd (zW_upd h (by omega) (fun _ _ => by omega) (fun _ _ => by omega)) (by omega) (fun _ _ => by omega) (fun _ _ => by omega)) (by omega) (fun _ _ => by omega) (fun _ _ => by omega)
def shdS (Z : Nat → Int32) (n : Nat) : Nat → (Nat → Int32)
  | 0 => Z
  | b + 1 => shdZ (shdS Z n b) b n
def warmS (Z : Nat → Int32) (n : Nat) : Nat → (Nat → Int32)
  | 0 => Z
  | b + 1 => warmZ (warmS Z n b) b n
def metS (Z : Nat → Int32) : Nat → (Nat → Int32)
  | 0 => Z
  | k + 1 => meterZ (metS Z k) k
def trC (Z : Nat → Int32) (b : Nat) : Bool := decide (Z (7 + 5 * b + 1) = nI 1) && decide (nI 9 < Z (7 + 5 * b + 2))
def tr1 (Z : Nat → Int32) (b : Nat) : Nat → Int32 := upd (upd Z (7 + 5 * b + 1) (nI 0)) (7 + 5 * b + 3) ((upd Z (7 + 5 * b + 1) (nI 0)) (7 + 5 * b + 3) + nI 1)
def tripZ (Z : Nat → Int32) : Nat → (Nat → Int32)
  | 0 => Z
  | b + 1 => if trC (tripZ Z b) b = true then tr1 (tripZ Z b) b else tripZ Z b
def tripT (Z : Nat → Int32) : Nat → Int32
  | 0 => 0
  | b + 1 => if trC (tripZ Z b) b = true then tripT Z b + nI 1 else tripT Z b
theorem shdS_zW {Z : Nat → Int32} {n : Nat} (h : zW Z n) : ∀ i, zW (shdS Z n i) n
  | 0 => h
  | i + 1 => shdZ_zW (shdS_zW h i)
theorem warmS_zW {Z : Nat → Int32} {n : Nat} (h : zW Z n) : ∀ i, i ≤ 4 → zW (warmS Z n i) n
  | 0, _ => h
  | i + 1, hi => warmZ_zW (warmS_zW h i (by omega)) (by omega)
theorem metS_zW {Z : Nat → Int32} {n : Nat} (h : zW Z n) : ∀ i, zW (metS Z i) n
  | 0 => h
  | i + 1 => meterZ_zW (metS_zW h i)
theorem tr1_zW {Z : Nat → Int32} {b n : Nat} (h : zW Z n) (hb : b < 4) : zW (tr1 Z b) n := zW_upd (zW_upd h (by omega) (fun _ _ => by omega) (fun _ _ => by omega)) (by omega) (fun _ _ => by omega) (fun _ _ => by omega)
theorem tripZ_zW {Z : Nat → Int32} {n : Nat} (h : zW Z n) : ∀ i, i ≤ 4 → zW (tripZ Z i) n
  | 0, _ => h
  | i + 1, hi => by
    unfold tripZ
    split
    · exact tr1_zW (tripZ_zW h i (by omega)) (by omega)
    · exact tripZ_zW h i (by omega)
/-- the row when the hour has gone by, but for the trips and the hour -/
def hrA (Z : Nat → Int32) (n : Nat) : Nat → Int32 := metS (warmS (shdS Z n 4) n 4) n
def hrZ (Z : Nat → Int32) (n : Nat) : Nat → Int32 := upd (tripZ (hrA Z n) 4) 3 (tripZ (hrA Z n) 4 3 + nI 1)
def hrT (Z : Nat → Int32) (n : Nat) : Int32 := tripT (hrA Z n) 4
theorem hrA_zW {Z : Nat → Int32} {n : Nat} (h : zW Z n) : zW (hrA Z n) n := metS_zW (warmS_zW (shdS_zW h 4) 4 (Nat.le_refl 4)) n
theorem hrZ_zW {Z : Nat → Int32} {n : Nat} (h : zW Z n) : zW (hrZ Z n) n := zW_upd (tripZ_zW (hrA_zW h) 4 (Nat.le_refl 4)) (by omega) (fun _ _ => by omega) (fun _ _ => by omega)
def hsZ (Z : Nat → Int32) (n : Nat) : Nat → (Nat → Int32)
  | 0 => Z
  | i + 1 => hrZ (hsZ Z n i) n
def hsT (Z : Nat → Int32) (n : Nat) : Nat → Int32
  | 0 => 0
  | i + 1 => hsT Z n i + hrT (hsZ Z n i) n
theorem hsZ_zW {Z : Nat → Int32} {n : Nat} (h : zW Z n) : ∀ i, zW (hsZ Z n i) n
  | 0 => h
  | i + 1 => hrZ_zW (hsZ_zW h i)
def comeZ (Z : Nat → Int32) (n : Nat) (a0 a1 a2 a3 : Int32) : Nat → Int32 := upd (upd (upd (upd (upd (upd (upd (upd (upd Z (39 + 8 * n + 0) a0) (39 + 8 * n + 1) a1) (39 + 8 * n + 2) a2) (39 + 8 * n + 3) a3) (39 + 8 * n + 4) (-1)) (39 + 8 * n + 5) (nI 0)) (39 + 8 * n + 6) (nI 0)) (39 + 8 * n + 7) (nI 0)) 4 (nI (n + 1))
theorem va_up_up {α : Type} (f : Nat → α) (k : Nat) (a b : α) : va_up (va_up f k a) k b = va_up f k b := by
  funext j; unfold va_up; split <;> rfl
theorem va_up_id {α : Type} (f : Nat → α) (k : Nat) : va_up f k (f k) = f := by
  funext j; unfold va_up; split
  · rename_i h; rw [h]
  · rfl
theorem upd_upd (f : Nat → Int32) (k : Nat) (a b : Int32) : upd (upd f k a) k b = upd f k b := by
  funext j; unfold upd; split <;> rfl
def svn (q : Nat) : Nat := if q = 6 then 6 else q + 1
def satN (Z : Nat → Int32) (q : Int32) : Nat → Nat
  | 0 => 10
  | i + 1 => if Z (39 + 8 * i + 4) = q then i else satN Z q i
theorem satN_t {Z : Nat → Int32} {q : Int32} {i : Nat} (h : Z (39 + 8 * i + 4) = q) : satN Z q (i + 1) = i := if_pos h
theorem satN_f {Z : Nat → Int32} {q : Int32} {i : Nat} (h : ¬ Z (39 + 8 * i + 4) = q) : satN Z q (i + 1) = satN Z q i := if_neg h
def drS (Z : Nat → Int32) (b : Nat) : Nat → Int32
  | 0 => 0
  | i + 1 => drS Z b i + (if drwB Z i b = true then nI 1 else nI 0)
def drA (Z : Nat → Int32) : Nat → Int32
  | 0 => 0
  | i + 1 => drA Z i + (if rsn Z i = 0 then nI 1 else nI 0)
def feeI (Z : Nat → Int32) (k : Nat) : Int32 := Z (39 + 8 * k + 6) * Z 2 / nI 10
def tldS (Z : Nat → Int32) (k w : Nat) : Int32 := if w < 8 then Z (39 + 8 * k + w) else if w = 8 then nI (rsn Z k) else feeI Z k
def allS (Z : Nat → Int32) (b : Nat) : Nat → Int32
  | 0 => 0
  | i + 1 => allS Z b i + (if (onB Z i b && decide (Z (39 + 8 * i + 5) = 0)) = true then Z (39 + 8 * i + 0) else nI 0)
def tldB (Z : Nat → Int32) (b n w : Nat) : Int32 := if w = 3 then carS Z b n else if w = 4 then allS Z b n else if w < 3 then Z (7 + 5 * b + w) else Z (7 + 5 * b + (w - 2))
def sumS (Z : Nat → Int32) (w : Nat) : Nat → Int32
  | 0 => 0
  | i + 1 => sumS Z w i + tldS Z i w
def sumB (Z : Nat → Int32) (w : Nat) : Nat → Int32
  | 0 => 0
  | i + 1 => sumB Z w i + Z (7 + 5 * i + w)
def plgS (Z : Nat → Int32) : Nat → Int32
  | 0 => 0
  | i + 1 => plgS Z i + (if Z (39 + 8 * i + 4) = -1 then nI 0 else nI 1)
def cntD (Z : Nat → Int32) (sm : Int32) (n w : Nat) : Int32 := if w = 0 then Z 3 else if w = 1 then Z 4 else if w = 2 then plgS Z n else if w = 3 then drA Z n else if w = 4 then sumB Z 1 4 else if w = 5 then sumS Z 6 n else if w = 6 then sumB Z 4 4 else if w = 7 then sumB Z 3 4 else if w = 8 then sumS Z 7 n else if w = 9 then sumS Z 9 n else if w = 10 then Z 5 else sm
def tknB (Z : Nat → Int32) (n a : Nat) (q : Int32) : Bool := decide (¬ ox (satN Z q n) = -1) && decide (¬ ox (satN Z q n) = nI a)
