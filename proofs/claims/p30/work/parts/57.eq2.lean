/-! CLASS AND REFERENCE: why a stall draws -/
def eqZ (M Z : Nat → Int32) (n : Nat) : Prop := ∀ z, z < 39 + 8 * n → M z = Z z
theorem want_eq {M Z : Nat → Int32} {n k : Nat} (h : eqZ M Z n) (hk : k < n) : cWant M k (hrD M) = wantB Z k := by
  have h3 : hrD M = hrD Z := by unfold hrD; rw [h 3 (by omega)]
  unfold cWant wantB
  rw [h3, h _ (show 39 + 8 * k + 1 < 39 + 8 * n by omega), h _ (show 39 + 8 * k + 2 < 39 + 8 * n by omega)]
  by_cases c : Z (39 + 8 * k + 1) ≤ Z (39 + 8 * k + 2)
  · rw [if_pos c, if_neg (Int32.not_lt.mpr c)]
  · rw [if_neg c, if_pos (Int32.not_le.mp c)]
theorem brk_eq {M Z : Nat → Int32} {n q : Nat} (h : eqZ M Z n) (hb : bW Z n) (hq : q < 12) : cB M (nI q) = brk Z q := by
  have e : iN (nI q) = q := nI_iN (by omega) rfl
  unfold cB brk
  rw [e, h _ (show 27 + q < 39 + 8 * n by omega)]
  rcases hb.2.2 q hq with c | c
  · rw [if_pos c, if_neg (by rw [c]; decide)]
  · rw [if_neg (by rw [c]; decide), if_pos (by rw [c]; rfl)]
theorem cBrk_1 {M : Nat → Int32} : cBrk M (-1) = -1 := if_pos (by decide)
theorem cBrk_q {M : Nat → Int32} {q : Nat} (hq : q < 12) : cBrk M (nI q) = nI (cB M (nI q)) := by
  show (if nI q < nI 0 then -1 else if nI 12 ≤ nI q then -1 else nI (cB M (nI q))) = _
  rw [if_neg (Int32.not_lt.mpr ((n_le (a := 0) (by omega) (by omega)).mpr (by omega))), if_neg (Int32.not_le.mpr ((n_lt (by omega) (by omega)).mpr (by omega)))]
theorem src_eq {M Z : Nat → Int32} {n k : Nat} (h : eqZ M Z n) (hw : zW Z n) (hb : bW Z n) (hk : k < n) : cSrc M k = if rsn Z k = 0 then nI (brk Z (skt Z k)) else -1 := by
  have h10 := hw.1
  have e4 := h _ (show 39 + 8 * k + 4 < 39 + 8 * n by omega)
  have e5 := h _ (show 39 + 8 * k + 5 < 39 + 8 * n by omega)
  unfold cSrc rsn
  rw [want_eq h hk, e4, e5]
  by_cases c4 : Z (39 + 8 * k + 4) = -1
  · rw [c4, if_pos cBrk_1]
    by_cases cw : wantB Z k = false
    · rw [if_pos cw, if_neg (by omega)]
    · rw [if_neg cw, if_pos rfl, if_neg (by omega)]
  · have hq := skt_lt hw hk c4
    have hs := skt_eq hw hk c4
    have hbq := brk_lt (Z := Z) hq
    rw [hs, cBrk_q hq, brk_eq h hb hq, if_neg (nI_nm1 (by omega)), if_neg (nI_nm1 (by omega)), h _ (show 7 + 5 * brk Z (skt Z k) + 1 < 39 + 8 * n by omega)]
    have n1 : ¬ nI 1 = (0 : Int32) := by decide
    have n2 : ¬ (0 : Int32) = nI 1 := by decide
    have c5 : Z (39 + 8 * k + 5) = 0 ∨ Z (39 + 8 * k + 5) = nI 1 := hb.1 k hk
    by_cases cw : wantB Z k = false <;> by_cases co : Z (7 + 5 * brk Z (skt Z k) + 1) = 0 <;> rcases c5 with c | c <;> simp [cw, co, c, n1, n2]

