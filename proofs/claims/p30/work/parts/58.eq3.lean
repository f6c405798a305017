/-! CLASS AND REFERENCE: loads, who draws -/
theorem drw_eq {M Z : Nat → Int32} {n k b : Nat} (h : eqZ M Z n) (hw : zW Z n) (hb : bW Z n) (hk : k < n) (hb4 : b < 4) : (cSrc M k = nI b) ↔ drwB Z k b = true := by
  rw [src_eq h hw hb hk]
  unfold drwB onB
  by_cases c : rsn Z k = 0
  · have c4 : ¬ Z (39 + 8 * k + 4) = -1 := by
      intro q
      unfold rsn at c
      rw [if_pos q] at c
      split at c <;> omega
    have hbq := brk_lt (Z := Z) (skt_lt hw hk c4)
    rw [if_pos c, if_neg c4, decide_eq_true c, Bool.and_true, decide_eq_true_eq]
    constructor
    · intro q
      have := nI_iN (v := nI (brk Z (skt Z k))) (a := b) (by omega) q
      rw [nI_iN (v := nI (brk Z (skt Z k))) (a := brk Z (skt Z k)) (by omega) rfl] at this
      exact this
    · intro q; rw [q]
  · rw [if_neg c, decide_eq_false c, Bool.and_false]
    exact ⟨fun q => absurd q.symm (nI_nm1 (by omega)), fun q => absurd q Bool.false_ne_true⟩
theorem lod_eq {M Z : Nat → Int32} {n b : Nat} (h : eqZ M Z n) (hw : zW Z n) (hb : bW Z n) (hb4 : b < 4) : ∀ i, i ≤ n → cLod M (nI b) i = carS Z b i
  | 0, _ => rfl
  | i + 1, hi => by
    unfold cLod carS
    rw [lod_eq h hw hb hb4 i (by omega), h _ (show 39 + 8 * i + 0 < 39 + 8 * n by omega)]
    by_cases c : drwB Z i b = true
    · rw [if_pos c, if_pos ((drw_eq h hw hb (by omega) hb4).mpr c)]
    · rw [if_neg c, if_neg (fun q => c ((drw_eq h hw hb (by omega) hb4).mp q))]
theorem rsn_eq {M Z : Nat → Int32} {n k : Nat} (h : eqZ M Z n) (hw : zW Z n) (hb : bW Z n) (hk : k < n) : cRsn M k = rsn Z k := by
  have e4 := h _ (show 39 + 8 * k + 4 < 39 + 8 * n by omega)
  have e5 := h _ (show 39 + 8 * k + 5 < 39 + 8 * n by omega)
  have h10 := hw.1
  unfold cRsn rsn
  rw [want_eq h hk, e4, e5]
  by_cases c4 : Z (39 + 8 * k + 4) = -1
  · rw [c4, if_pos cBrk_1]; simp
  · have hq := skt_lt hw hk c4
    have hs := skt_eq hw hk c4
    have hbq := brk_lt (Z := Z) hq
    rw [hs, cBrk_q hq, brk_eq h hb hq, if_neg (nI_nm1 (by omega)), if_neg (nI_nm1 (by omega)), h _ (show 7 + 5 * brk Z (skt Z k) + 1 < 39 + 8 * n by omega)]
    have n1 : ¬ nI 1 = (0 : Int32) := by decide
    have n2 : ¬ (0 : Int32) = nI 1 := by decide
    have c5 : Z (39 + 8 * k + 5) = 0 ∨ Z (39 + 8 * k + 5) = nI 1 := hb.1 k hk
    rcases c5 with c | c <;> simp [c, n1, n2]
theorem ss_eq {M Z : Nat → Int32} {n j : Nat} (h : eqZ M Z n) (hj : j < 8) : ∀ i, i ≤ n → cSs M j i = sumS Z j i
  | 0, _ => rfl
  | i + 1, hi => by
    unfold cSs sumS tldS
    rw [ss_eq h hj i (by omega), if_pos hj, h _ (show 39 + 8 * i + j < 39 + 8 * n by omega)]
theorem sb_eq {M Z : Nat → Int32} {n j : Nat} (h : eqZ M Z n) (hj : j < 5) : ∀ i, i ≤ 4 → cSb M j i = sumB Z j i
  | 0, _ => rfl
  | i + 1, hi => by
    unfold cSb sumB
    rw [sb_eq h hj i (by omega), h _ (show 7 + 5 * i + j < 39 + 8 * n by omega)]
theorem fee_eq {M Z : Nat → Int32} {n k : Nat} (h : eqZ M Z n) (hk : k < n) : cFee M k = feeI Z k := by
  unfold cFee feeI
  rw [h _ (show 39 + 8 * k + 6 < 39 + 8 * n by omega), h _ (show 0 + 2 < 39 + 8 * n by omega)]
theorem fees_eq {M Z : Nat → Int32} {n : Nat} (h : eqZ M Z n) : ∀ i, i ≤ n → cFees M i = sumS Z 9 i
  | 0, _ => rfl
  | i + 1, hi => by
    unfold cFees sumS tldS
    rw [fees_eq h i (by omega), fee_eq h (by omega), if_neg (by omega), if_neg (by omega)]

