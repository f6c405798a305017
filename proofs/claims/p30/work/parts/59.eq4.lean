/-! CLASS AND REFERENCE: counts -/
theorem drs_eq {M Z : Nat → Int32} {n b : Nat} (h : eqZ M Z n) (hw : zW Z n) (hb : bW Z n) (hb4 : b < 4) : ∀ i, i ≤ n → nI (cDrw M (nI b) i) = drS Z b i
  | 0, _ => rfl
  | i + 1, hi => by
    unfold cDrw drS
    rw [← drs_eq h hw hb hb4 i (by omega), ← nI_add]
    by_cases c : drwB Z i b = true
    · rw [if_pos c, if_pos ((drw_eq h hw hb (by omega) hb4).mpr c)]
    · rw [if_neg c, if_neg (fun q => c ((drw_eq h hw hb (by omega) hb4).mp q))]
theorem plg_eq {M Z : Nat → Int32} {n : Nat} (h : eqZ M Z n) : ∀ i, i ≤ n → nI (cPlg M i) = plgS Z i
  | 0, _ => rfl
  | i + 1, hi => by
    unfold cPlg plgS
    rw [← plg_eq h i (by omega), ← nI_add, h _ (show 39 + 8 * i + 4 < 39 + 8 * n by omega)]
    by_cases c : Z (39 + 8 * i + 4) = -1
    · rw [if_pos c, if_pos c]
    · rw [if_neg c, if_neg c]
theorem brq_eq {M Z : Nat → Int32} {n q : Nat} (h : eqZ M Z n) (hb : bW Z n) (hq : q < 12) : cBrk M (nI q) = nI (brk Z q) := by rw [cBrk_q hq, brk_eq h hb hq]
theorem on_eq {M Z : Nat → Int32} {n k b : Nat} (h : eqZ M Z n) (hw : zW Z n) (hb : bW Z n) (hk : k < n) (hb4 : b < 4) : (cBrk M (M (39 + 8 * k + 4)) = nI b) ↔ onB Z k b = true := by
  rw [h _ (show 39 + 8 * k + 4 < 39 + 8 * n by omega)]
  unfold onB
  by_cases c4 : Z (39 + 8 * k + 4) = -1
  · rw [if_pos c4, c4, cBrk_1]
    exact ⟨fun q => absurd q.symm (nI_nm1 (by omega)), fun q => absurd q Bool.false_ne_true⟩
  · have hq := skt_lt hw hk c4
    have hbq := brk_lt (Z := Z) hq
    rw [if_neg c4, skt_eq hw hk c4, brq_eq h hb hq, decide_eq_true_eq]
    constructor
    · intro q
      have := nI_iN (v := nI (brk Z (skt Z k))) (a := b) (by omega) q
      rw [nI_iN (v := nI (brk Z (skt Z k))) (a := brk Z (skt Z k)) (by omega) rfl] at this
      exact this
    · intro q; rw [q]
theorem lpl_eq {M Z : Nat → Int32} {n b : Nat} (h : eqZ M Z n) (hw : zW Z n) (hb : bW Z n) (hb4 : b < 4) : ∀ i, i ≤ n → cLpl M (nI b) i = allS Z b i
  | 0, _ => rfl
  | i + 1, hi => by
    unfold cLpl allS
    have e := on_eq h hw hb (show i < n by omega) hb4
    rw [lpl_eq h hw hb hb4 i (by omega), h _ (show 39 + 8 * i + 0 < 39 + 8 * n by omega), h _ (show 39 + 8 * i + 5 < 39 + 8 * n by omega)]
    by_cases c : (onB Z i b && decide (Z (39 + 8 * i + 5) = 0)) = true
    · rw [if_pos c]
      rw [Bool.and_eq_true, decide_eq_true_eq] at c
      rw [if_pos ⟨c.2, e.mpr c.1⟩]
    · rw [if_neg c, if_neg (fun q => c (by rw [Bool.and_eq_true, decide_eq_true_eq]; exact ⟨e.mp q.2, q.1⟩))]; rfl

