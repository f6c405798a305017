/-! THE CLASS: the orders of a plan done -/
theorem pD_in {B : Nat → Int32} {tn p : Nat} (h : ¬ pD B tn p = -1) : inB (pD B tn p) (nI 0) (nI 9) = true := by
  unfold pD at h ⊢
  by_cases c1 : p < tn
  · rw [if_pos c1] at h ⊢
    by_cases c2 : B p < nI 48
    · rw [if_pos c2] at h; exact absurd rfl h
    · rw [if_neg c2] at h ⊢
      by_cases c3 : B p ≤ nI 57
      · rw [if_pos c3]
        have q := inB_n (v := B p) (lo := 48) (hi := 57) (by decide) (by decide) (by unfold inB; rw [Bool.and_eq_true, decide_eq_true_eq, decide_eq_true_eq]; exact ⟨Int32.not_lt.mp c2, c3⟩)
        have e : B p - nI 48 = nI (iN (B p) - 48) := by
          rw [show B p = nI (iN (B p) - 48) + nI 48 from by rw [nI_add, show iN (B p) - 48 + 48 = iN (B p) by omega]; exact q.1]
          rw [Int32.add_sub_cancel, nI_iN (v := nI (iN (B p) - 48) + nI 48) (a := iN (B p)) (by omega) (by rw [nI_add, show iN (B p) - 48 + 48 = iN (B p) by omega])]
        rw [e]
        exact inB_of (by omega) (by decide) (by decide) (by omega) (by omega)
      · rw [if_neg c3] at h; exact absurd rfl h
  · rw [if_neg c1] at h; exact absurd rfl h
theorem pC_in {B : Nat → Int32} {tn p : Nat} {v : Int32} {lo hi : Nat} (hlo : lo ≤ 9) (h9 : 9 ≤ hi) (hhi : hi ≤ 500) (hv : inB v (nI lo) (nI hi) = true) (h : pC B tn (nI hi) v p = true) : inB (nI 10 * v + pD B tn p) (nI lo) (nI hi) = true := by
  unfold pC at h
  simp only [Bool.and_eq_true, decide_eq_true_eq, Bool.not_eq_true', decide_eq_false_iff_not] at h
  obtain ⟨⟨⟨-, h1⟩, h2⟩, h3⟩ := h
  have q1 := inB_n (by omega) (by omega) hv
  have q2 := inB_n (by omega) (by omega) (pD_in h2)
  rw [q1.1] at h1 h3 ⊢
  rw [q2.1] at h3 ⊢
  have h1' : nI 0 < nI (iN v) := h1
  rw [n_lt (by omega) (by omega)] at h1'
  rw [n_mul, nI_add] at h3 ⊢
  rw [n_le (by omega) (by omega)] at h3
  exact inB_of (by omega) (by omega) (by omega) (by omega) h3
theorem pL_in {B : Nat → Int32} {tn : Nat} {lo hi : Nat} (hlo : lo ≤ 9) (h9 : 9 ≤ hi) (hhi : hi ≤ 500) : ∀ f v p, inB v (nI lo) (nI hi) = true → inB (pL B tn (nI hi) f v p).1 (nI lo) (nI hi) = true
  | 0, _, _, h => h
  | f + 1, v, p, h => by
    unfold pL
    by_cases c : pC B tn (nI hi) v p = true
    · rw [if_pos c]; exact pL_in hlo h9 hhi f _ _ (pC_in hlo h9 hhi h c)
    · rw [if_neg c]; exact h
theorem pN_in {B : Nat → Int32} {tn p lo hi : Nat} (hlo : lo ≤ 9) (h9 : 9 ≤ hi) (hhi : hi ≤ 500) (h : (pN B tn p (nI lo) (nI hi)).1 = true) : inB (pN B tn p (nI lo) (nI hi)).2.2 (nI lo) (nI hi) = true := by
  unfold pN at h ⊢
  by_cases c : pD B tn p < nI lo
  · rw [if_pos c] at h; exact absurd h Bool.false_ne_true
  · rw [if_neg c]
    have h0 : nI 0 ≤ nI lo := (n_le (by omega) (by omega)).mpr (by omega)
    have h1 : ¬ pD B tn p = -1 := fun q => by
      rw [q] at c
      exact c (Int32.not_le.mp fun z => absurd (Int32.le_trans h0 z) (by decide))
    have h2 := inB_n (by omega) (by omega) (pD_in h1)
    refine pL_in hlo h9 hhi 61 _ _ ?_
    have c' := Int32.not_lt.mp c
    rw [h2.1] at c' ⊢
    rw [n_le (by omega) (by omega)] at c'
    exact inB_of (by omega) (by omega) (by omega) c' (by omega)

