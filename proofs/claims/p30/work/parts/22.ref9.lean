/-! THE REFERENCE: the calls without a double -/
def iN (v : Int32) : Nat := v.toNatClampNeg
theorem inB_n {v : Int32} {lo hi : Nat} (hlo : lo < 2147483648) (hhi : hi < 2147483648) (h : inB v (nI lo) (nI hi) = true) : v = nI (iN v) ∧ lo ≤ iN v ∧ iN v ≤ hi := by
  unfold inB at h
  rw [Bool.and_eq_true, decide_eq_true_eq, decide_eq_true_eq, Int32.le_iff_toInt_le, Int32.le_iff_toInt_le, nI_toInt hlo, nI_toInt hhi] at h
  have h0 : (iN v : Int) = v.toInt := by
    unfold iN; rw [Int32.toNatClampNeg]; exact Int.toNat_of_nonneg (by omega)
  refine ⟨?_, by omega, by omega⟩
  apply Int32.toInt_inj.mp
  rw [nI_toInt (by omega), h0]
