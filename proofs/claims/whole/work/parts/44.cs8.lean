/-! THE CLASS: the bits of a share -/
theorem sub1_val {d : UInt64} {c : Nat} (h : okd d c 0) : Jvm.FP.Core.val64 (FP.dsub d FP.dconst1) = Jvm.FP.Core.roundRatio Jvm.FP.Core.b64 false (c - 4503599627370496) 1 (-52) := by
  show Jvm.FP.Core.val64 (Jvm.FP.Core.dsub d Jvm.FP.Core.dconst1) = _
  have h2 := h.2.1
  rw [Jvm.FP.Core.val64_dsub, h.1, Jvm.FP.Core.val64_dconst1]
  show Jvm.FP.Core.round Jvm.FP.Core.b64 (Jvm.FP.Core.exactSum (.fin false c (-52 - ((0 : Nat) : Int))) (.fin true 4503599627370496 (-52))) = _
  have e : Jvm.FP.Core.sumUnits false c (-52 - ((0 : Nat) : Int)) true 4503599627370496 (-52) (min (-52 - ((0 : Nat) : Int)) (-52)) = ((c - 4503599627370496 : Nat) : Int) := by
    show (((c * 2 ^ (-52 - ((0 : Nat) : Int) - min (-52 - ((0 : Nat) : Int)) (-52)).toNat : Nat)) : Int) + -(((4503599627370496 * 2 ^ (-52 - min (-52 - ((0 : Nat) : Int)) (-52)).toNat : Nat)) : Int) = _
    rw [show (-52 - ((0 : Nat) : Int) - min (-52 - ((0 : Nat) : Int)) (-52)).toNat = 0 by omega, show (-52 - min (-52 - ((0 : Nat) : Int)) (-52)).toNat = 0 by omega, Nat.pow_zero, Nat.mul_one, Nat.mul_one]
    omega
  show Jvm.FP.Core.roundRatio Jvm.FP.Core.b64 (Jvm.FP.Core.sumSign false true (Jvm.FP.Core.sumUnits false c (-52 - ((0 : Nat) : Int)) true 4503599627370496 (-52) (min (-52 - ((0 : Nat) : Int)) (-52)))) (Jvm.FP.Core.sumUnits false c (-52 - ((0 : Nat) : Int)) true 4503599627370496 (-52) (min (-52 - ((0 : Nat) : Int)) (-52))).natAbs 1 (min (-52 - ((0 : Nat) : Int)) (-52)) = _
  rw [e, Int.natAbs_natCast, show min (-52 - ((0 : Nat) : Int)) (-52) = (-52 : Int) by omega]
  have e2 : Jvm.FP.Core.sumSign false true ((c - 4503599627370496 : Nat) : Int) = false := by
    unfold Jvm.FP.Core.sumSign
    split
    · rfl
    · exact decide_eq_false (by omega)
  rw [e2]
theorem rr_norm {u : Nat} {q : Int} (h0 : 0 < u) (h : u < 4503599627370496) (hq : -1000 ≤ q) (hq2 : q ≤ 900) : Jvm.FP.Core.roundRatio Jvm.FP.Core.b64 false u 1 q = .fin false (u * 2 ^ (52 - u.log2)) (q - (52 - (u.log2 : Int))) := by
  have l1 : 2 ^ u.log2 ≤ u := Nat.log2_self_le (by omega)
  have l2 : u < 2 ^ (u.log2 + 1) := Nat.lt_log2_self
  have l3 : u.log2 < 52 := (Nat.log2_lt (by omega)).mpr h
  have hp : 2 ^ (52 - u.log2) * 2 ^ u.log2 = 4503599627370496 := by rw [← Nat.pow_add, show 52 - u.log2 + u.log2 = 52 by omega]
  refine Jvm.FP.Core.roundRatio_exact Jvm.FP.Core.good_b64 (by decide) (fits_s ?_ ?_ (by omega) (by omega)) ?_
  · rw [← hp, Nat.mul_comm u]; exact Nat.mul_le_mul_left _ l1
  · have hp2 : 2 ^ (52 - u.log2) * 2 ^ (u.log2 + 1) = 9007199254740992 := by rw [← Nat.pow_add, show 52 - u.log2 + (u.log2 + 1) = 53 by omega]
    rw [← hp2, Nat.mul_comm u]
    exact Nat.mul_lt_mul_of_pos_left l2 (Nat.two_pow_pos _)
  · rw [show (q - (q - (52 - (u.log2 : Int)))).toNat = 52 - u.log2 by omega, show (q - (52 - (u.log2 : Int)) - q).toNat = 0 by omega, Nat.pow_zero, Nat.mul_one, Nat.mul_one]
theorem sub1_n {d : UInt64} {c : Nat} (h : okd d c 0) : vf_n64 (FP.dsub d FP.dconst1) := by
  have h1 := sub1_val h
  by_cases e : c - 4503599627370496 = 0
  · rw [e] at h1; exact f_n64 h1
  · have h3 := h.2.2.1
    rw [rr_norm (by omega) (by omega) (by omega) (by omega)] at h1
    exact f_n64 h1
theorem mul1_val {d : UInt64} {c : Nat} (h : okd d c 0) : (∃ q, Jvm.FP.Core.val64 (FP.dmul (FP.dsub d FP.dconst1) 4841369599423283200) = .fin false 0 q ∧ c - 4503599627370496 = 0) ∨ (0 < c - 4503599627370496 ∧ Jvm.FP.Core.val64 (FP.dmul (FP.dsub d FP.dconst1) 4841369599423283200) = .fin false ((c - 4503599627370496) * 2 ^ (52 - (c - 4503599627370496).log2)) (((c - 4503599627370496).log2 : Int) - 52)) := by
  have h1 := sub1_val h
  have h3 := h.2.2.1
  by_cases e : c - 4503599627370496 = 0
  · left
    rw [e] at h1
    refine ⟨Jvm.FP.Core.b64.qmin, ?_, e⟩
    show Jvm.FP.Core.val64 (Jvm.FP.Core.dmul (FP.dsub d FP.dconst1) 4841369599423283200) = _
    rw [Jvm.FP.Core.val64_dmul, h1, val_52]
    show Jvm.FP.Core.roundRatio Jvm.FP.Core.b64 false (0 * 4503599627370496) 1 (Jvm.FP.Core.b64.qmin + 0) = _
    rw [Nat.zero_mul]; rfl
  · right
    refine ⟨by omega, ?_⟩
    generalize hu : c - 4503599627370496 = u at h1 e ⊢
    have l3 : u.log2 < 52 := (Nat.log2_lt (by omega)).mpr (by omega)
    have l1 : 2 ^ u.log2 ≤ u := Nat.log2_self_le (by omega)
    have l2 : u < 2 ^ (u.log2 + 1) := Nat.lt_log2_self
    have hp : 2 ^ (52 - u.log2) * 2 ^ u.log2 = 4503599627370496 := by rw [← Nat.pow_add, show 52 - u.log2 + u.log2 = 52 by omega]
    have hp2 : 2 ^ (52 - u.log2) * 2 ^ (u.log2 + 1) = 9007199254740992 := by rw [← Nat.pow_add, show 52 - u.log2 + (u.log2 + 1) = 53 by omega]
    rw [rr_norm (by omega) (by omega) (by omega) (by omega)] at h1
    show Jvm.FP.Core.val64 (Jvm.FP.Core.dmul (FP.dsub d FP.dconst1) 4841369599423283200) = _
    rw [Jvm.FP.Core.val64_dmul, h1, val_52]
    show Jvm.FP.Core.roundRatio Jvm.FP.Core.b64 false (u * 2 ^ (52 - u.log2) * 4503599627370496) 1 (-52 - (52 - (u.log2 : Int)) + 0) = _
    refine Jvm.FP.Core.roundRatio_exact Jvm.FP.Core.good_b64 (by decide) (fits_s ?_ ?_ (by omega) (by omega)) ?_
    · rw [← hp, Nat.mul_comm u]; exact Nat.mul_le_mul_left _ l1
    · rw [← hp2, Nat.mul_comm u]; exact Nat.mul_lt_mul_of_pos_left l2 (Nat.two_pow_pos _)
    · rw [show (-52 - (52 - (u.log2 : Int)) + 0 - ((u.log2 : Int) - 52)).toNat = 0 by omega, show ((u.log2 : Int) - 52 - (-52 - (52 - (u.log2 : Int)) + 0)).toNat = 52 by omega, Nat.pow_zero, Nat.mul_one, Nat.mul_one]
theorem mul1_n {d : UInt64} {c : Nat} (h : okd d c 0) : vf_n64 (FP.dmul (FP.dsub d FP.dconst1) 4841369599423283200) := by
  rcases mul1_val h with ⟨q, h1, -⟩ | ⟨-, h1⟩ <;> exact f_n64 h1
theorem mul1_l {d : UInt64} {c : Nat} (h : okd d c 0) : FP.d2l (FP.dmul (FP.dsub d FP.dconst1) 4841369599423283200) = Int64.ofNat (c - 4503599627370496) := by
  have h3 := h.2.2.1
  show Int64.ofInt (Jvm.FP.Core.toInt (-2 ^ 63) (2 ^ 63 - 1) (Jvm.FP.Core.val64 (FP.dmul (FP.dsub d FP.dconst1) 4841369599423283200))) = _
  have kky : Jvm.FP.Core.toInt (-2 ^ 63) (2 ^ 63 - 1) (Jvm.FP.Core.val64 (FP.dmul (FP.dsub d FP.dconst1) 4841369599423283200)) = ((c - 4503599627370496 : Nat) : Int) := by
    rcases mul1_val h with ⟨q, h1, e⟩ | ⟨h0, h1⟩
    · rw [h1, e]
      show max (-2 ^ 63) (min (2 ^ 63 - 1) (((0 * 2 ^ q.toNat / 2 ^ (-q).toNat : Nat)) : Int)) = _
      rw [Nat.zero_mul, Nat.zero_div]; rfl
    · rw [h1]
      generalize hu : c - 4503599627370496 = u at h0 ⊢
      have l3 : u.log2 < 52 := (Nat.log2_lt (by omega)).mpr (by omega)
      show max (-2 ^ 63) (min (2 ^ 63 - 1) (((u * 2 ^ (52 - u.log2) * 2 ^ ((u.log2 : Int) - 52).toNat / 2 ^ (-((u.log2 : Int) - 52)).toNat : Nat)) : Int)) = _
      rw [show ((u.log2 : Int) - 52).toNat = 0 by omega, show (-((u.log2 : Int) - 52)).toNat = 52 - u.log2 by omega, Nat.pow_zero, Nat.mul_one, Nat.mul_div_cancel _ (Nat.two_pow_pos _)]
      omega
  rw [kky]; exact Int64.ofInt_eq_ofNat

