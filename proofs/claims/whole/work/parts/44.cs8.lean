/-! THE CLASS: the bits of a share -/
open Jvm.FP.Core in
theorem sub1_val {d : UInt64} {c : Nat} (h : okd d c 0) : val64 (FP.dsub d FP.dconst1) = roundRatio b64 false (c - 4503599627370496) 1 (-52) := by
  show val64 (Jvm.FP.Core.dsub d dconst1) = _
  have h2 := h.2.1
  rw [val64_dsub, h.1, val64_dconst1]
  show round b64 (exactSum (.fin false c (-52 - ((0 : Nat) : Int))) (.fin true 4503599627370496 (-52))) = _
  have e : sumUnits false c (-52 - ((0 : Nat) : Int)) true 4503599627370496 (-52) (min (-52 - ((0 : Nat) : Int)) (-52)) = ((c - 4503599627370496 : Nat) : Int) := by
    show (((c * 2 ^ (-52 - ((0 : Nat) : Int) - min (-52 - ((0 : Nat) : Int)) (-52)).toNat : Nat)) : Int) + -(((4503599627370496 * 2 ^ (-52 - min (-52 - ((0 : Nat) : Int)) (-52)).toNat : Nat)) : Int) = _
    rw [show (-52 - ((0 : Nat) : Int) - min (-52 - ((0 : Nat) : Int)) (-52)).toNat = 0 by omega, show (-52 - min (-52 - ((0 : Nat) : Int)) (-52)).toNat = 0 by omega, Nat.pow_zero, Nat.mul_one, Nat.mul_one]
    omega
  show roundRatio b64 (sumSign false true (sumUnits false c (-52 - ((0 : Nat) : Int)) true 4503599627370496 (-52) (min (-52 - ((0 : Nat) : Int)) (-52)))) (sumUnits false c (-52 - ((0 : Nat) : Int)) true 4503599627370496 (-52) (min (-52 - ((0 : Nat) : Int)) (-52))).natAbs 1 (min (-52 - ((0 : Nat) : Int)) (-52)) = _
  rw [e, Int.natAbs_natCast, show min (-52 - ((0 : Nat) : Int)) (-52) = (-52 : Int) by omega]
  have e2 : sumSign false true ((c - 4503599627370496 : Nat) : Int) = false := by
    unfold sumSign
    split
    · rfl
    · exact decide_eq_false (by omega)
  rw [e2]
open Jvm.FP.Core in
theorem rr_norm {u : Nat} {q : Int} (h0 : 0 < u) (h : u < 4503599627370496) (hq : -1000 ≤ q) (hq2 : q ≤ 900) : roundRatio b64 false u 1 q = .fin false (u * 2 ^ (52 - u.log2)) (q - (52 - (u.log2 : Int))) := by
  have l1 : 2 ^ u.log2 ≤ u := Nat.log2_self_le (by omega)
  have l2 : u < 2 ^ (u.log2 + 1) := Nat.lt_log2_self
  have l3 : u.log2 < 52 := (Nat.log2_lt (by omega)).mpr h
  have hp : 2 ^ (52 - u.log2) * 2 ^ u.log2 = 4503599627370496 := by rw [← Nat.pow_add, show 52 - u.log2 + u.log2 = 52 by omega]
  refine roundRatio_exact good_b64 (by decide) (fits_s ?_ ?_ (by omega) (by omega)) ?_
  · rw [← hp, Nat.mul_comm u]; exact Nat.mul_le_mul_left _ l1
  · have hp2 : 2 ^ (52 - u.log2) * 2 ^ (u.log2 + 1) = 9007199254740992 := by rw [← Nat.pow_add, show 52 - u.log2 + (u.log2 + 1) = 53 by omega]
    rw [← hp2, Nat.mul_comm u]
    exact Nat.mul_lt_mul_of_pos_left l2 (Nat.two_pow_pos _)
  · rw [show (q - (q - (52 - (u.log2 : Int)))).toNat = 52 - u.log2 by omega, show (q - (52 - (u.log2 : Int)) - q).toNat = 0 by omega, Nat.pow_zero, Nat.mul_one, Nat.mul_one]
open Jvm.FP.Core in
theorem sub1_n {d : UInt64} {c : Nat} (h : okd d c 0) : vf_n64 (FP.dsub d FP.dconst1) := by
  have h1 := sub1_val h
  by_cases e : c - 4503599627370496 = 0
  · rw [e] at h1; exact f_n64 h1
  · have h3 := h.2.2.1
    rw [rr_norm (by omega) (by omega) (by omega) (by omega)] at h1
    exact f_n64 h1
open Jvm.FP.Core in
theorem mul1_val {d : UInt64} {c : Nat} (h : okd d c 0) : (∃ q, val64 (FP.dmul (FP.dsub d FP.dconst1) 4841369599423283200) = .fin false 0 q ∧ c - 4503599627370496 = 0) ∨ (0 < c - 4503599627370496 ∧ val64 (FP.dmul (FP.dsub d FP.dconst1) 4841369599423283200) = .fin false ((c - 4503599627370496) * 2 ^ (52 - (c - 4503599627370496).log2)) (((c - 4503599627370496).log2 : Int) - 52)) := by
  have h1 := sub1_val h
  have h3 := h.2.2.1
  by_cases e : c - 4503599627370496 = 0
  · left
    rw [e] at h1
    refine ⟨b64.qmin, ?_, e⟩
    show val64 (Jvm.FP.Core.dmul (FP.dsub d FP.dconst1) 4841369599423283200) = _
    rw [val64_dmul, h1, val_52]
    show roundRatio b64 false (0 * 4503599627370496) 1 (b64.qmin + 0) = _
    rw [Nat.zero_mul]; rfl
  · right
    refine ⟨by omega, ?_⟩
    generalize hu : c - 4503599627370496 = u at h1 e ⊢
    have l3 : u.log2 < 52 := (Nat.log2_lt (by omega)).mpr (by omega)
    have l1 : 2 ^ u.log2 ≤ u := Nat.log2_self_le (by omega)
    have l2 : u < 2 ^ (u.log2 + 1) := Nat.lt_log2_self
    have hp : 2 ^ (52 - u.log2) * 2 ^ u.log2 = 4503599627370496 := by rw [← Nat.pow_add, show 52 - u.log2 + u.log2 = 52 by omega]
    have hp2 : 2 ^ (52 - u.log2) * 2 ^ (u.log2 + 1) = 9007199254740992 := by rw [← Nat.pow_add, show 52 - u.log2 + (u.log2 + 1) = 53 by omega]
    rw [rr_norm (by omega) (by omega) (by omega) (by omega)] at h1
    show val64 (Jvm.FP.Core.dmul (FP.dsub d FP.dconst1) 4841369599423283200) = _
    rw [val64_dmul, h1, val_52]
    show roundRatio b64 false (u * 2 ^ (52 - u.log2) * 4503599627370496) 1 (-52 - (52 - (u.log2 : Int)) + 0) = _
    refine roundRatio_exact good_b64 (by decide) (fits_s ?_ ?_ (by omega) (by omega)) ?_
    · rw [← hp, Nat.mul_comm u]; exact Nat.mul_le_mul_left _ l1
    · rw [← hp2, Nat.mul_comm u]; exact Nat.mul_lt_mul_of_pos_left l2 (Nat.two_pow_pos _)
    · rw [show (-52 - (52 - (u.log2 : Int)) + 0 - ((u.log2 : Int) - 52)).toNat = 0 by omega, show ((u.log2 : Int) - 52 - (-52 - (52 - (u.log2 : Int)) + 0)).toNat = 52 by omega, Nat.pow_zero, Nat.mul_one, Nat.mul_one]
open Jvm.FP.Core in
theorem mul1_n {d : UInt64} {c : Nat} (h : okd d c 0) : vf_n64 (FP.dmul (FP.dsub d FP.dconst1) 4841369599423283200) := by
  rcases mul1_val h with ⟨q, h1, -⟩ | ⟨-, h1⟩ <;> exact f_n64 h1
open Jvm.FP.Core in
theorem mul1_l {d : UInt64} {c : Nat} (h : okd d c 0) : FP.d2l (FP.dmul (FP.dsub d FP.dconst1) 4841369599423283200) = Int64.ofNat (c - 4503599627370496) := by
  have h3 := h.2.2.1
  show Int64.ofInt (toInt (-2 ^ 63) (2 ^ 63 - 1) (val64 (FP.dmul (FP.dsub d FP.dconst1) 4841369599423283200))) = _
  have key : toInt (-2 ^ 63) (2 ^ 63 - 1) (val64 (FP.dmul (FP.dsub d FP.dconst1) 4841369599423283200)) = ((c - 4503599627370496 : Nat) : Int) := by
    rcases mul1_val h with ⟨q, h1, e⟩ | ⟨h0, h1⟩
    · rw [h1, e]
      show max (-2 ^ 63) (min (2 ^ 63 - 1) (((0 * 2 ^ q.toNat / 2 ^ (-q).toNat : Nat)) : Int)) = _
      rw [Nat.zero_mul, Nat.zero_div]; rfl
    · rw [h1]
      generalize hu : c - 4503599627370496 = u at h0 ⊢
      have l3 : u.log2 < 52 := (Nat.log2_lt (by omega)).mpr (by omega)
      show max (-2 ^ 63) (min (2 ^ 63 - 1) (((u * 2 ^ (52 - u.log2) * 2 ^ ((u.log2 : Int) - 52).toNat / 2 ^ (-((u.log2 : Int) - 52)).toNat : Nat)) : Int)) = _
      rw [show ((u.log2 : Int) - 52).toNat = 0 by omega, show (-((u.log2 : Int) - 52)).toNat = 52 - u.log2 by omega, Nat.pow_zero, Nat.mul_one, Nat.mul_div_cancel _ (Nat.two_pow_pos _)]
      omega
  rw [key]; exact Int64.ofInt_eq_ofNat

