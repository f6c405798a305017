/-! DOUBLES: a share of two whole numbers, its halvings, its bits -/
theorem f_n64 {r : UInt64} {s : Bool} {c : Nat} {q : Int} (h : Jvm.FP.Core.val64 r = .fin s c q) : vf_n64 r := by
  unfold vf_n64
  rw [UInt64.le_iff_toNat_le, Jvm.FP.Core.mask_toNat]
  show r.toNat % 2 ^ 63 ≤ 9218868437227405312
  have h2 : Jvm.FP.Core.fieldE Jvm.FP.Core.b64 r.toNat ≠ 2047 := by
    intro e
    unfold Jvm.FP.Core.val64 Jvm.FP.Core.decode at h
    rw [if_pos (show Jvm.FP.Core.fieldE Jvm.FP.Core.b64 r.toNat = Jvm.FP.Core.b64.exps - 1 from e)] at h
    split at h <;> cases h
  have h3 : Jvm.FP.Core.fieldE Jvm.FP.Core.b64 r.toNat = r.toNat / 4503599627370496 % 2048 := rfl
  rw [h3] at h2
  omega
/-- a double of 53 digits below 2 -/
def okd (d : UInt64) (c k : Nat) : Prop := Jvm.FP.Core.val64 d = .fin false c (-52 - (k : Int)) ∧ 4503599627370496 ≤ c ∧ c < 9007199254740992 ∧ k ≤ 1000
def shOk (d : UInt64) : Prop := d = 0 ∨ ∃ c k, okd d c k
theorem okd_1 : okd FP.dconst1 4503599627370496 0 := ⟨Jvm.FP.Core.val64_dconst1, by decide, by decide, by decide⟩
theorem okd_n {d : UInt64} {c k : Nat} (h : okd d c k) : vf_n64 d := f_n64 h.1
theorem fits_s {c : Nat} {q : Int} (h1 : 4503599627370496 ≤ c) (h2 : c < 9007199254740992) (h3 : -1074 ≤ q) (h4 : q ≤ 971) : Jvm.FP.Core.fits Jvm.FP.Core.b64 (.fin false c q) :=
  ⟨h2, h3, h4, Or.inr h1⟩
theorem i2d_val {a : Nat} (h0 : 0 < a) (h : a < 2147483648) : Jvm.FP.Core.val64 (FP.i2d (nI a)) = .fin false (a * 2 ^ (52 - a.log2)) ((a.log2 : Int) - 52) := by
  show Jvm.FP.Core.val64 (Jvm.FP.Core.i2d (nI a)) = _
  have l1 : 2 ^ a.log2 ≤ a := Nat.log2_self_le (by omega)
  have l2 : a < 2 ^ (a.log2 + 1) := Nat.lt_log2_self
  have l3 : a.log2 < 31 := (Nat.log2_lt (by omega)).mpr h
  rw [Jvm.FP.Core.val64_i2d, nI_toInt h]
  show Jvm.FP.Core.roundRatio Jvm.FP.Core.b64 (decide ((a : Int) < 0)) (a : Int).natAbs 1 0 = _
  rw [show decide ((a : Int) < 0) = false from decide_eq_false (by omega), Int.natAbs_natCast]
  have hp : 2 ^ (52 - a.log2) * 2 ^ a.log2 = 4503599627370496 := by rw [← Nat.pow_add, show 52 - a.log2 + a.log2 = 52 by omega]
  refine Jvm.FP.Core.roundRatio_exact Jvm.FP.Core.good_b64 (by decide) (fits_s ?_ ?_ (by omega) (by omega)) ?_
  · rw [← hp, Nat.mul_comm a]; exact Nat.mul_le_mul_left _ l1
  · have hp2 : 2 ^ (52 - a.log2) * 2 ^ (a.log2 + 1) = 9007199254740992 := by rw [← Nat.pow_add, show 52 - a.log2 + (a.log2 + 1) = 53 by omega]
    rw [← hp2, Nat.mul_comm a]
    exact Nat.mul_lt_mul_of_pos_left l2 (Nat.two_pow_pos _)
  · rw [show (0 - ((a.log2 : Int) - 52)).toNat = 52 - a.log2 by omega, show ((a.log2 : Int) - 52 - 0).toNat = 0 by omega, Nat.pow_zero, Nat.mul_one, Nat.mul_one]
theorem i2d_0 : FP.i2d (nI 0) = 0 := by decide +kernel
theorem quo_val {a b : Nat} (ha : 0 < a) (ha2 : a < 2147483648) (hb : 0 < b) (hb2 : b < 2147483648) : Jvm.FP.Core.val64 (FP.ddiv (FP.i2d (nI a)) (FP.i2d (nI b))) = Jvm.FP.Core.roundRatio Jvm.FP.Core.b64 false a b 0 := by
  show Jvm.FP.Core.val64 (Jvm.FP.Core.ddiv (FP.i2d (nI a)) (FP.i2d (nI b))) = _
  rw [Jvm.FP.Core.val64_ddiv, i2d_val ha ha2, i2d_val hb hb2]
  have p1 : 0 < b * 2 ^ (52 - b.log2) := Nat.mul_pos hb (Nat.two_pow_pos _)
  have l3 : a.log2 < 31 := (Nat.log2_lt (by omega)).mpr ha2
  have l4 : b.log2 < 31 := (Nat.log2_lt (by omega)).mpr hb2
  show (if b * 2 ^ (52 - b.log2) = 0 then _ else Jvm.FP.Core.roundRatio Jvm.FP.Core.b64 (false != false) (a * 2 ^ (52 - a.log2)) (b * 2 ^ (52 - b.log2)) ((a.log2 : Int) - 52 - ((b.log2 : Int) - 52))) = _
  rw [if_neg (by omega)]
  refine Jvm.FP.Core.roundRatio_congr p1 hb ?_
  generalize ha9 : a.log2 = la at l3 ⊢
  generalize hb9 : b.log2 = lb at l4 ⊢
  have e1 : 2 ^ (52 - la) * 2 ^ ((la : Int) - 52 - ((lb : Int) - 52) - 0).toNat = 2 ^ (52 - lb) * 2 ^ (0 - ((la : Int) - 52 - ((lb : Int) - 52))).toNat := by
    rw [← Nat.pow_add, ← Nat.pow_add]
    congr 1
    omega
  calc a * 2 ^ (52 - la) * b * 2 ^ ((la : Int) - 52 - ((lb : Int) - 52) - 0).toNat = a * b * (2 ^ (52 - la) * 2 ^ ((la : Int) - 52 - ((lb : Int) - 52) - 0).toNat) := by ac_rfl
    _ = a * b * (2 ^ (52 - lb) * 2 ^ (0 - ((la : Int) - 52 - ((lb : Int) - 52))).toNat) := by rw [e1]
    _ = _ := by ac_rfl
theorem quo_ok {a b : Nat} (ha : 0 < a) (hab : a ≤ b) (hb2 : b < 2147483648) : ∃ c k, okd (FP.ddiv (FP.i2d (nI a)) (FP.i2d (nI b))) c k := by
  have hb : 0 < b := by omega
  have hv := quo_val ha (by omega) hb hb2
  obtain ⟨s1, s2⟩ := Jvm.FP.Core.leading_spec ha hb
  have t1 : ¬ Jvm.FP.Core.Below a b (-32) ∨ Jvm.FP.Core.Below a b (-32) := (Classical.em _).symm
  have u1 : ¬ Jvm.FP.Core.Below a b (-32) := by
    show ¬ (a * 2 ^ (32 : Nat) < b * 2 ^ (0 : Nat))
    omega
  have u2 : Jvm.FP.Core.Below a b 1 := by
    show a * 2 ^ (0 : Nat) < b * 2 ^ (1 : Nat)
    omega
  have l1 : -33 < Jvm.FP.Core.leading a b := by have := Jvm.FP.Core.lt_of_below u1 s2; omega
  have l2 : Jvm.FP.Core.leading a b < 1 := Jvm.FP.Core.lt_of_below s1 u2
  generalize hL : Jvm.FP.Core.leading a b = L at s1 s2 l1 l2
  have hq : Jvm.FP.Core.quantum Jvm.FP.Core.b64 a b 0 = L - 52 := by
    unfold Jvm.FP.Core.quantum
    rw [hL]
    show max (-1074) (L + 0 - (((53 : Nat) : Int) - 1)) = _
    omega
  have hr : Jvm.FP.Core.roundRatio Jvm.FP.Core.b64 false a b 0 = Jvm.FP.Core.settle Jvm.FP.Core.b64 false (Jvm.FP.Core.nearest (a * 2 ^ (52 - L).toNat) b) (L - 52) := by
    unfold Jvm.FP.Core.roundRatio
    rw [if_neg (by omega), hq]
    unfold Jvm.FP.Core.roundAt Jvm.FP.Core.unitsNum Jvm.FP.Core.unitsDen
    rw [show (0 - (L - 52)).toNat = (52 - L).toNat by omega, show (L - 52 - 0).toNat = 0 by omega, Nat.pow_zero, Nat.mul_one]
  have n1 : 4503599627370496 ≤ Jvm.FP.Core.nearest (a * 2 ^ (52 - L).toNat) b := by
    refine Jvm.FP.Core.nearest_ge hb ?_
    have s1' : b * 2 ^ L.toNat ≤ a * 2 ^ (-L).toNat := Nat.le_of_not_lt s1
    rw [show L.toNat = 0 by omega, Nat.pow_zero, Nat.mul_one] at s1'
    rw [show (52 - L).toNat = 52 + (-L).toNat by omega, Nat.pow_add]
    calc 4503599627370496 * b ≤ 4503599627370496 * (a * 2 ^ (-L).toNat) := Nat.mul_le_mul_left _ s1'
      _ = a * (2 ^ 52 * 2 ^ (-L).toNat) := by rw [show (4503599627370496 : Nat) = 2 ^ 52 from rfl]; ac_rfl
  have n2 : Jvm.FP.Core.nearest (a * 2 ^ (52 - L).toNat) b ≤ 9007199254740992 := by
    refine Jvm.FP.Core.nearest_le hb ?_
    have s2' : a * 2 ^ (-(L + 1)).toNat < b * 2 ^ (L + 1).toNat := s2
    by_cases e : L = 0
    · subst e
      show a * 2 ^ 52 ≤ _
      omega
    · rw [show (L + 1).toNat = 0 by omega, Nat.pow_zero, Nat.mul_one] at s2'
      rw [show (52 - L).toNat = 53 + (-(L + 1)).toNat by omega, Nat.pow_add]
      calc a * (2 ^ 53 * 2 ^ (-(L + 1)).toNat) = 9007199254740992 * (a * 2 ^ (-(L + 1)).toNat) := by rw [show (9007199254740992 : Nat) = 2 ^ 53 from rfl]; ac_rfl
        _ ≤ 9007199254740992 * b := Nat.mul_le_mul_left _ (Nat.le_of_lt s2')
  rw [hr] at hv
  unfold Jvm.FP.Core.settle at hv
  by_cases e : Jvm.FP.Core.nearest (a * 2 ^ (52 - L).toNat) b < 2 ^ Jvm.FP.Core.b64.p
  · rw [if_pos e] at hv
    unfold Jvm.FP.Core.bound at hv
    rw [if_pos (show L - 52 ≤ Jvm.FP.Core.b64.qmax from (by show L - 52 ≤ 971; omega))] at hv
    exact ⟨_, (-L).toNat, by rw [hv]; congr 1; omega, n1, e, by omega⟩
  · rw [if_neg e] at hv
    have e' : ¬ Jvm.FP.Core.nearest (a * 2 ^ (52 - L).toNat) b < 9007199254740992 := e
    have hL0 : L ≠ 0 := by
      intro e0
      subst e0
      have : Jvm.FP.Core.nearest (a * 2 ^ (52 - (0 : Int)).toNat) b ≤ 4503599627370496 := by
        refine Jvm.FP.Core.nearest_le hb ?_
        show a * 2 ^ 52 ≤ _
        omega
      omega
    unfold Jvm.FP.Core.bound at hv
    rw [if_pos (show L - 52 + 1 ≤ Jvm.FP.Core.b64.qmax from (by show L - 52 + 1 ≤ 971; omega))] at hv
    exact ⟨4503599627370496, (-L - 1).toNat, by rw [hv]; show Jvm.FP.Core.Datum.fin false 4503599627370496 _ = _; congr 1; omega, by omega, by omega, by omega⟩
/-- the share of a, of a and b -/
def shD (a b : Nat) : UInt64 := if a + b = 0 then FP.dconst1 else FP.ddiv (FP.i2d (nI a)) (FP.i2d (nI (a + b)))
theorem quo_0 {b : Nat} (hb : 0 < b) (hb2 : b < 2147483648) : FP.ddiv (FP.i2d (nI 0)) (FP.i2d (nI b)) = 0 := by
  have e : Jvm.FP.Core.val64 (FP.ddiv (FP.i2d (nI 0)) (FP.i2d (nI b))) = .fin false 0 Jvm.FP.Core.b64.qmin := by
    show Jvm.FP.Core.val64 (Jvm.FP.Core.ddiv (FP.i2d (nI 0)) (FP.i2d (nI b))) = _
    have p1 : 0 < b * 2 ^ (52 - b.log2) := Nat.mul_pos hb (Nat.two_pow_pos _)
    rw [Jvm.FP.Core.val64_ddiv, i2d_0, i2d_val hb hb2, show Jvm.FP.Core.val64 0 = .fin false 0 Jvm.FP.Core.b64.qmin from Jvm.FP.Core.val64_dconst0]
    show (if b * 2 ^ (52 - b.log2) = 0 then _ else Jvm.FP.Core.roundRatio Jvm.FP.Core.b64 (false != false) 0 (b * 2 ^ (52 - b.log2)) (Jvm.FP.Core.b64.qmin - ((b.log2 : Int) - 52))) = _
    rw [if_neg (by omega)]
    rfl
  refine Jvm.FP.Core.val64_inj ?_ (e.trans Jvm.FP.Core.val64_dconst0.symm)
  rw [e]; intro q; cases q
theorem shD_ok {a b : Nat} (h : a + b < 2147483648) : shOk (shD a b) := by
  unfold shD
  split
  · exact Or.inr ⟨_, _, okd_1⟩
  · rename_i q
    by_cases e : a = 0
    · subst e; exact Or.inl (quo_0 (by omega) h)
    · exact Or.inr (quo_ok (by omega) (by omega) h)
theorem shOk_n {d : UInt64} (h : shOk d) : vf_n64 d := by
  rcases h with h | ⟨c, k, h⟩
  · subst h; exact f_n64 Jvm.FP.Core.val64_dconst0
  · exact okd_n h

