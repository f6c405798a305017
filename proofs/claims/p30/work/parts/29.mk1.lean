/-! THE CLASS'S MARKET: what is there, sums -/
/-- n stalls, at most ten -/
def mW (M : Nat → Int32) (n : Nat) : Prop := M 4 = nI n ∧ n ≤ 10
theorem mW_upd {M : Nat → Int32} {n i : Nat} {x : Int32} (h : mW M n) (h4 : i ≠ 4) : mW (upd M i x) n := ⟨by rw [upd_n (Ne.symm h4)]; exact h.1, h.2⟩
theorem rng_n {q : Int32} {m : Nat} (hm : m < 2147483648) (h0 : 0 ≤ q) (h1 : q < nI m) : q = nI (iN q) ∧ iN q < m := by
  have h2 := Int32.le_iff_toInt_le.mp h0
  have h3 := Int32.lt_iff_toInt_lt.mp h1
  rw [nI_toInt hm] at h3
  have h4 : (0 : Int32).toInt = 0 := by decide
  have h5 : (iN q : Int) = q.toInt := by unfold iN; rw [Int32.toNatClampNeg]; exact Int.toNat_of_nonneg (by omega)
  refine ⟨?_, by omega⟩
  apply Int32.toInt_inj.mp
  rw [nI_toInt (by omega), h5]
def cWant (M : Nat → Int32) (k : Nat) (h : Int32) : Bool := if M (39 + 8 * k + 2) < M (39 + 8 * k + 1) then decide (M (39 + 8 * k + 1) ≤ h) || decide (h ≤ M (39 + 8 * k + 2)) else decide (M (39 + 8 * k + 1) ≤ h) && decide (h ≤ M (39 + 8 * k + 2))
def cB (M : Nat → Int32) (q : Int32) : Nat := if M (27 + iN q) = 0 then iN q / 3 else 3
def cBrk (M : Nat → Int32) (q : Int32) : Int32 := if q < 0 then -1 else if nI 12 ≤ q then -1 else nI (cB M q)
theorem cBrk_n {M : Nat → Int32} {q : Int32} (h : ¬ cBrk M q = -1) : cBrk M q = nI (cB M q) ∧ cB M q < 4 := by
  unfold cBrk at h ⊢
  by_cases h1 : q < 0
  · rw [if_pos h1] at h; exact absurd rfl h
  · rw [if_neg h1] at h ⊢
    by_cases h2 : nI 12 ≤ q
    · rw [if_pos h2] at h; exact absurd rfl h
    · rw [if_neg h2]
      have h3 := rng_n (by decide) (Int32.not_lt.mp h1) (Int32.not_le.mp h2)
      refine ⟨rfl, ?_⟩
      unfold cB; split <;> omega
def cSrc (M : Nat → Int32) (k : Nat) : Int32 := if cBrk M (M (39 + 8 * k + 4)) = -1 then -1 else if ¬ M (39 + 8 * k + 5) = 0 then -1 else if M (7 + 5 * cB M (M (39 + 8 * k + 4)) + 1) = 0 then -1 else if cWant M k (hrD M) = false then -1 else nI (cB M (M (39 + 8 * k + 4)))
theorem cSrc_n {M : Nat → Int32} {k : Nat} (h : ¬ cSrc M k = -1) : cSrc M k = nI (cB M (M (39 + 8 * k + 4))) ∧ cB M (M (39 + 8 * k + 4)) < 4 := by
  unfold cSrc at h ⊢
  by_cases h1 : cBrk M (M (39 + 8 * k + 4)) = -1
  · rw [if_pos h1] at h; exact absurd rfl h
  · rw [if_neg h1] at h ⊢
    have h4 := (cBrk_n h1).2
    refine ⟨?_, h4⟩
    by_cases h2 : ¬ M (39 + 8 * k + 5) = 0
    · rw [if_pos h2] at h; exact absurd rfl h
    · rw [if_neg h2] at h ⊢
      by_cases h3 : M (7 + 5 * cB M (M (39 + 8 * k + 4)) + 1) = 0
      · rw [if_pos h3] at h; exact absurd rfl h
      · rw [if_neg h3] at h ⊢
        by_cases h5 : cWant M k (hrD M) = false
        · rw [if_pos h5] at h; exact absurd rfl h
        · rw [if_neg h5]
def cRsn (M : Nat → Int32) (k : Nat) : Nat := if cWant M k (hrD M) = false then 1 else if cBrk M (M (39 + 8 * k + 4)) = -1 then 2 else if M (7 + 5 * cB M (M (39 + 8 * k + 4)) + 1) = 0 then 3 else if M (39 + 8 * k + 5) = 0 then 0 else 4
def cLod (M : Nat → Int32) (b : Int32) : Nat → Int32
  | 0 => 0
  | i + 1 => cLod M b i + (if cSrc M i = b then M (39 + 8 * i + 0) else 0)
def cLpl (M : Nat → Int32) (b : Int32) : Nat → Int32
  | 0 => 0
  | i + 1 => cLpl M b i + (if M (39 + 8 * i + 5) = 0 ∧ cBrk M (M (39 + 8 * i + 4)) = b then M (39 + 8 * i + 0) else 0)
def cDrw (M : Nat → Int32) (b : Int32) : Nat → Nat
  | 0 => 0
  | i + 1 => cDrw M b i + (if cSrc M i = b then 1 else 0)
theorem cDrw_le (M : Nat → Int32) (b : Int32) : ∀ i, cDrw M b i ≤ i
  | 0 => Nat.le_refl 0
  | i + 1 => by unfold cDrw; have := cDrw_le M b i; split <;> omega
def cPlg (M : Nat → Int32) : Nat → Nat
  | 0 => 0
  | i + 1 => cPlg M i + (if M (39 + 8 * i + 4) = -1 then 0 else 1)
def cDra (M : Nat → Int32) (n : Nat) : Nat → Nat
  | 0 => 0
  | i + 1 => cDra M n i + cDrw M (nI i) n
def cOns (M : Nat → Int32) : Nat → Nat
  | 0 => 0
  | i + 1 => cOns M i + (if M (7 + 5 * i + 1) = 0 then 0 else 1)
def cSs (M : Nat → Int32) (j : Nat) : Nat → Int32
  | 0 => 0
  | i + 1 => cSs M j i + M (39 + 8 * i + j)
def cSb (M : Nat → Int32) (j : Nat) : Nat → Int32
  | 0 => 0
  | i + 1 => cSb M j i + M (7 + 5 * i + j)
def cFee (M : Nat → Int32) (k : Nat) : Int32 := M (39 + 8 * k + 6) * M (0 + 2) / nI 10
def cFees (M : Nat → Int32) : Nat → Int32
  | 0 => 0
  | i + 1 => cFees M i + cFee M i
def cAt (M : Nat → Int32) (q : Int32) (n : Nat) : Nat → Nat → Int32
  | 0, _ => -1
  | f + 1, i => if i < n then (if M (39 + 8 * i + 4) = q then nI i else cAt M q n f (i + 1)) else -1
theorem cAt_end {M : Nat → Int32} {q : Int32} {n f i : Nat} (h : n ≤ i) : cAt M q n f i = -1 := by
  cases f
  · rfl
  · rw [cAt, if_neg (by omega)]
theorem cAt_hit {M : Nat → Int32} {q : Int32} {n f i : Nat} (hf : 1 ≤ f) (h : i < n) (h2 : M (39 + 8 * i + 4) = q) : cAt M q n f i = nI i := by
  cases f
  · omega
  · rw [cAt, if_pos h, if_pos h2]
theorem cAt_go {M : Nat → Int32} {q : Int32} {n f i : Nat} (hf : 1 ≤ f) (h : i < n) (h2 : ¬ M (39 + 8 * i + 4) = q) : cAt M q n f i = cAt M q n (f - 1) (i + 1) := by
  cases f
  · omega
  · rw [cAt, if_pos h, if_neg h2]; rfl
set_option maxRecDepth 100000 in
set_option maxHeartbeats 4000000 in
theorem mX4_wantsAt (l : Launch) (D : va_G) (ct : Nat → ClassId) (ad : Nat → Nat) (M : Nat → Int32) (k : Nat) (h : Int32)  (hk : k < 10) : FMet l yX4_wantsAt cX4_wantsAt 2 (some .boolean) 0 0 D ct 19 ad [.ref (ad (5 + k)), .int (h)] (mkc ct ad M) (some (.int (bi (cWant M k h)))) (mkc ct ad M) := by
  refine FMet.of (by decide +kernel) (Nat.le_of_ble_eq_true rfl) ?_
  intro p e s m args below meth c ls hx hb hr hml hown hlocks htg hK hI hP hS hl
  have hl : lv_has ls 2 [(0, .ref (ad (5 + k))), (1, .int (h))] := hl
  refine lv_aload_n hx hb dX4_wantsAt_0 rfl (lv_at hl 0 rfl) ?_
  refine mk_s2 hx hb hown htg hK hP (by omega) fl_X4_18 dX4_wantsAt_1 ?_
  refine lv_aload_n hx hb dX4_wantsAt_4 rfl (lv_at hl 0 rfl) ?_
  refine mk_s1 hx hb hown htg hK hP (by omega) fl_X4_21 dX4_wantsAt_5 ?_
  refine lv_icmp_geR (tgt := 33) hx hb dX4_wantsAt_8 (by decide) (fun c8 => ?_) (fun c8 => ?_)
  · refine lv_iload_n hx hb dX4_wantsAt_33 rfl (lv_at hl 1 rfl) ?_
    refine lv_aload_n hx hb dX4_wantsAt_34 rfl (lv_at hl 0 rfl) ?_
    refine mk_s1 hx hb hown htg hK hP (by omega) fl_X4_21 dX4_wantsAt_35 ?_
    refine lv_icmp_ltR (tgt := 53) hx hb dX4_wantsAt_38 (by decide) (fun c38 => ?_) (fun c38 => ?_)
    · refine lv_iconst (v := nI 0) hx hb dX4_wantsAt_53 (by decide) ?_
      refine fr_iret hx hb hr hlocks hK hI hS rfl dX4_wantsAt_54 ?_ ?_
      · exact (congrArg bi (show (cWant M k h) = false from by first | (exfalso; omega) | (simp only [cWant, c8, Int32.not_lt.mpr c8, c38, Int32.not_le.mpr c38, decide_true, decide_false, Bool.and_true, Bool.true_and, Bool.and_false, Bool.false_and, Bool.or_true, Bool.true_or, Bool.or_false, Bool.false_or, Bool.and_self, Bool.or_self, if_true, if_false, eq_self, Bool.false_eq_true, Bool.true_eq_false, reduceCtorEq, not_true_eq_false, not_false_eq_true, and_true, true_and, and_false, false_and, or_true, true_or, or_false, false_or, and_self, or_self, Int32.add_zero]; done) | (simp only [cWant, c8, Int32.not_lt.mpr c8, c38, Int32.not_le.mpr c38, decide_true, decide_false, Bool.and_true, Bool.true_and, Bool.and_false, Bool.false_and, Bool.or_true, Bool.true_or, Bool.or_false, Bool.false_or, Bool.and_self, Bool.or_self, if_true, if_false, eq_self, Bool.false_eq_true, Bool.true_eq_false, reduceCtorEq, not_true_eq_false, not_false_eq_true, and_true, true_and, and_false, false_and, or_true, true_or, or_false, false_or, and_self, or_self, Int32.add_zero]; rfl))).symm
      · exact hP
    · refine lv_iload_n hx hb dX4_wantsAt_41 rfl (lv_at hl 1 rfl) ?_
      refine lv_aload_n hx hb dX4_wantsAt_42 rfl (lv_at hl 0 rfl) ?_
      refine mk_s2 hx hb hown htg hK hP (by omega) fl_X4_18 dX4_wantsAt_43 ?_
      refine lv_icmp_gtR (tgt := 53) hx hb dX4_wantsAt_46 (by decide) (fun c46 => ?_) (fun c46 => ?_)
      · refine lv_iconst (v := nI 0) hx hb dX4_wantsAt_53 (by decide) ?_
        refine fr_iret hx hb hr hlocks hK hI hS rfl dX4_wantsAt_54 ?_ ?_
        · exact (congrArg bi (show (cWant M k h) = false from by first | (exfalso; omega) | (simp only [cWant, c8, Int32.not_lt.mpr c8, c38, Int32.not_lt.mpr c38, c46, Int32.not_le.mpr c46, decide_true, decide_false, Bool.and_true, Bool.true_and, Bool.and_false, Bool.false_and, Bool.or_true, Bool.true_or, Bool.or_false, Bool.false_or, Bool.and_self, Bool.or_self, if_true, if_false, eq_self, Bool.false_eq_true, Bool.true_eq_false, reduceCtorEq, not_true_eq_false, not_false_eq_true, and_true, true_and, and_false, false_and, or_true, true_or, or_false, false_or, and_self, or_self, Int32.add_zero]; done) | (simp only [cWant, c8, Int32.not_lt.mpr c8, c38, Int32.not_lt.mpr c38, c46, Int32.not_le.mpr c46, decide_true, decide_false, Bool.and_true, Bool.true_and, Bool.and_false, Bool.false_and, Bool.or_true, Bool.true_or, Bool.or_false, Bool.false_or, Bool.and_self, Bool.or_self, if_true, if_false, eq_self, Bool.false_eq_true, Bool.true_eq_false, reduceCtorEq, not_true_eq_false, not_false_eq_true, and_true, true_and, and_false, false_and, or_true, true_or, or_false, false_or, and_self, or_self, Int32.add_zero]; rfl))).symm
        · exact hP
      · refine lv_iconst (v := nI 1) hx hb dX4_wantsAt_49 (by decide) ?_
        refine lv_goto (tgt := 54) hx hb dX4_wantsAt_50 (by decide) ?_
        refine fr_iret hx hb hr hlocks hK hI hS rfl dX4_wantsAt_54 ?_ ?_
        · exact (congrArg bi (show (cWant M k h) = true from by first | (exfalso; omega) | (simp only [cWant, c8, Int32.not_lt.mpr c8, c38, Int32.not_lt.mpr c38, c46, Int32.not_lt.mpr c46, decide_true, decide_false, Bool.and_true, Bool.true_and, Bool.and_false, Bool.false_and, Bool.or_true, Bool.true_or, Bool.or_false, Bool.false_or, Bool.and_self, Bool.or_self, if_true, if_false, eq_self, Bool.false_eq_true, Bool.true_eq_false, reduceCtorEq, not_true_eq_false, not_false_eq_true, and_true, true_and, and_false, false_and, or_true, true_or, or_false, false_or, and_self, or_self, Int32.add_zero]; done) | (simp only [cWant, c8, Int32.not_lt.mpr c8, c38, Int32.not_lt.mpr c38, c46, Int32.not_lt.mpr c46, decide_true, decide_false, Bool.and_true, Bool.true_and, Bool.and_false, Bool.false_and, Bool.or_true, Bool.true_or, Bool.or_false, Bool.false_or, Bool.and_self, Bool.or_self, if_true, if_false, eq_self, Bool.false_eq_true, Bool.true_eq_false, reduceCtorEq, not_true_eq_false, not_false_eq_true, and_true, true_and, and_false, false_and, or_true, true_or, or_false, false_or, and_self, or_self, Int32.add_zero]; rfl))).symm
        · exact hP
  · refine lv_iload_n hx hb dX4_wantsAt_11 rfl (lv_at hl 1 rfl) ?_
    refine lv_aload_n hx hb dX4_wantsAt_12 rfl (lv_at hl 0 rfl) ?_
    refine mk_s1 hx hb hown htg hK hP (by omega) fl_X4_21 dX4_wantsAt_13 ?_
    refine lv_icmp_geR (tgt := 27) hx hb dX4_wantsAt_16 (by decide) (fun c16 => ?_) (fun c16 => ?_)
    · refine lv_iconst (v := nI 1) hx hb dX4_wantsAt_27 (by decide) ?_
      refine lv_goto (tgt := 32) hx hb dX4_wantsAt_28 (by decide) ?_
      refine fr_iret hx hb hr hlocks hK hI hS rfl dX4_wantsAt_32 ?_ ?_
      · exact (congrArg bi (show (cWant M k h) = true from by first | (exfalso; omega) | (simp only [cWant, c8, Int32.not_le.mpr c8, c16, Int32.not_lt.mpr c16, decide_true, decide_false, Bool.and_true, Bool.true_and, Bool.and_false, Bool.false_and, Bool.or_true, Bool.true_or, Bool.or_false, Bool.false_or, Bool.and_self, Bool.or_self, if_true, if_false, eq_self, Bool.false_eq_true, Bool.true_eq_false, reduceCtorEq, not_true_eq_false, not_false_eq_true, and_true, true_and, and_false, false_and, or_true, true_or, or_false, false_or, and_self, or_self, Int32.add_zero]; done) | (simp only [cWant, c8, Int32.not_le.mpr c8, c16, Int32.not_lt.mpr c16, decide_true, decide_false, Bool.and_true, Bool.true_and, Bool.and_false, Bool.false_and, Bool.or_true, Bool.true_or, Bool.or_false, Bool.false_or, Bool.and_self, Bool.or_self, if_true, if_false, eq_self, Bool.false_eq_true, Bool.true_eq_false, reduceCtorEq, not_true_eq_false, not_false_eq_true, and_true, true_and, and_false, false_and, or_true, true_or, or_false, false_or, and_self, or_self, Int32.add_zero]; rfl))).symm
      · exact hP
    · refine lv_iload_n hx hb dX4_wantsAt_19 rfl (lv_at hl 1 rfl) ?_
      refine lv_aload_n hx hb dX4_wantsAt_20 rfl (lv_at hl 0 rfl) ?_
      refine mk_s2 hx hb hown htg hK hP (by omega) fl_X4_18 dX4_wantsAt_21 ?_
      refine lv_icmp_gtR (tgt := 31) hx hb dX4_wantsAt_24 (by decide) (fun c24 => ?_) (fun c24 => ?_)
      · refine lv_iconst (v := nI 0) hx hb dX4_wantsAt_31 (by decide) ?_
        refine fr_iret hx hb hr hlocks hK hI hS rfl dX4_wantsAt_32 ?_ ?_
        · exact (congrArg bi (show (cWant M k h) = false from by first | (exfalso; omega) | (simp only [cWant, c8, Int32.not_le.mpr c8, c16, Int32.not_le.mpr c16, c24, Int32.not_le.mpr c24, decide_true, decide_false, Bool.and_true, Bool.true_and, Bool.and_false, Bool.false_and, Bool.or_true, Bool.true_or, Bool.or_false, Bool.false_or, Bool.and_self, Bool.or_self, if_true, if_false, eq_self, Bool.false_eq_true, Bool.true_eq_false, reduceCtorEq, not_true_eq_false, not_false_eq_true, and_true, true_and, and_false, false_and, or_true, true_or, or_false, false_or, and_self, or_self, Int32.add_zero]; done) | (simp only [cWant, c8, Int32.not_le.mpr c8, c16, Int32.not_le.mpr c16, c24, Int32.not_le.mpr c24, decide_true, decide_false, Bool.and_true, Bool.true_and, Bool.and_false, Bool.false_and, Bool.or_true, Bool.true_or, Bool.or_false, Bool.false_or, Bool.and_self, Bool.or_self, if_true, if_false, eq_self, Bool.false_eq_true, Bool.true_eq_false, reduceCtorEq, not_true_eq_false, not_false_eq_true, and_true, true_and, and_false, false_and, or_true, true_or, or_false, false_or, and_self, or_self, Int32.add_zero]; rfl))).symm
        · exact hP
      · refine lv_iconst (v := nI 1) hx hb dX4_wantsAt_27 (by decide) ?_
        refine lv_goto (tgt := 32) hx hb dX4_wantsAt_28 (by decide) ?_
        refine fr_iret hx hb hr hlocks hK hI hS rfl dX4_wantsAt_32 ?_ ?_
        · exact (congrArg bi (show (cWant M k h) = true from by first | (exfalso; omega) | (simp only [cWant, c8, Int32.not_le.mpr c8, c16, Int32.not_le.mpr c16, c24, Int32.not_lt.mpr c24, decide_true, decide_false, Bool.and_true, Bool.true_and, Bool.and_false, Bool.false_and, Bool.or_true, Bool.true_or, Bool.or_false, Bool.false_or, Bool.and_self, Bool.or_self, if_true, if_false, eq_self, Bool.false_eq_true, Bool.true_eq_false, reduceCtorEq, not_true_eq_false, not_false_eq_true, and_true, true_and, and_false, false_and, or_true, true_or, or_false, false_or, and_self, or_self, Int32.add_zero]; done) | (simp only [cWant, c8, Int32.not_le.mpr c8, c16, Int32.not_le.mpr c16, c24, Int32.not_lt.mpr c24, decide_true, decide_false, Bool.and_true, Bool.true_and, Bool.and_false, Bool.false_and, Bool.or_true, Bool.true_or, Bool.or_false, Bool.false_or, Bool.and_self, Bool.or_self, if_true, if_false, eq_self, Bool.false_eq_true, Bool.true_eq_false, reduceCtorEq, not_true_eq_false, not_false_eq_true, and_true, true_and, and_false, false_and, or_true, true_or, or_false, false_or, and_self, or_self, Int32.add_zero]; rfl))).symm
        · exact hP
set_option maxRecDepth 100000 in
set_option maxHeartbeats 4000000 in
theorem mX2_breakerOf (l : Launch) (D : va_G) (ct : Nat → ClassId) (ad : Nat → Nat) (M : Nat → Int32) (q : Int32)   : FMet l yX2_breakerOf cX2_breakerOf 2 (some .int) 0 0 D ct 19 ad [.ref (ad 0), .int (q)] (mkc ct ad M) (some (.int (cBrk M q))) (mkc ct ad M) := by
  refine FMet.of (by decide +kernel) (Nat.le_of_ble_eq_true rfl) ?_
  intro p e s m args below meth c ls hx hb hr hml hown hlocks htg hK hI hP hS hl
  have hl : lv_has ls 2 [(0, .ref (ad 0)), (1, .int (q))] := hl
  refine lv_iload_n hx hb dX2_breakerOf_0 rfl (lv_at hl 1 rfl) ?_
  refine lv_ifltR (tgt := 10) hx hb dX2_breakerOf_1 (by decide) (fun c1 => ?_) (fun c1 => ?_)
  · refine lv_iconst (v := -1) hx hb dX2_breakerOf_10 (by decide) ?_
    refine fr_iret hx hb hr hlocks hK hI hS rfl dX2_breakerOf_11 ?_ ?_
    · first | (exfalso; omega) | (simp only [cBrk, cB, c1, Int32.not_le.mpr c1, decide_true, decide_false, Bool.and_true, Bool.true_and, Bool.and_false, Bool.false_and, Bool.or_true, Bool.true_or, Bool.or_false, Bool.false_or, Bool.and_self, Bool.or_self, if_true, if_false, eq_self, Bool.false_eq_true, Bool.true_eq_false, reduceCtorEq, not_true_eq_false, not_false_eq_true, and_true, true_and, and_false, false_and, or_true, true_or, or_false, false_or, and_self, or_self, Int32.add_zero]; done) | (simp only [cBrk, cB, c1, Int32.not_le.mpr c1, decide_true, decide_false, Bool.and_true, Bool.true_and, Bool.and_false, Bool.false_and, Bool.or_true, Bool.true_or, Bool.or_false, Bool.false_or, Bool.and_self, Bool.or_self, if_true, if_false, eq_self, Bool.false_eq_true, Bool.true_eq_false, reduceCtorEq, not_true_eq_false, not_false_eq_true, and_true, true_and, and_false, false_and, or_true, true_or, or_false, false_or, and_self, or_self, Int32.add_zero]; rfl)
    · exact hP
  · refine lv_iload_n hx hb dX2_breakerOf_4 rfl (lv_at hl 1 rfl) ?_
    refine lv_bipush (v := nI 12) hx hb dX2_breakerOf_5 (by decide) ?_
    refine lv_icmp_ltR (tgt := 12) hx hb dX2_breakerOf_7 (by decide) (fun c7 => ?_) (fun c7 => ?_)
    · have hq9 := rng_n (m := 12) (by decide) c1 c7
      have hq12 := hq9.2
      refine lv_aload_n hx hb dX2_breakerOf_12 rfl (lv_at hl 0 rfl) ?_
      refine mk_g3 hx hb hown htg hK hP fl_X2_23 dX2_breakerOf_13 ?_
      refine lv_iload_n hx hb dX2_breakerOf_16 rfl (lv_at hl 1 rfl) ?_
      refine lv_teq hq9.1 ?_
      refine mk_lo hx hb hK hP (by omega) dX2_breakerOf_17 ?_
      refine lv_if_eq (tgt := 25) hx hb dX2_breakerOf_18 (by decide) (fun c18 => ?_) (fun c18 => ?_)
      · refine lv_iload_n hx hb dX2_breakerOf_25 rfl (lv_at hl 1 rfl) ?_
        refine lv_teq hq9.1 ?_
        refine lv_iconst (v := nI 3) hx hb dX2_breakerOf_26 (by decide) ?_
        refine lv_idivN hx hb (by omega) (by omega) (by omega) dX2_breakerOf_27 ?_
        refine fr_iret hx hb hr hlocks hK hI hS rfl dX2_breakerOf_28 ?_ ?_
        · first | (exfalso; omega) | (simp only [cBrk, cB, c1, Int32.not_lt.mpr c1, c7, Int32.not_le.mpr c7, c18, decide_true, decide_false, Bool.and_true, Bool.true_and, Bool.and_false, Bool.false_and, Bool.or_true, Bool.true_or, Bool.or_false, Bool.false_or, Bool.and_self, Bool.or_self, if_true, if_false, eq_self, Bool.false_eq_true, Bool.true_eq_false, reduceCtorEq, not_true_eq_false, not_false_eq_true, and_true, true_and, and_false, false_and, or_true, true_or, or_false, false_or, and_self, or_self, Int32.add_zero]; done) | (simp only [cBrk, cB, c1, Int32.not_lt.mpr c1, c7, Int32.not_le.mpr c7, c18, decide_true, decide_false, Bool.and_true, Bool.true_and, Bool.and_false, Bool.false_and, Bool.or_true, Bool.true_or, Bool.or_false, Bool.false_or, Bool.and_self, Bool.or_self, if_true, if_false, eq_self, Bool.false_eq_true, Bool.true_eq_false, reduceCtorEq, not_true_eq_false, not_false_eq_true, and_true, true_and, and_false, false_and, or_true, true_or, or_false, false_or, and_self, or_self, Int32.add_zero]; rfl)
        · exact hP
      · refine lv_iconst (v := nI 3) hx hb dX2_breakerOf_21 (by decide) ?_
        refine lv_goto (tgt := 28) hx hb dX2_breakerOf_22 (by decide) ?_
        refine fr_iret hx hb hr hlocks hK hI hS rfl dX2_breakerOf_28 ?_ ?_
        · first | (exfalso; omega) | (simp only [cBrk, cB, c1, Int32.not_lt.mpr c1, c7, Int32.not_le.mpr c7, c18, decide_true, decide_false, Bool.and_true, Bool.true_and, Bool.and_false, Bool.false_and, Bool.or_true, Bool.true_or, Bool.or_false, Bool.false_or, Bool.and_self, Bool.or_self, if_true, if_false, eq_self, Bool.false_eq_true, Bool.true_eq_false, reduceCtorEq, not_true_eq_false, not_false_eq_true, and_true, true_and, and_false, false_and, or_true, true_or, or_false, false_or, and_self, or_self, Int32.add_zero]; done) | (simp only [cBrk, cB, c1, Int32.not_lt.mpr c1, c7, Int32.not_le.mpr c7, c18, decide_true, decide_false, Bool.and_true, Bool.true_and, Bool.and_false, Bool.false_and, Bool.or_true, Bool.true_or, Bool.or_false, Bool.false_or, Bool.and_self, Bool.or_self, if_true, if_false, eq_self, Bool.false_eq_true, Bool.true_eq_false, reduceCtorEq, not_true_eq_false, not_false_eq_true, and_true, true_and, and_false, false_and, or_true, true_or, or_false, false_or, and_self, or_self, Int32.add_zero]; rfl)
        · exact hP
    · refine lv_iconst (v := -1) hx hb dX2_breakerOf_10 (by decide) ?_
      refine fr_iret hx hb hr hlocks hK hI hS rfl dX2_breakerOf_11 ?_ ?_
      · first | (exfalso; omega) | (simp only [cBrk, cB, c1, Int32.not_lt.mpr c1, c7, Int32.not_lt.mpr c7, decide_true, decide_false, Bool.and_true, Bool.true_and, Bool.and_false, Bool.false_and, Bool.or_true, Bool.true_or, Bool.or_false, Bool.false_or, Bool.and_self, Bool.or_self, if_true, if_false, eq_self, Bool.false_eq_true, Bool.true_eq_false, reduceCtorEq, not_true_eq_false, not_false_eq_true, and_true, true_and, and_false, false_and, or_true, true_or, or_false, false_or, and_self, or_self, Int32.add_zero]; done) | (simp only [cBrk, cB, c1, Int32.not_lt.mpr c1, c7, Int32.not_lt.mpr c7, decide_true, decide_false, Bool.and_true, Bool.true_and, Bool.and_false, Bool.false_and, Bool.or_true, Bool.true_or, Bool.or_false, Bool.false_or, Bool.and_self, Bool.or_self, if_true, if_false, eq_self, Bool.false_eq_true, Bool.true_eq_false, reduceCtorEq, not_true_eq_false, not_false_eq_true, and_true, true_and, and_false, false_and, or_true, true_or, or_false, false_or, and_self, or_self, Int32.add_zero]; rfl)
      · exact hP
set_option maxRecDepth 100000 in
set_option maxHeartbeats 4000000 in
theorem mX2_sourceOf (l : Launch) (D : va_G) (ct : Nat → ClassId) (ad : Nat → Nat) (M : Nat → Int32) (k : Nat)  (hk : k < 10) : FMet l yX2_sourceOf cX2_sourceOf 3 (some .int) 1 21 D ct 19 ad [.ref (ad 0), .ref (ad (5 + k))] (mkc ct ad M) (some (.int (cSrc M k))) (mkc ct ad M) := by
  refine FMet.of (by decide +kernel) (Nat.le_of_ble_eq_true rfl) ?_
  intro p e s m args below meth c ls hx hb hr hml hown hlocks htg hK hI hP hS hl
  have hl : lv_has ls 3 [(0, .ref (ad 0)), (1, .ref (ad (5 + k)))] := hl
  refine lv_aload_n hx hb dX2_sourceOf_0 rfl (lv_at hl 0 rfl) ?_
  refine lv_aload_n hx hb dX2_sourceOf_1 rfl (lv_at hl 1 rfl) ?_
  refine mk_s4 hx hb hown htg hK hP (by omega) fl_X2_71 dX2_sourceOf_2 ?_
  refine mk_cmr (As := [.int (M (39 + 8 * k + 4))]) (rest := []) hx hb hown htg hK hI hS hP hml hl.1 (mX2_breakerOf l D ct ad _ (M (39 + 8 * k + 4))) cw_X2_134 rfl rfl ⟨Nat.le_of_ble_eq_true rfl, Nat.le_of_ble_eq_true rfl⟩ (Nat.le_of_ble_eq_true rfl) dX2_sourceOf_5 ⟨Nat.le_refl _, Nat.le_refl _⟩ (fun H locs hP hS => ?_)
  refine lv_istore_n (lv' := [(2, .int (cBrk M (M (39 + 8 * k + 4)))), (0, .ref (ad 0)), (1, .ref (ad (5 + k)))]) hx hb dX2_sourceOf_8 rfl hl (by decide) rfl (fun ls hl => ?_)
  refine lv_iload_n hx hb dX2_sourceOf_9 rfl (lv_at hl 0 rfl) ?_
  refine lv_iconst (v := -1) hx hb dX2_sourceOf_10 (by decide) ?_
  refine lv_icmp_eq (tgt := 47) hx hb dX2_sourceOf_11 (by decide) (fun c11 => ?_) (fun c11 => ?_)
  · refine lv_iconst (v := -1) hx hb dX2_sourceOf_47 (by decide) ?_
    refine fr_iret hx hb hr hlocks hK hI hS rfl dX2_sourceOf_48 ?_ ?_
    · first | (exfalso; omega) | (simp only [cSrc, hrD, c11, decide_true, decide_false, Bool.and_true, Bool.true_and, Bool.and_false, Bool.false_and, Bool.or_true, Bool.true_or, Bool.or_false, Bool.false_or, Bool.and_self, Bool.or_self, if_true, if_false, eq_self, Bool.false_eq_true, Bool.true_eq_false, reduceCtorEq, not_true_eq_false, not_false_eq_true, and_true, true_and, and_false, false_and, or_true, true_or, or_false, false_or, and_self, or_self, Int32.add_zero]; done) | (simp only [cSrc, hrD, c11, decide_true, decide_false, Bool.and_true, Bool.true_and, Bool.and_false, Bool.false_and, Bool.or_true, Bool.true_or, Bool.or_false, Bool.false_or, Bool.and_self, Bool.or_self, if_true, if_false, eq_self, Bool.false_eq_true, Bool.true_eq_false, reduceCtorEq, not_true_eq_false, not_false_eq_true, and_true, true_and, and_false, false_and, or_true, true_or, or_false, false_or, and_self, or_self, Int32.add_zero]; rfl)
    · exact hP
  · have hb9 := cBrk_n c11
    have hb49 := hb9.2
    refine lv_aload_n hx hb dX2_sourceOf_14 rfl (lv_at hl 2 rfl) ?_
    refine mk_s5 hx hb hown htg hK hP (by omega) fl_X2_114 dX2_sourceOf_15 ?_
    refine lv_if_ne (tgt := 47) hx hb dX2_sourceOf_18 (by decide) (fun c18 => ?_) (fun c18 => ?_)
    · refine lv_iconst (v := -1) hx hb dX2_sourceOf_47 (by decide) ?_
      refine fr_iret hx hb hr hlocks hK hI hS rfl dX2_sourceOf_48 ?_ ?_
      · first | (exfalso; omega) | (simp only [cSrc, hrD, c11, c18, decide_true, decide_false, Bool.and_true, Bool.true_and, Bool.and_false, Bool.false_and, Bool.or_true, Bool.true_or, Bool.or_false, Bool.false_or, Bool.and_self, Bool.or_self, if_true, if_false, eq_self, Bool.false_eq_true, Bool.true_eq_false, reduceCtorEq, not_true_eq_false, not_false_eq_true, and_true, true_and, and_false, false_and, or_true, true_or, or_false, false_or, and_self, or_self, Int32.add_zero]; done) | (simp only [cSrc, hrD, c11, c18, decide_true, decide_false, Bool.and_true, Bool.true_and, Bool.and_false, Bool.false_and, Bool.or_true, Bool.true_or, Bool.or_false, Bool.false_or, Bool.and_self, Bool.or_self, if_true, if_false, eq_self, Bool.false_eq_true, Bool.true_eq_false, reduceCtorEq, not_true_eq_false, not_false_eq_true, and_true, true_and, and_false, false_and, or_true, true_or, or_false, false_or, and_self, or_self, Int32.add_zero]; rfl)
      · exact hP
    · refine lv_aload_n hx hb dX2_sourceOf_21 rfl (lv_at hl 1 rfl) ?_
      refine mk_g2 hx hb hown htg hK hP fl_X2_19 dX2_sourceOf_22 ?_
      refine lv_iload_n hx hb dX2_sourceOf_25 rfl (lv_at hl 0 rfl) ?_
      refine lv_teq hb9.1 ?_
      refine mk_ab hx hb hK hP (by omega) dX2_sourceOf_26 ?_
      refine mk_b1 hx hb hown htg hK hP (by omega) fl_X2_137 dX2_sourceOf_27 ?_
      refine lv_if_eq (tgt := 47) hx hb dX2_sourceOf_30 (by decide) (fun c30 => ?_) (fun c30 => ?_)
      · refine lv_iconst (v := -1) hx hb dX2_sourceOf_47 (by decide) ?_
        refine fr_iret hx hb hr hlocks hK hI hS rfl dX2_sourceOf_48 ?_ ?_
        · first | (exfalso; omega) | (simp only [cSrc, hrD, c11, c18, c30, decide_true, decide_false, Bool.and_true, Bool.true_and, Bool.and_false, Bool.false_and, Bool.or_true, Bool.true_or, Bool.or_false, Bool.false_or, Bool.and_self, Bool.or_self, if_true, if_false, eq_self, Bool.false_eq_true, Bool.true_eq_false, reduceCtorEq, not_true_eq_false, not_false_eq_true, and_true, true_and, and_false, false_and, or_true, true_or, or_false, false_or, and_self, or_self, Int32.add_zero]; done) | (simp only [cSrc, hrD, c11, c18, c30, decide_true, decide_false, Bool.and_true, Bool.true_and, Bool.and_false, Bool.false_and, Bool.or_true, Bool.true_or, Bool.or_false, Bool.false_or, Bool.and_self, Bool.or_self, if_true, if_false, eq_self, Bool.false_eq_true, Bool.true_eq_false, reduceCtorEq, not_true_eq_false, not_false_eq_true, and_true, true_and, and_false, false_and, or_true, true_or, or_false, false_or, and_self, or_self, Int32.add_zero]; rfl)
        · exact hP
      · refine lv_aload_n hx hb dX2_sourceOf_33 rfl (lv_at hl 2 rfl) ?_
        refine lv_aload_n hx hb dX2_sourceOf_34 rfl (lv_at hl 1 rfl) ?_
        refine mk_g5 hx hb hown htg hK hP fl_X2_58 dX2_sourceOf_35 ?_
        refine lv_bipush (v := nI 24) hx hb dX2_sourceOf_38 (by decide) ?_
        refine lv_irem hx hb dX2_sourceOf_40 (by decide) ?_
        refine mk_csr (As := [.int ((M 3) - (M 3) / (nI 24) * (nI 24))]) (rest := []) (by omega) hx hb hown htg hK hI hS hP hml hl.1 (mX4_wantsAt l D ct ad _ k ((M 3) - (M 3) / (nI 24) * (nI 24)) (by omega)) cw_X2_127 rfl rfl ⟨Nat.le_of_ble_eq_true rfl, Nat.le_of_ble_eq_true rfl⟩ (Nat.le_of_ble_eq_true rfl) dX2_sourceOf_41 ⟨Nat.le_refl _, Nat.le_refl _⟩ (fun H locs hP hS => ?_)
        refine lv_ifneB (tgt := 49) hx hb dX2_sourceOf_44 (by decide) (fun c44 => ?_) (fun c44 => ?_)
        · refine lv_iload_n hx hb dX2_sourceOf_49 rfl (lv_at hl 0 rfl) ?_
          refine lv_teq hb9.1 ?_
          refine fr_iret hx hb hr hlocks hK hI hS rfl dX2_sourceOf_50 ?_ ?_
          · first | (exfalso; omega) | (simp only [cSrc, hrD, c11, c18, c30, c44, decide_true, decide_false, Bool.and_true, Bool.true_and, Bool.and_false, Bool.false_and, Bool.or_true, Bool.true_or, Bool.or_false, Bool.false_or, Bool.and_self, Bool.or_self, if_true, if_false, eq_self, Bool.false_eq_true, Bool.true_eq_false, reduceCtorEq, not_true_eq_false, not_false_eq_true, and_true, true_and, and_false, false_and, or_true, true_or, or_false, false_or, and_self, or_self, Int32.add_zero]; done) | (simp only [cSrc, hrD, c11, c18, c30, c44, decide_true, decide_false, Bool.and_true, Bool.true_and, Bool.and_false, Bool.false_and, Bool.or_true, Bool.true_or, Bool.or_false, Bool.false_or, Bool.and_self, Bool.or_self, if_true, if_false, eq_self, Bool.false_eq_true, Bool.true_eq_false, reduceCtorEq, not_true_eq_false, not_false_eq_true, and_true, true_and, and_false, false_and, or_true, true_or, or_false, false_or, and_self, or_self, Int32.add_zero]; rfl)
          · exact hP
        · refine lv_iconst (v := -1) hx hb dX2_sourceOf_47 (by decide) ?_
          refine fr_iret hx hb hr hlocks hK hI hS rfl dX2_sourceOf_48 ?_ ?_
          · first | (exfalso; omega) | (simp only [cSrc, hrD, c11, c18, c30, c44, decide_true, decide_false, Bool.and_true, Bool.true_and, Bool.and_false, Bool.false_and, Bool.or_true, Bool.true_or, Bool.or_false, Bool.false_or, Bool.and_self, Bool.or_self, if_true, if_false, eq_self, Bool.false_eq_true, Bool.true_eq_false, reduceCtorEq, not_true_eq_false, not_false_eq_true, and_true, true_and, and_false, false_and, or_true, true_or, or_false, false_or, and_self, or_self, Int32.add_zero]; done) | (simp only [cSrc, hrD, c11, c18, c30, c44, decide_true, decide_false, Bool.and_true, Bool.true_and, Bool.and_false, Bool.false_and, Bool.or_true, Bool.true_or, Bool.or_false, Bool.false_or, Bool.and_self, Bool.or_self, if_true, if_false, eq_self, Bool.false_eq_true, Bool.true_eq_false, reduceCtorEq, not_true_eq_false, not_false_eq_true, and_true, true_and, and_false, false_and, or_true, true_or, or_false, false_or, and_self, or_self, Int32.add_zero]; rfl)
          · exact hP
set_option maxRecDepth 100000 in
set_option maxHeartbeats 4000000 in
theorem mX2_reasonOf (l : Launch) (D : va_G) (ct : Nat → ClassId) (ad : Nat → Nat) (M : Nat → Int32) (k : Nat)  (hk : k < 10) : FMet l yX2_reasonOf cX2_reasonOf 3 (some .int) 1 21 D ct 19 ad [.ref (ad 0), .ref (ad (5 + k))] (mkc ct ad M) (some (.int (nI (cRsn M k)))) (mkc ct ad M) := by
  refine FMet.of (by decide +kernel) (Nat.le_of_ble_eq_true rfl) ?_
  intro p e s m args below meth c ls hx hb hr hml hown hlocks htg hK hI hP hS hl
  have hl : lv_has ls 3 [(0, .ref (ad 0)), (1, .ref (ad (5 + k)))] := hl
  refine lv_aload_n hx hb dX2_reasonOf_0 rfl (lv_at hl 1 rfl) ?_
  refine lv_aload_n hx hb dX2_reasonOf_1 rfl (lv_at hl 0 rfl) ?_
  refine mk_g5 hx hb hown htg hK hP fl_X2_58 dX2_reasonOf_2 ?_
  refine lv_bipush (v := nI 24) hx hb dX2_reasonOf_5 (by decide) ?_
  refine lv_irem hx hb dX2_reasonOf_7 (by decide) ?_
  refine mk_csr (As := [.int ((M 3) - (M 3) / (nI 24) * (nI 24))]) (rest := []) (by omega) hx hb hown htg hK hI hS hP hml hl.1 (mX4_wantsAt l D ct ad _ k ((M 3) - (M 3) / (nI 24) * (nI 24)) (by omega)) cw_X2_127 rfl rfl ⟨Nat.le_of_ble_eq_true rfl, Nat.le_of_ble_eq_true rfl⟩ (Nat.le_of_ble_eq_true rfl) dX2_reasonOf_8 ⟨Nat.le_refl _, Nat.le_refl _⟩ (fun H locs hP hS => ?_)
  refine lv_ifneB (tgt := 16) hx hb dX2_reasonOf_11 (by decide) (fun c11 => ?_) (fun c11 => ?_)
  · refine lv_aload_n hx hb dX2_reasonOf_16 rfl (lv_at hl 0 rfl) ?_
    refine lv_aload_n hx hb dX2_reasonOf_17 rfl (lv_at hl 1 rfl) ?_
    refine mk_s4 hx hb hown htg hK hP (by omega) fl_X2_71 dX2_reasonOf_18 ?_
    refine mk_cmr (As := [.int (M (39 + 8 * k + 4))]) (rest := []) hx hb hown htg hK hI hS hP hml hl.1 (mX2_breakerOf l D ct ad _ (M (39 + 8 * k + 4))) cw_X2_134 rfl rfl ⟨Nat.le_of_ble_eq_true rfl, Nat.le_of_ble_eq_true rfl⟩ (Nat.le_of_ble_eq_true rfl) dX2_reasonOf_21 ⟨Nat.le_refl _, Nat.le_refl _⟩ (fun H locs hP hS => ?_)
    refine lv_istore_n (lv' := [(2, .int (cBrk M (M (39 + 8 * k + 4)))), (0, .ref (ad 0)), (1, .ref (ad (5 + k)))]) hx hb dX2_reasonOf_24 rfl hl (by decide) rfl (fun ls hl => ?_)
    refine lv_iload_n hx hb dX2_reasonOf_25 rfl (lv_at hl 0 rfl) ?_
    refine lv_iconst (v := -1) hx hb dX2_reasonOf_26 (by decide) ?_
    refine lv_icmp_ne (tgt := 32) hx hb dX2_reasonOf_27 (by decide) (fun c27 => ?_) (fun c27 => ?_)
    · have hb9 := cBrk_n c27
      have hb49 := hb9.2
      refine lv_aload_n hx hb dX2_reasonOf_32 rfl (lv_at hl 1 rfl) ?_
      refine mk_g2 hx hb hown htg hK hP fl_X2_19 dX2_reasonOf_33 ?_
      refine lv_iload_n hx hb dX2_reasonOf_36 rfl (lv_at hl 0 rfl) ?_
      refine lv_teq hb9.1 ?_
      refine mk_ab hx hb hK hP (by omega) dX2_reasonOf_37 ?_
      refine mk_b1 hx hb hown htg hK hP (by omega) fl_X2_137 dX2_reasonOf_38 ?_
      refine lv_if_ne (tgt := 46) hx hb dX2_reasonOf_41 (by decide) (fun c41 => ?_) (fun c41 => ?_)
      · refine lv_aload_n hx hb dX2_reasonOf_46 rfl (lv_at hl 2 rfl) ?_
        refine mk_s5 hx hb hown htg hK hP (by omega) fl_X2_114 dX2_reasonOf_47 ?_
        refine lv_if_eq (tgt := 57) hx hb dX2_reasonOf_50 (by decide) (fun c50 => ?_) (fun c50 => ?_)
        · refine lv_iconst (v := nI 0) hx hb dX2_reasonOf_57 (by decide) ?_
          refine fr_iret hx hb hr hlocks hK hI hS rfl dX2_reasonOf_58 ?_ ?_
          · exact congrArg nI (show 0 = cRsn M k from by first | (exfalso; omega) | (simp only [cRsn, hrD, c11, c27, c41, c50, decide_true, decide_false, Bool.and_true, Bool.true_and, Bool.and_false, Bool.false_and, Bool.or_true, Bool.true_or, Bool.or_false, Bool.false_or, Bool.and_self, Bool.or_self, if_true, if_false, eq_self, Bool.false_eq_true, Bool.true_eq_false, reduceCtorEq, not_true_eq_false, not_false_eq_true, and_true, true_and, and_false, false_and, or_true, true_or, or_false, false_or, and_self, or_self, Int32.add_zero]; done) | (simp only [cRsn, hrD, c11, c27, c41, c50, decide_true, decide_false, Bool.and_true, Bool.true_and, Bool.and_false, Bool.false_and, Bool.or_true, Bool.true_or, Bool.or_false, Bool.false_or, Bool.and_self, Bool.or_self, if_true, if_false, eq_self, Bool.false_eq_true, Bool.true_eq_false, reduceCtorEq, not_true_eq_false, not_false_eq_true, and_true, true_and, and_false, false_and, or_true, true_or, or_false, false_or, and_self, or_self, Int32.add_zero]; rfl))
          · exact hP
        · refine lv_iconst (v := nI 4) hx hb dX2_reasonOf_53 (by decide) ?_
          refine lv_goto (tgt := 58) hx hb dX2_reasonOf_54 (by decide) ?_
          refine fr_iret hx hb hr hlocks hK hI hS rfl dX2_reasonOf_58 ?_ ?_
          · exact congrArg nI (show 4 = cRsn M k from by first | (exfalso; omega) | (simp only [cRsn, hrD, c11, c27, c41, c50, decide_true, decide_false, Bool.and_true, Bool.true_and, Bool.and_false, Bool.false_and, Bool.or_true, Bool.true_or, Bool.or_false, Bool.false_or, Bool.and_self, Bool.or_self, if_true, if_false, eq_self, Bool.false_eq_true, Bool.true_eq_false, reduceCtorEq, not_true_eq_false, not_false_eq_true, and_true, true_and, and_false, false_and, or_true, true_or, or_false, false_or, and_self, or_self, Int32.add_zero]; done) | (simp only [cRsn, hrD, c11, c27, c41, c50, decide_true, decide_false, Bool.and_true, Bool.true_and, Bool.and_false, Bool.false_and, Bool.or_true, Bool.true_or, Bool.or_false, Bool.false_or, Bool.and_self, Bool.or_self, if_true, if_false, eq_self, Bool.false_eq_true, Bool.true_eq_false, reduceCtorEq, not_true_eq_false, not_false_eq_true, and_true, true_and, and_false, false_and, or_true, true_or, or_false, false_or, and_self, or_self, Int32.add_zero]; rfl))
          · exact hP
      · refine lv_iconst (v := nI 3) hx hb dX2_reasonOf_44 (by decide) ?_
        refine fr_iret hx hb hr hlocks hK hI hS rfl dX2_reasonOf_45 ?_ ?_
        · exact congrArg nI (show 3 = cRsn M k from by first | (exfalso; omega) | (simp only [cRsn, hrD, c11, c27, c41, decide_true, decide_false, Bool.and_true, Bool.true_and, Bool.and_false, Bool.false_and, Bool.or_true, Bool.true_or, Bool.or_false, Bool.false_or, Bool.and_self, Bool.or_self, if_true, if_false, eq_self, Bool.false_eq_true, Bool.true_eq_false, reduceCtorEq, not_true_eq_false, not_false_eq_true, and_true, true_and, and_false, false_and, or_true, true_or, or_false, false_or, and_self, or_self, Int32.add_zero]; done) | (simp only [cRsn, hrD, c11, c27, c41, decide_true, decide_false, Bool.and_true, Bool.true_and, Bool.and_false, Bool.false_and, Bool.or_true, Bool.true_or, Bool.or_false, Bool.false_or, Bool.and_self, Bool.or_self, if_true, if_false, eq_self, Bool.false_eq_true, Bool.true_eq_false, reduceCtorEq, not_true_eq_false, not_false_eq_true, and_true, true_and, and_false, false_and, or_true, true_or, or_false, false_or, and_self, or_self, Int32.add_zero]; rfl))
        · exact hP
    · refine lv_iconst (v := nI 2) hx hb dX2_reasonOf_30 (by decide) ?_
      refine fr_iret hx hb hr hlocks hK hI hS rfl dX2_reasonOf_31 ?_ ?_
      · exact congrArg nI (show 2 = cRsn M k from by first | (exfalso; omega) | (simp only [cRsn, hrD, c11, c27, decide_true, decide_false, Bool.and_true, Bool.true_and, Bool.and_false, Bool.false_and, Bool.or_true, Bool.true_or, Bool.or_false, Bool.false_or, Bool.and_self, Bool.or_self, if_true, if_false, eq_self, Bool.false_eq_true, Bool.true_eq_false, reduceCtorEq, not_true_eq_false, not_false_eq_true, and_true, true_and, and_false, false_and, or_true, true_or, or_false, false_or, and_self, or_self, Int32.add_zero]; done) | (simp only [cRsn, hrD, c11, c27, decide_true, decide_false, Bool.and_true, Bool.true_and, Bool.and_false, Bool.false_and, Bool.or_true, Bool.true_or, Bool.or_false, Bool.false_or, Bool.and_self, Bool.or_self, if_true, if_false, eq_self, Bool.false_eq_true, Bool.true_eq_false, reduceCtorEq, not_true_eq_false, not_false_eq_true, and_true, true_and, and_false, false_and, or_true, true_or, or_false, false_or, and_self, or_self, Int32.add_zero]; rfl))
      · exact hP
  · refine lv_iconst (v := nI 1) hx hb dX2_reasonOf_14 (by decide) ?_
    refine fr_iret hx hb hr hlocks hK hI hS rfl dX2_reasonOf_15 ?_ ?_
    · exact congrArg nI (show 1 = cRsn M k from by first | (exfalso; omega) | (simp only [cRsn, hrD, c11, decide_true, decide_false, Bool.and_true, Bool.true_and, Bool.and_false, Bool.false_and, Bool.or_true, Bool.true_or, Bool.or_false, Bool.false_or, Bool.and_self, Bool.or_self, if_true, if_false, eq_self, Bool.false_eq_true, Bool.true_eq_false, reduceCtorEq, not_true_eq_false, not_false_eq_true, and_true, true_and, and_false, false_and, or_true, true_or, or_false, false_or, and_self, or_self, Int32.add_zero]; done) | (simp only [cRsn, hrD, c11, decide_true, decide_false, Bool.and_true, Bool.true_and, Bool.and_false, Bool.false_and, Bool.or_true, Bool.true_or, Bool.or_false, Bool.false_or, Bool.and_self, Bool.or_self, if_true, if_false, eq_self, Bool.false_eq_true, Bool.true_eq_false, reduceCtorEq, not_true_eq_false, not_false_eq_true, and_true, true_and, and_false, false_and, or_true, true_or, or_false, false_or, and_self, or_self, Int32.add_zero]; rfl))
    · exact hP
set_option maxRecDepth 100000 in
set_option maxHeartbeats 4000000 in
theorem mX2_feeOf (l : Launch) (D : va_G) (ct : Nat → ClassId) (ad : Nat → Nat) (M : Nat → Int32) (k : Nat)  (hk : k < 10) : FMet l yX2_feeOf cX2_feeOf 2 (some .int) 0 0 D ct 19 ad [.ref (ad 0), .ref (ad (5 + k))] (mkc ct ad M) (some (.int (cFee M k))) (mkc ct ad M) := by
  refine FMet.of (by decide +kernel) (Nat.le_of_ble_eq_true rfl) ?_
  intro p e s m args below meth c ls hx hb hr hml hown hlocks htg hK hI hP hS hl
  have hl : lv_has ls 2 [(0, .ref (ad 0)), (1, .ref (ad (5 + k)))] := hl
  refine lv_aload_n hx hb dX2_feeOf_0 rfl (lv_at hl 1 rfl) ?_
  refine mk_s6 hx hb hown htg hK hP (by omega) fl_X2_121 dX2_feeOf_1 ?_
  refine lv_aload_n hx hb dX2_feeOf_4 rfl (lv_at hl 0 rfl) ?_
  refine mk_g4 hx hb hown htg hK hP fl_X2_36 dX2_feeOf_5 ?_
  refine lv_iconst (v := nI 2) hx hb dX2_feeOf_8 (by decide) ?_
  refine mk_lt hx hb hK hP (by omega) dX2_feeOf_9 ?_
  refine lv_imul hx hb dX2_feeOf_10 ?_
  refine lv_bipush (v := nI 10) hx hb dX2_feeOf_11 (by decide) ?_
  refine lv_idiv hx hb dX2_feeOf_13 (by decide) ?_
  refine fr_iret hx hb hr hlocks hK hI hS rfl dX2_feeOf_14 ?_ ?_
  · rfl
  · exact hP
set_option maxRecDepth 100000 in
set_option maxHeartbeats 4000000 in
theorem mX2_loadOn (l : Launch) (D : va_G) (ct : Nat → ClassId) (ad : Nat → Nat) (M : Nat → Int32) (b : Int32) (n : Nat) (hw : mW M n) : FMet l yX2_loadOn cX2_loadOn 4 (some .int) 2 43 D ct 19 ad [.ref (ad 0), .int (b)] (mkc ct ad M) (some (.int (cLod M b n))) (mkc ct ad M) := by
  refine FMet.of (by decide +kernel) (Nat.le_of_ble_eq_true rfl) ?_
  intro p e s m args below meth c ls hx hb hr hml hown hlocks htg hK hI hP hS hl
  have hl : lv_has ls 4 [(0, .ref (ad 0)), (1, .int (b))] := hl
  have hn10 := hw.2
  refine lv_iconst (v := nI 0) hx hb dX2_loadOn_0 (by decide) ?_
  refine lv_istore_n (lv' := [(2, .int (nI 0)), (0, .ref (ad 0)), (1, .int (b))]) hx hb dX2_loadOn_1 rfl hl (by decide) rfl (fun ls hl => ?_)
  refine lv_iconst (v := nI 0) hx hb dX2_loadOn_2 (by decide) ?_
  refine lv_istore_n (lv' := [(3, .int (nI 0)), (2, .int (nI 0)), (0, .ref (ad 0)), (1, .int (b))]) hx hb dX2_loadOn_3 rfl hl (by decide) rfl (fun ls hl => ?_)
  have lp4 : ∀ (fu4 : Nat) (i : Nat), i ≤ n → n - i < fu4 → ∀ (H : Heap) (locs : List Loc), fP D 19 ad (mkc ct ad M) H → va_S (fA 19 ad) s.heap H locs → ∀ (ls : Array Slot), lv_has ls 4 [(3, .int (nI i)), (2, .int (cLod M b i)), (0, .ref (ad 0)), (1, .int (b))] → W p l e ({ frames := 2, cells := 0, slots := 0, locals := 43 }) s m args below meth c H locs 0 0 (MQ below (fQ D ct 19 ad (some (.int (cLod M b n))) (mkc ct ad M)) args s 0 0 (fA 19 ad)) (F0 m 4 ls []) := by
    intro fu4
    induction fu4 with
    | zero => intro i hi hfu4; exact absurd hfu4 (Nat.not_lt_zero _)
    | succ fu4 ih4 =>
      intro i hi hfu4 H locs hP hS ls hl
      refine lv_iload_n hx hb dX2_loadOn_4 rfl (lv_at hl 0 rfl) ?_
      refine lv_aload_n hx hb dX2_loadOn_5 rfl (lv_at hl 2 rfl) ?_
      refine mk_g1 hx hb hown htg hK hP fl_X2_41 dX2_loadOn_6 ?_
      refine lv_teq (hw).1 ?_
      refine lv_icmp_geN (tgt := 44) hx hb (by omega) (by omega) dX2_loadOn_9 (by decide) (fun c9 => ?_) (fun c9 => ?_)
      · have e9 : n = i := by omega
        subst e9
        refine lv_iload_n hx hb dX2_loadOn_44 rfl (lv_at hl 1 rfl) ?_
        refine fr_iret hx hb hr hlocks hK hI hS rfl dX2_loadOn_45 ?_ ?_
        · exact rfl
        · exact hP
      · refine lv_aload_n hx hb dX2_loadOn_12 rfl (lv_at hl 2 rfl) ?_
        refine lv_aload_n hx hb dX2_loadOn_13 rfl (lv_at hl 2 rfl) ?_
        refine mk_g0 hx hb hown htg hK hP fl_X2_11 dX2_loadOn_14 ?_
        refine lv_iload_n hx hb dX2_loadOn_17 rfl (lv_at hl 0 rfl) ?_
        refine mk_as hx hb hK hP (by omega) dX2_loadOn_18 ?_
        refine mk_cmr (As := [.ref (ad (5 + i))]) (rest := []) hx hb hown htg hK hI hS hP hml hl.1 (mX2_sourceOf l D ct ad _ i (by omega)) cw_X2_96 rfl rfl ⟨Nat.le_of_ble_eq_true rfl, Nat.le_of_ble_eq_true rfl⟩ (Nat.le_of_ble_eq_true rfl) dX2_loadOn_19 ⟨Nat.le_refl _, Nat.le_refl _⟩ (fun H locs hP hS => ?_)
        refine lv_iload_n hx hb dX2_loadOn_22 rfl (lv_at hl 3 rfl) ?_
        refine lv_icmp_ne (tgt := 38) hx hb dX2_loadOn_23 (by decide) (fun c23 => ?_) (fun c23 => ?_)
        · refine lv_iinc (v := nI (i + 1)) (lv' := [(3, .int (nI (i + 1))), (2, .int (cLod M b i)), (0, .ref (ad 0)), (1, .int (b))]) hx hb dX2_loadOn_38 hl (k := 0) rfl (nI_add i 1) (by decide) rfl (fun ls hl => ?_)
          refine lv_goto (tgt := 4) hx hb dX2_loadOn_41 (by decide) ?_
          have hl := lv_sub (l' := [(3, .int (nI (i + 1))), (2, .int (cLod M b i)), (0, .ref (ad 0)), (1, .int (b))]) hl [0, 1, 2, 3] rfl
          have le2 : Value.int (cLod M b i) = Value.int (cLod M b (i + 1)) := by first | (exfalso; omega) | (simp only [cLod, c9, Nat.not_le.mpr c9, c23, decide_true, decide_false, Bool.and_true, Bool.true_and, Bool.and_false, Bool.false_and, Bool.or_true, Bool.true_or, Bool.or_false, Bool.false_or, Bool.and_self, Bool.or_self, if_true, if_false, eq_self, Bool.false_eq_true, Bool.true_eq_false, reduceCtorEq, not_true_eq_false, not_false_eq_true, and_true, true_and, and_false, false_and, or_true, true_or, or_false, false_or, and_self, or_self, Int32.add_zero]; done) | (simp only [cLod, c9, Nat.not_le.mpr c9, c23, decide_true, decide_false, Bool.and_true, Bool.true_and, Bool.and_false, Bool.false_and, Bool.or_true, Bool.true_or, Bool.or_false, Bool.false_or, Bool.and_self, Bool.or_self, if_true, if_false, eq_self, Bool.false_eq_true, Bool.true_eq_false, reduceCtorEq, not_true_eq_false, not_false_eq_true, and_true, true_and, and_false, false_and, or_true, true_or, or_false, false_or, and_self, or_self, Int32.add_zero]; rfl)
          have hl := lv_hasE hl (lcons rfl (lcons le2 (lcons rfl (lcons rfl rfl))))
          exact ih4 (i + 1) (by omega) (by omega) _ _ hP hS _ hl
        · refine lv_iload_n hx hb dX2_loadOn_26 rfl (lv_at hl 1 rfl) ?_
          refine lv_aload_n hx hb dX2_loadOn_27 rfl (lv_at hl 2 rfl) ?_
          refine mk_g0 hx hb hown htg hK hP fl_X2_11 dX2_loadOn_28 ?_
          refine lv_iload_n hx hb dX2_loadOn_31 rfl (lv_at hl 0 rfl) ?_
          refine mk_as hx hb hK hP (by omega) dX2_loadOn_32 ?_
          refine mk_s0 hx hb hown htg hK hP (by omega) fl_X2_103 dX2_loadOn_33 ?_
          refine lv_iadd hx hb dX2_loadOn_36 ?_
          refine lv_istore_n (lv' := [(2, .int ((cLod M b i) + (M (39 + 8 * i + 0)))), (3, .int (nI i)), (0, .ref (ad 0)), (1, .int (b))]) hx hb dX2_loadOn_37 rfl hl (by decide) rfl (fun ls hl => ?_)
          refine lv_iinc (v := nI (i + 1)) (lv' := [(3, .int (nI (i + 1))), (2, .int ((cLod M b i) + (M (39 + 8 * i + 0)))), (0, .ref (ad 0)), (1, .int (b))]) hx hb dX2_loadOn_38 hl (k := 1) rfl (nI_add i 1) (by decide) rfl (fun ls hl => ?_)
          refine lv_goto (tgt := 4) hx hb dX2_loadOn_41 (by decide) ?_
          have hl := lv_sub (l' := [(3, .int (nI (i + 1))), (2, .int ((cLod M b i) + (M (39 + 8 * i + 0)))), (0, .ref (ad 0)), (1, .int (b))]) hl [0, 1, 2, 3] rfl
          have le2 : Value.int ((cLod M b i) + (M (39 + 8 * i + 0))) = Value.int (cLod M b (i + 1)) := by first | (exfalso; omega) | (simp only [cLod, c9, Nat.not_le.mpr c9, c23, decide_true, decide_false, Bool.and_true, Bool.true_and, Bool.and_false, Bool.false_and, Bool.or_true, Bool.true_or, Bool.or_false, Bool.false_or, Bool.and_self, Bool.or_self, if_true, if_false, eq_self, Bool.false_eq_true, Bool.true_eq_false, reduceCtorEq, not_true_eq_false, not_false_eq_true, and_true, true_and, and_false, false_and, or_true, true_or, or_false, false_or, and_self, or_self, Int32.add_zero]; done) | (simp only [cLod, c9, Nat.not_le.mpr c9, c23, decide_true, decide_false, Bool.and_true, Bool.true_and, Bool.and_false, Bool.false_and, Bool.or_true, Bool.true_or, Bool.or_false, Bool.false_or, Bool.and_self, Bool.or_self, if_true, if_false, eq_self, Bool.false_eq_true, Bool.true_eq_false, reduceCtorEq, not_true_eq_false, not_false_eq_true, and_true, true_and, and_false, false_and, or_true, true_or, or_false, false_or, and_self, or_self, Int32.add_zero]; rfl)
          have hl := lv_hasE hl (lcons rfl (lcons le2 (lcons rfl (lcons rfl rfl))))
          exact ih4 (i + 1) (by omega) (by omega) _ _ hP hS _ hl
  have hl := lv_sub (l' := [(3, .int (nI 0)), (2, .int (nI 0)), (0, .ref (ad 0)), (1, .int (b))]) hl [0, 1, 2, 3] rfl
  have le2 : Value.int (nI 0) = Value.int (cLod M b 0) := by rfl
  have hl := lv_hasE hl (lcons rfl (lcons le2 (lcons rfl (lcons rfl rfl))))
  exact lp4 (n - 0 + 1) 0 (by omega) (Nat.lt_succ_self _) _ _ hP hS _ hl
set_option maxRecDepth 100000 in
set_option maxHeartbeats 4000000 in
theorem mX2_loadPluggedInto (l : Launch) (D : va_G) (ct : Nat → ClassId) (ad : Nat → Nat) (M : Nat → Int32) (b : Int32) (n : Nat) (hw : mW M n) : FMet l yX2_loadPluggedInto cX2_loadPluggedInto 5 (some .int) 1 21 D ct 19 ad [.ref (ad 0), .int (b)] (mkc ct ad M) (some (.int (cLpl M b n))) (mkc ct ad M) := by
  refine FMet.of (by decide +kernel) (Nat.le_of_ble_eq_true rfl) ?_
  intro p e s m args below meth c ls hx hb hr hml hown hlocks htg hK hI hP hS hl
  have hl : lv_has ls 5 [(0, .ref (ad 0)), (1, .int (b))] := hl
  have hn10 := hw.2
  refine lv_iconst (v := nI 0) hx hb dX2_loadPluggedInto_0 (by decide) ?_
  refine lv_istore_n (lv' := [(2, .int (nI 0)), (0, .ref (ad 0)), (1, .int (b))]) hx hb dX2_loadPluggedInto_1 rfl hl (by decide) rfl (fun ls hl => ?_)
  refine lv_iconst (v := nI 0) hx hb dX2_loadPluggedInto_2 (by decide) ?_
  refine lv_istore_n (lv' := [(3, .int (nI 0)), (2, .int (nI 0)), (0, .ref (ad 0)), (1, .int (b))]) hx hb dX2_loadPluggedInto_3 rfl hl (by decide) rfl (fun ls hl => ?_)
  have lp4 : ∀ (fu4 : Nat) (i : Nat), i ≤ n → n - i < fu4 → ∀ (H : Heap) (locs : List Loc), fP D 19 ad (mkc ct ad M) H → va_S (fA 19 ad) s.heap H locs → ∀ (ls : Array Slot), lv_has ls 5 [(3, .int (nI i)), (2, .int (cLpl M b i)), (0, .ref (ad 0)), (1, .int (b))] → W p l e ({ frames := 1, cells := 0, slots := 0, locals := 21 }) s m args below meth c H locs 0 0 (MQ below (fQ D ct 19 ad (some (.int (cLpl M b n))) (mkc ct ad M)) args s 0 0 (fA 19 ad)) (F0 m 4 ls []) := by
    intro fu4
    induction fu4 with
    | zero => intro i hi hfu4; exact absurd hfu4 (Nat.not_lt_zero _)
    | succ fu4 ih4 =>
      intro i hi hfu4 H locs hP hS ls hl
      refine lv_iload_n hx hb dX2_loadPluggedInto_4 rfl (lv_at hl 0 rfl) ?_
      refine lv_aload_n hx hb dX2_loadPluggedInto_5 rfl (lv_at hl 2 rfl) ?_
      refine mk_g1 hx hb hown htg hK hP fl_X2_41 dX2_loadPluggedInto_6 ?_
      refine lv_teq (hw).1 ?_
      refine lv_icmp_geN (tgt := 55) hx hb (by omega) (by omega) dX2_loadPluggedInto_9 (by decide) (fun c9 => ?_) (fun c9 => ?_)
      · have e9 : n = i := by omega
        subst e9
        refine lv_iload_n hx hb dX2_loadPluggedInto_55 rfl (lv_at hl 1 rfl) ?_
        refine fr_iret hx hb hr hlocks hK hI hS rfl dX2_loadPluggedInto_56 ?_ ?_
        · exact rfl
        · exact hP
      · refine lv_aload_n hx hb dX2_loadPluggedInto_12 rfl (lv_at hl 2 rfl) ?_
        refine mk_g0 hx hb hown htg hK hP fl_X2_11 dX2_loadPluggedInto_13 ?_
        refine lv_iload_n hx hb dX2_loadPluggedInto_16 rfl (lv_at hl 0 rfl) ?_
        refine mk_as hx hb hK hP (by omega) dX2_loadPluggedInto_17 ?_
        refine lv_astore (lv' := [(4, .ref (ad (5 + i))), (3, .int (nI i)), (2, .int (cLpl M b i)), (0, .ref (ad 0)), (1, .int (b))]) hx hb dX2_loadPluggedInto_18 hl (by decide) rfl (fun ls hl => ?_)
        refine lv_aload hx hb dX2_loadPluggedInto_20 (lv_at hl 0 rfl) ?_
        refine mk_s5 hx hb hown htg hK hP (by omega) fl_X2_114 dX2_loadPluggedInto_22 ?_
        refine lv_if_ne (tgt := 49) hx hb dX2_loadPluggedInto_25 (by decide) (fun c25 => ?_) (fun c25 => ?_)
        · refine lv_iinc (v := nI (i + 1)) (lv' := [(3, .int (nI (i + 1))), (4, .ref (ad (5 + i))), (2, .int (cLpl M b i)), (0, .ref (ad 0)), (1, .int (b))]) hx hb dX2_loadPluggedInto_49 hl (k := 1) rfl (nI_add i 1) (by decide) rfl (fun ls hl => ?_)
          refine lv_goto (tgt := 4) hx hb dX2_loadPluggedInto_52 (by decide) ?_
          have hl := lv_sub (l' := [(3, .int (nI (i + 1))), (2, .int (cLpl M b i)), (0, .ref (ad 0)), (1, .int (b))]) hl [0, 2, 3, 4] rfl
          have le2 : Value.int (cLpl M b i) = Value.int (cLpl M b (i + 1)) := by first | (exfalso; omega) | (simp only [cLpl, c9, Nat.not_le.mpr c9, c25, decide_true, decide_false, Bool.and_true, Bool.true_and, Bool.and_false, Bool.false_and, Bool.or_true, Bool.true_or, Bool.or_false, Bool.false_or, Bool.and_self, Bool.or_self, if_true, if_false, eq_self, Bool.false_eq_true, Bool.true_eq_false, reduceCtorEq, not_true_eq_false, not_false_eq_true, and_true, true_and, and_false, false_and, or_true, true_or, or_false, false_or, and_self, or_self, Int32.add_zero]; done) | (simp only [cLpl, c9, Nat.not_le.mpr c9, c25, decide_true, decide_false, Bool.and_true, Bool.true_and, Bool.and_false, Bool.false_and, Bool.or_true, Bool.true_or, Bool.or_false, Bool.false_or, Bool.and_self, Bool.or_self, if_true, if_false, eq_self, Bool.false_eq_true, Bool.true_eq_false, reduceCtorEq, not_true_eq_false, not_false_eq_true, and_true, true_and, and_false, false_and, or_true, true_or, or_false, false_or, and_self, or_self, Int32.add_zero]; rfl)
          have hl := lv_hasE hl (lcons rfl (lcons le2 (lcons rfl (lcons rfl rfl))))
          exact ih4 (i + 1) (by omega) (by omega) _ _ hP hS _ hl
        · refine lv_aload_n hx hb dX2_loadPluggedInto_28 rfl (lv_at hl 3 rfl) ?_
          refine lv_aload hx hb dX2_loadPluggedInto_29 (lv_at hl 0 rfl) ?_
          refine mk_s4 hx hb hown htg hK hP (by omega) fl_X2_71 dX2_loadPluggedInto_31 ?_
          refine mk_cmr (As := [.int (M (39 + 8 * i + 4))]) (rest := []) hx hb hown htg hK hI hS hP hml hl.1 (mX2_breakerOf l D ct ad _ (M (39 + 8 * i + 4))) cw_X2_134 rfl rfl ⟨Nat.le_of_ble_eq_true rfl, Nat.le_of_ble_eq_true rfl⟩ (Nat.le_of_ble_eq_true rfl) dX2_loadPluggedInto_34 ⟨Nat.le_refl _, Nat.le_refl _⟩ (fun H locs hP hS => ?_)
          refine lv_iload_n hx hb dX2_loadPluggedInto_37 rfl (lv_at hl 4 rfl) ?_
          refine lv_icmp_ne (tgt := 49) hx hb dX2_loadPluggedInto_38 (by decide) (fun c38 => ?_) (fun c38 => ?_)
          · refine lv_iinc (v := nI (i + 1)) (lv' := [(3, .int (nI (i + 1))), (4, .ref (ad (5 + i))), (2, .int (cLpl M b i)), (0, .ref (ad 0)), (1, .int (b))]) hx hb dX2_loadPluggedInto_49 hl (k := 1) rfl (nI_add i 1) (by decide) rfl (fun ls hl => ?_)
            refine lv_goto (tgt := 4) hx hb dX2_loadPluggedInto_52 (by decide) ?_
            have hl := lv_sub (l' := [(3, .int (nI (i + 1))), (2, .int (cLpl M b i)), (0, .ref (ad 0)), (1, .int (b))]) hl [0, 2, 3, 4] rfl
            have le2 : Value.int (cLpl M b i) = Value.int (cLpl M b (i + 1)) := by first | (exfalso; omega) | (simp only [cLpl, c9, Nat.not_le.mpr c9, c25, c38, decide_true, decide_false, Bool.and_true, Bool.true_and, Bool.and_false, Bool.false_and, Bool.or_true, Bool.true_or, Bool.or_false, Bool.false_or, Bool.and_self, Bool.or_self, if_true, if_false, eq_self, Bool.false_eq_true, Bool.true_eq_false, reduceCtorEq, not_true_eq_false, not_false_eq_true, and_true, true_and, and_false, false_and, or_true, true_or, or_false, false_or, and_self, or_self, Int32.add_zero]; done) | (simp only [cLpl, c9, Nat.not_le.mpr c9, c25, c38, decide_true, decide_false, Bool.and_true, Bool.true_and, Bool.and_false, Bool.false_and, Bool.or_true, Bool.true_or, Bool.or_false, Bool.false_or, Bool.and_self, Bool.or_self, if_true, if_false, eq_self, Bool.false_eq_true, Bool.true_eq_false, reduceCtorEq, not_true_eq_false, not_false_eq_true, and_true, true_and, and_false, false_and, or_true, true_or, or_false, false_or, and_self, or_self, Int32.add_zero]; rfl)
            have hl := lv_hasE hl (lcons rfl (lcons le2 (lcons rfl (lcons rfl rfl))))
            exact ih4 (i + 1) (by omega) (by omega) _ _ hP hS _ hl
          · refine lv_iload_n hx hb dX2_loadPluggedInto_41 rfl (lv_at hl 2 rfl) ?_
            refine lv_aload hx hb dX2_loadPluggedInto_42 (lv_at hl 0 rfl) ?_
            refine mk_s0 hx hb hown htg hK hP (by omega) fl_X2_103 dX2_loadPluggedInto_44 ?_
            refine lv_iadd hx hb dX2_loadPluggedInto_47 ?_
            refine lv_istore_n (lv' := [(2, .int ((cLpl M b i) + (M (39 + 8 * i + 0)))), (4, .ref (ad (5 + i))), (3, .int (nI i)), (0, .ref (ad 0)), (1, .int (b))]) hx hb dX2_loadPluggedInto_48 rfl hl (by decide) rfl (fun ls hl => ?_)
            refine lv_iinc (v := nI (i + 1)) (lv' := [(3, .int (nI (i + 1))), (2, .int ((cLpl M b i) + (M (39 + 8 * i + 0)))), (4, .ref (ad (5 + i))), (0, .ref (ad 0)), (1, .int (b))]) hx hb dX2_loadPluggedInto_49 hl (k := 2) rfl (nI_add i 1) (by decide) rfl (fun ls hl => ?_)
            refine lv_goto (tgt := 4) hx hb dX2_loadPluggedInto_52 (by decide) ?_
            have hl := lv_sub (l' := [(3, .int (nI (i + 1))), (2, .int ((cLpl M b i) + (M (39 + 8 * i + 0)))), (0, .ref (ad 0)), (1, .int (b))]) hl [0, 1, 3, 4] rfl
            have le2 : Value.int ((cLpl M b i) + (M (39 + 8 * i + 0))) = Value.int (cLpl M b (i + 1)) := by first | (exfalso; omega) | (simp only [cLpl, c9, Nat.not_le.mpr c9, c25, c38, decide_true, decide_false, Bool.and_true, Bool.true_and, Bool.and_false, Bool.false_and, Bool.or_true, Bool.true_or, Bool.or_false, Bool.false_or, Bool.and_self, Bool.or_self, if_true, if_false, eq_self, Bool.false_eq_true, Bool.true_eq_false, reduceCtorEq, not_true_eq_false, not_false_eq_true, and_true, true_and, and_false, false_and, or_true, true_or, or_false, false_or, and_self, or_self, Int32.add_zero]; done) | (simp only [cLpl, c9, Nat.not_le.mpr c9, c25, c38, decide_true, decide_false, Bool.and_true, Bool.true_and, Bool.and_false, Bool.false_and, Bool.or_true, Bool.true_or, Bool.or_false, Bool.false_or, Bool.and_self, Bool.or_self, if_true, if_false, eq_self, Bool.false_eq_true, Bool.true_eq_false, reduceCtorEq, not_true_eq_false, not_false_eq_true, and_true, true_and, and_false, false_and, or_true, true_or, or_false, false_or, and_self, or_self, Int32.add_zero]; rfl)
            have hl := lv_hasE hl (lcons rfl (lcons le2 (lcons rfl (lcons rfl rfl))))
            exact ih4 (i + 1) (by omega) (by omega) _ _ hP hS _ hl
  have hl := lv_sub (l' := [(3, .int (nI 0)), (2, .int (nI 0)), (0, .ref (ad 0)), (1, .int (b))]) hl [0, 1, 2, 3] rfl
  have le2 : Value.int (nI 0) = Value.int (cLpl M b 0) := by rfl
  have hl := lv_hasE hl (lcons rfl (lcons le2 (lcons rfl (lcons rfl rfl))))
  exact lp4 (n - 0 + 1) 0 (by omega) (Nat.lt_succ_self _) _ _ hP hS _ hl
set_option maxRecDepth 100000 in
set_option maxHeartbeats 4000000 in
theorem mX2_drawersOn (l : Launch) (D : va_G) (ct : Nat → ClassId) (ad : Nat → Nat) (M : Nat → Int32) (b : Int32) (n : Nat) (hw : mW M n) : FMet l yX2_drawersOn cX2_drawersOn 4 (some .int) 2 43 D ct 19 ad [.ref (ad 0), .int (b)] (mkc ct ad M) (some (.int (nI (cDrw M b n)))) (mkc ct ad M) := by
  refine FMet.of (by decide +kernel) (Nat.le_of_ble_eq_true rfl) ?_
  intro p e s m args below meth c ls hx hb hr hml hown hlocks htg hK hI hP hS hl
  have hl : lv_has ls 4 [(0, .ref (ad 0)), (1, .int (b))] := hl
  have hn10 := hw.2
  refine lv_iconst (v := nI 0) hx hb dX2_drawersOn_0 (by decide) ?_
  refine lv_istore_n (lv' := [(2, .int (nI 0)), (0, .ref (ad 0)), (1, .int (b))]) hx hb dX2_drawersOn_1 rfl hl (by decide) rfl (fun ls hl => ?_)
  refine lv_iconst (v := nI 0) hx hb dX2_drawersOn_2 (by decide) ?_
  refine lv_istore_n (lv' := [(3, .int (nI 0)), (2, .int (nI 0)), (0, .ref (ad 0)), (1, .int (b))]) hx hb dX2_drawersOn_3 rfl hl (by decide) rfl (fun ls hl => ?_)
  have lp4 : ∀ (fu4 : Nat) (i : Nat), i ≤ n → n - i < fu4 → ∀ (H : Heap) (locs : List Loc), fP D 19 ad (mkc ct ad M) H → va_S (fA 19 ad) s.heap H locs → ∀ (ls : Array Slot), lv_has ls 4 [(3, .int (nI i)), (2, .int (nI (cDrw M b i))), (0, .ref (ad 0)), (1, .int (b))] → W p l e ({ frames := 2, cells := 0, slots := 0, locals := 43 }) s m args below meth c H locs 0 0 (MQ below (fQ D ct 19 ad (some (.int (nI (cDrw M b n)))) (mkc ct ad M)) args s 0 0 (fA 19 ad)) (F0 m 4 ls []) := by
    intro fu4
    induction fu4 with
    | zero => intro i hi hfu4; exact absurd hfu4 (Nat.not_lt_zero _)
    | succ fu4 ih4 =>
      intro i hi hfu4 H locs hP hS ls hl
      refine lv_iload_n hx hb dX2_drawersOn_4 rfl (lv_at hl 0 rfl) ?_
      refine lv_aload_n hx hb dX2_drawersOn_5 rfl (lv_at hl 2 rfl) ?_
      refine mk_g1 hx hb hown htg hK hP fl_X2_41 dX2_drawersOn_6 ?_
      refine lv_teq (hw).1 ?_
      refine lv_icmp_geN (tgt := 35) hx hb (by omega) (by omega) dX2_drawersOn_9 (by decide) (fun c9 => ?_) (fun c9 => ?_)
      · have e9 : n = i := by omega
        subst e9
        refine lv_iload_n hx hb dX2_drawersOn_35 rfl (lv_at hl 1 rfl) ?_
        refine fr_iret hx hb hr hlocks hK hI hS rfl dX2_drawersOn_36 ?_ ?_
        · exact rfl
        · exact hP
      · refine lv_aload_n hx hb dX2_drawersOn_12 rfl (lv_at hl 2 rfl) ?_
        refine lv_aload_n hx hb dX2_drawersOn_13 rfl (lv_at hl 2 rfl) ?_
        refine mk_g0 hx hb hown htg hK hP fl_X2_11 dX2_drawersOn_14 ?_
        refine lv_iload_n hx hb dX2_drawersOn_17 rfl (lv_at hl 0 rfl) ?_
        refine mk_as hx hb hK hP (by omega) dX2_drawersOn_18 ?_
        refine mk_cmr (As := [.ref (ad (5 + i))]) (rest := []) hx hb hown htg hK hI hS hP hml hl.1 (mX2_sourceOf l D ct ad _ i (by omega)) cw_X2_96 rfl rfl ⟨Nat.le_of_ble_eq_true rfl, Nat.le_of_ble_eq_true rfl⟩ (Nat.le_of_ble_eq_true rfl) dX2_drawersOn_19 ⟨Nat.le_refl _, Nat.le_refl _⟩ (fun H locs hP hS => ?_)
        refine lv_iload_n hx hb dX2_drawersOn_22 rfl (lv_at hl 3 rfl) ?_
        refine lv_icmp_ne (tgt := 29) hx hb dX2_drawersOn_23 (by decide) (fun c23 => ?_) (fun c23 => ?_)
        · refine lv_iinc (v := nI (i + 1)) (lv' := [(3, .int (nI (i + 1))), (2, .int (nI (cDrw M b i))), (0, .ref (ad 0)), (1, .int (b))]) hx hb dX2_drawersOn_29 hl (k := 0) rfl (nI_add i 1) (by decide) rfl (fun ls hl => ?_)
          refine lv_goto (tgt := 4) hx hb dX2_drawersOn_32 (by decide) ?_
          have hl := lv_sub (l' := [(3, .int (nI (i + 1))), (2, .int (nI (cDrw M b i))), (0, .ref (ad 0)), (1, .int (b))]) hl [0, 1, 2, 3] rfl
          have le2 : Value.int (nI (cDrw M b i)) = Value.int (nI (cDrw M b (i + 1))) := by first | (exfalso; omega) | (simp only [cDrw, c9, Nat.not_le.mpr c9, c23, decide_true, decide_false, Bool.and_true, Bool.true_and, Bool.and_false, Bool.false_and, Bool.or_true, Bool.true_or, Bool.or_false, Bool.false_or, Bool.and_self, Bool.or_self, if_true, if_false, eq_self, Bool.false_eq_true, Bool.true_eq_false, reduceCtorEq, not_true_eq_false, not_false_eq_true, and_true, true_and, and_false, false_and, or_true, true_or, or_false, false_or, and_self, or_self, Int32.add_zero]; done) | (simp only [cDrw, c9, Nat.not_le.mpr c9, c23, decide_true, decide_false, Bool.and_true, Bool.true_and, Bool.and_false, Bool.false_and, Bool.or_true, Bool.true_or, Bool.or_false, Bool.false_or, Bool.and_self, Bool.or_self, if_true, if_false, eq_self, Bool.false_eq_true, Bool.true_eq_false, reduceCtorEq, not_true_eq_false, not_false_eq_true, and_true, true_and, and_false, false_and, or_true, true_or, or_false, false_or, and_self, or_self, Int32.add_zero]; rfl)
          have hl := lv_hasE hl (lcons rfl (lcons le2 (lcons rfl (lcons rfl rfl))))
          exact ih4 (i + 1) (by omega) (by omega) _ _ hP hS _ hl
        · refine lv_iinc (v := nI (cDrw M b i + 1)) (lv' := [(2, .int (nI (cDrw M b i + 1))), (3, .int (nI i)), (0, .ref (ad 0)), (1, .int (b))]) hx hb dX2_drawersOn_26 hl (k := 1) rfl (nI_add (cDrw M b i) 1) (by decide) rfl (fun ls hl => ?_)
          refine lv_iinc (v := nI (i + 1)) (lv' := [(3, .int (nI (i + 1))), (2, .int (nI (cDrw M b i + 1))), (0, .ref (ad 0)), (1, .int (b))]) hx hb dX2_drawersOn_29 hl (k := 1) rfl (nI_add i 1) (by decide) rfl (fun ls hl => ?_)
          refine lv_goto (tgt := 4) hx hb dX2_drawersOn_32 (by decide) ?_
          have hl := lv_sub (l' := [(3, .int (nI (i + 1))), (2, .int (nI (cDrw M b i + 1))), (0, .ref (ad 0)), (1, .int (b))]) hl [0, 1, 2, 3] rfl
          have le2 : Value.int (nI (cDrw M b i + 1)) = Value.int (nI (cDrw M b (i + 1))) := by first | (exfalso; omega) | (simp only [cDrw, c9, Nat.not_le.mpr c9, c23, decide_true, decide_false, Bool.and_true, Bool.true_and, Bool.and_false, Bool.false_and, Bool.or_true, Bool.true_or, Bool.or_false, Bool.false_or, Bool.and_self, Bool.or_self, if_true, if_false, eq_self, Bool.false_eq_true, Bool.true_eq_false, reduceCtorEq, not_true_eq_false, not_false_eq_true, and_true, true_and, and_false, false_and, or_true, true_or, or_false, false_or, and_self, or_self, Int32.add_zero]; done) | (simp only [cDrw, c9, Nat.not_le.mpr c9, c23, decide_true, decide_false, Bool.and_true, Bool.true_and, Bool.and_false, Bool.false_and, Bool.or_true, Bool.true_or, Bool.or_false, Bool.false_or, Bool.and_self, Bool.or_self, if_true, if_false, eq_self, Bool.false_eq_true, Bool.true_eq_false, reduceCtorEq, not_true_eq_false, not_false_eq_true, and_true, true_and, and_false, false_and, or_true, true_or, or_false, false_or, and_self, or_self, Int32.add_zero]; rfl)
          have hl := lv_hasE hl (lcons rfl (lcons le2 (lcons rfl (lcons rfl rfl))))
          exact ih4 (i + 1) (by omega) (by omega) _ _ hP hS _ hl
  have hl := lv_sub (l' := [(3, .int (nI 0)), (2, .int (nI 0)), (0, .ref (ad 0)), (1, .int (b))]) hl [0, 1, 2, 3] rfl
  have le2 : Value.int (nI 0) = Value.int (nI (cDrw M b 0)) := by rfl
  have hl := lv_hasE hl (lcons rfl (lcons le2 (lcons rfl (lcons rfl rfl))))
  exact lp4 (n - 0 + 1) 0 (by omega) (Nat.lt_succ_self _) _ _ hP hS _ hl
set_option maxRecDepth 100000 in
set_option maxHeartbeats 4000000 in
theorem mX2_pluggedStalls (l : Launch) (D : va_G) (ct : Nat → ClassId) (ad : Nat → Nat) (M : Nat → Int32)  (n : Nat) (hw : mW M n) : FMet l yX2_pluggedStalls cX2_pluggedStalls 3 (some .int) 0 0 D ct 19 ad [.ref (ad 0)] (mkc ct ad M) (some (.int (nI (cPlg M n)))) (mkc ct ad M) := by
  refine FMet.of (by decide +kernel) (Nat.le_of_ble_eq_true rfl) ?_
  intro p e s m args below meth c ls hx hb hr hml hown hlocks htg hK hI hP hS hl
  have hl : lv_has ls 3 [(0, .ref (ad 0))] := hl
  have hn10 := hw.2
  refine lv_iconst (v := nI 0) hx hb dX2_pluggedStalls_0 (by decide) ?_
  refine lv_istore_n (lv' := [(1, .int (nI 0)), (0, .ref (ad 0))]) hx hb dX2_pluggedStalls_1 rfl hl (by decide) rfl (fun ls hl => ?_)
  refine lv_iconst (v := nI 0) hx hb dX2_pluggedStalls_2 (by decide) ?_
  refine lv_istore_n (lv' := [(2, .int (nI 0)), (1, .int (nI 0)), (0, .ref (ad 0))]) hx hb dX2_pluggedStalls_3 rfl hl (by decide) rfl (fun ls hl => ?_)
  have lp4 : ∀ (fu4 : Nat) (i : Nat), i ≤ n → n - i < fu4 → ∀ (H : Heap) (locs : List Loc), fP D 19 ad (mkc ct ad M) H → va_S (fA 19 ad) s.heap H locs → ∀ (ls : Array Slot), lv_has ls 3 [(2, .int (nI i)), (1, .int (nI (cPlg M i))), (0, .ref (ad 0))] → W p l e ({ frames := 0, cells := 0, slots := 0, locals := 0 }) s m args below meth c H locs 0 0 (MQ below (fQ D ct 19 ad (some (.int (nI (cPlg M n)))) (mkc ct ad M)) args s 0 0 (fA 19 ad)) (F0 m 4 ls []) := by
    intro fu4
    induction fu4 with
    | zero => intro i hi hfu4; exact absurd hfu4 (Nat.not_lt_zero _)
    | succ fu4 ih4 =>
      intro i hi hfu4 H locs hP hS ls hl
      refine lv_iload_n hx hb dX2_pluggedStalls_4 rfl (lv_at hl 0 rfl) ?_
      refine lv_aload_n hx hb dX2_pluggedStalls_5 rfl (lv_at hl 2 rfl) ?_
      refine mk_g1 hx hb hown htg hK hP fl_X2_41 dX2_pluggedStalls_6 ?_
      refine lv_teq (hw).1 ?_
      refine lv_icmp_geN (tgt := 34) hx hb (by omega) (by omega) dX2_pluggedStalls_9 (by decide) (fun c9 => ?_) (fun c9 => ?_)
      · have e9 : n = i := by omega
        subst e9
        refine lv_iload_n hx hb dX2_pluggedStalls_34 rfl (lv_at hl 1 rfl) ?_
        refine fr_iret hx hb hr hlocks hK hI hS rfl dX2_pluggedStalls_35 ?_ ?_
        · exact rfl
        · exact hP
      · refine lv_aload_n hx hb dX2_pluggedStalls_12 rfl (lv_at hl 2 rfl) ?_
        refine mk_g0 hx hb hown htg hK hP fl_X2_11 dX2_pluggedStalls_13 ?_
        refine lv_iload_n hx hb dX2_pluggedStalls_16 rfl (lv_at hl 0 rfl) ?_
        refine mk_as hx hb hK hP (by omega) dX2_pluggedStalls_17 ?_
        refine mk_s4 hx hb hown htg hK hP (by omega) fl_X2_71 dX2_pluggedStalls_18 ?_
        refine lv_iconst (v := -1) hx hb dX2_pluggedStalls_21 (by decide) ?_
        refine lv_icmp_eq (tgt := 28) hx hb dX2_pluggedStalls_22 (by decide) (fun c22 => ?_) (fun c22 => ?_)
        · refine lv_iinc (v := nI (i + 1)) (lv' := [(2, .int (nI (i + 1))), (1, .int (nI (cPlg M i))), (0, .ref (ad 0))]) hx hb dX2_pluggedStalls_28 hl (k := 0) rfl (nI_add i 1) (by decide) rfl (fun ls hl => ?_)
          refine lv_goto (tgt := 4) hx hb dX2_pluggedStalls_31 (by decide) ?_
          have hl := lv_sub (l' := [(2, .int (nI (i + 1))), (1, .int (nI (cPlg M i))), (0, .ref (ad 0))]) hl [0, 1, 2] rfl
          have le1 : Value.int (nI (cPlg M i)) = Value.int (nI (cPlg M (i + 1))) := by first | (exfalso; omega) | (simp only [cPlg, c9, Nat.not_le.mpr c9, c22, decide_true, decide_false, Bool.and_true, Bool.true_and, Bool.and_false, Bool.false_and, Bool.or_true, Bool.true_or, Bool.or_false, Bool.false_or, Bool.and_self, Bool.or_self, if_true, if_false, eq_self, Bool.false_eq_true, Bool.true_eq_false, reduceCtorEq, not_true_eq_false, not_false_eq_true, and_true, true_and, and_false, false_and, or_true, true_or, or_false, false_or, and_self, or_self, Int32.add_zero]; done) | (simp only [cPlg, c9, Nat.not_le.mpr c9, c22, decide_true, decide_false, Bool.and_true, Bool.true_and, Bool.and_false, Bool.false_and, Bool.or_true, Bool.true_or, Bool.or_false, Bool.false_or, Bool.and_self, Bool.or_self, if_true, if_false, eq_self, Bool.false_eq_true, Bool.true_eq_false, reduceCtorEq, not_true_eq_false, not_false_eq_true, and_true, true_and, and_false, false_and, or_true, true_or, or_false, false_or, and_self, or_self, Int32.add_zero]; rfl)
          have hl := lv_hasE hl (lcons rfl (lcons le1 (lcons rfl rfl)))
          exact ih4 (i + 1) (by omega) (by omega) _ _ hP hS _ hl
        · refine lv_iinc (v := nI (cPlg M i + 1)) (lv' := [(1, .int (nI (cPlg M i + 1))), (2, .int (nI i)), (0, .ref (ad 0))]) hx hb dX2_pluggedStalls_25 hl (k := 1) rfl (nI_add (cPlg M i) 1) (by decide) rfl (fun ls hl => ?_)
          refine lv_iinc (v := nI (i + 1)) (lv' := [(2, .int (nI (i + 1))), (1, .int (nI (cPlg M i + 1))), (0, .ref (ad 0))]) hx hb dX2_pluggedStalls_28 hl (k := 1) rfl (nI_add i 1) (by decide) rfl (fun ls hl => ?_)
          refine lv_goto (tgt := 4) hx hb dX2_pluggedStalls_31 (by decide) ?_
          have hl := lv_sub (l' := [(2, .int (nI (i + 1))), (1, .int (nI (cPlg M i + 1))), (0, .ref (ad 0))]) hl [0, 1, 2] rfl
          have le1 : Value.int (nI (cPlg M i + 1)) = Value.int (nI (cPlg M (i + 1))) := by first | (exfalso; omega) | (simp only [cPlg, c9, Nat.not_le.mpr c9, c22, decide_true, decide_false, Bool.and_true, Bool.true_and, Bool.and_false, Bool.false_and, Bool.or_true, Bool.true_or, Bool.or_false, Bool.false_or, Bool.and_self, Bool.or_self, if_true, if_false, eq_self, Bool.false_eq_true, Bool.true_eq_false, reduceCtorEq, not_true_eq_false, not_false_eq_true, and_true, true_and, and_false, false_and, or_true, true_or, or_false, false_or, and_self, or_self, Int32.add_zero]; done) | (simp only [cPlg, c9, Nat.not_le.mpr c9, c22, decide_true, decide_false, Bool.and_true, Bool.true_and, Bool.and_false, Bool.false_and, Bool.or_true, Bool.true_or, Bool.or_false, Bool.false_or, Bool.and_self, Bool.or_self, if_true, if_false, eq_self, Bool.false_eq_true, Bool.true_eq_false, reduceCtorEq, not_true_eq_false, not_false_eq_true, and_true, true_and, and_false, false_and, or_true, true_or, or_false, false_or, and_self, or_self, Int32.add_zero]; rfl)
          have hl := lv_hasE hl (lcons rfl (lcons le1 (lcons rfl rfl)))
          exact ih4 (i + 1) (by omega) (by omega) _ _ hP hS _ hl
  have hl := lv_sub (l' := [(2, .int (nI 0)), (1, .int (nI 0)), (0, .ref (ad 0))]) hl [0, 1, 2] rfl
  have le1 : Value.int (nI 0) = Value.int (nI (cPlg M 0)) := by rfl
  have hl := lv_hasE hl (lcons rfl (lcons le1 (lcons rfl rfl)))
  exact lp4 (n - 0 + 1) 0 (by omega) (Nat.lt_succ_self _) _ _ hP hS _ hl
set_option maxRecDepth 100000 in
set_option maxHeartbeats 4000000 in
theorem mX2_drawingStalls (l : Launch) (D : va_G) (ct : Nat → ClassId) (ad : Nat → Nat) (M : Nat → Int32)  (n : Nat) (hw : mW M n) : FMet l yX2_drawingStalls cX2_drawingStalls 3 (some .int) 3 66 D ct 19 ad [.ref (ad 0)] (mkc ct ad M) (some (.int (nI (cDra M n 4)))) (mkc ct ad M) := by
  refine FMet.of (by decide +kernel) (Nat.le_of_ble_eq_true rfl) ?_
  intro p e s m args below meth c ls hx hb hr hml hown hlocks htg hK hI hP hS hl
  have hl : lv_has ls 3 [(0, .ref (ad 0))] := hl
  have hn10 := hw.2
  refine lv_iconst (v := nI 0) hx hb dX2_drawingStalls_0 (by decide) ?_
  refine lv_istore_n (lv' := [(1, .int (nI 0)), (0, .ref (ad 0))]) hx hb dX2_drawingStalls_1 rfl hl (by decide) rfl (fun ls hl => ?_)
  refine lv_iconst (v := nI 0) hx hb dX2_drawingStalls_2 (by decide) ?_
  refine lv_istore_n (lv' := [(2, .int (nI 0)), (1, .int (nI 0)), (0, .ref (ad 0))]) hx hb dX2_drawingStalls_3 rfl hl (by decide) rfl (fun ls hl => ?_)
  have lp4 : ∀ (fu4 : Nat) (i : Nat), i ≤ 4 → 4 - i < fu4 → ∀ (H : Heap) (locs : List Loc), fP D 19 ad (mkc ct ad M) H → va_S (fA 19 ad) s.heap H locs → ∀ (ls : Array Slot), lv_has ls 3 [(2, .int (nI i)), (1, .int (nI (cDra M n i))), (0, .ref (ad 0))] → W p l e ({ frames := 3, cells := 0, slots := 0, locals := 66 }) s m args below meth c H locs 0 0 (MQ below (fQ D ct 19 ad (some (.int (nI (cDra M n 4)))) (mkc ct ad M)) args s 0 0 (fA 19 ad)) (F0 m 4 ls []) := by
    intro fu4
    induction fu4 with
    | zero => intro i hi hfu4; exact absurd hfu4 (Nat.not_lt_zero _)
    | succ fu4 ih4 =>
      intro i hi hfu4 H locs hP hS ls hl
      refine lv_iload_n hx hb dX2_drawingStalls_4 rfl (lv_at hl 0 rfl) ?_
      refine lv_iconst (v := nI 4) hx hb dX2_drawingStalls_5 (by decide) ?_
      refine lv_icmp_geN (tgt := 23) hx hb (by omega) (by omega) dX2_drawingStalls_6 (by decide) (fun c6 => ?_) (fun c6 => ?_)
      · obtain rfl : i = 4 := by omega
        refine lv_iload_n hx hb dX2_drawingStalls_23 rfl (lv_at hl 1 rfl) ?_
        refine fr_iret hx hb hr hlocks hK hI hS rfl dX2_drawingStalls_24 ?_ ?_
        · exact rfl
        · exact hP
      · refine lv_iload_n hx hb dX2_drawingStalls_9 rfl (lv_at hl 1 rfl) ?_
        refine lv_aload_n hx hb dX2_drawingStalls_10 rfl (lv_at hl 2 rfl) ?_
        refine lv_iload_n hx hb dX2_drawingStalls_11 rfl (lv_at hl 0 rfl) ?_
        refine mk_cmr (As := [.int (nI i)]) (rest := [.int (nI (cDra M n i))]) hx hb hown htg hK hI hS hP hml hl.1 (mX2_drawersOn l D ct ad _ (nI i) n hw) cw_X2_140 rfl rfl ⟨Nat.le_of_ble_eq_true rfl, Nat.le_of_ble_eq_true rfl⟩ (Nat.le_of_ble_eq_true rfl) dX2_drawingStalls_12 ⟨Nat.le_refl _, Nat.le_refl _⟩ (fun H locs hP hS => ?_)
        have hdr9 := cDrw_le M (nI i) n
        refine lv_iaddN hx hb dX2_drawingStalls_15 ?_
        refine lv_istore_n (lv' := [(1, .int (nI (cDra M n i + cDrw M (nI i) n))), (2, .int (nI i)), (0, .ref (ad 0))]) hx hb dX2_drawingStalls_16 rfl hl (by decide) rfl (fun ls hl => ?_)
        refine lv_iinc (v := nI (i + 1)) (lv' := [(2, .int (nI (i + 1))), (1, .int (nI (cDra M n i + cDrw M (nI i) n))), (0, .ref (ad 0))]) hx hb dX2_drawingStalls_17 hl (k := 1) rfl (nI_add i 1) (by decide) rfl (fun ls hl => ?_)
        refine lv_goto (tgt := 4) hx hb dX2_drawingStalls_20 (by decide) ?_
        have hl := lv_sub (l' := [(2, .int (nI (i + 1))), (1, .int (nI (cDra M n i + cDrw M (nI i) n))), (0, .ref (ad 0))]) hl [0, 1, 2] rfl
        have le1 : Value.int (nI (cDra M n i + cDrw M (nI i) n)) = Value.int (nI (cDra M n (i + 1))) := by rfl
        have hl := lv_hasE hl (lcons rfl (lcons le1 (lcons rfl rfl)))
        exact ih4 (i + 1) (by omega) (by omega) _ _ hP hS _ hl
  have hl := lv_sub (l' := [(2, .int (nI 0)), (1, .int (nI 0)), (0, .ref (ad 0))]) hl [0, 1, 2] rfl
  have le1 : Value.int (nI 0) = Value.int (nI (cDra M n 0)) := by rfl
  have hl := lv_hasE hl (lcons rfl (lcons le1 (lcons rfl rfl)))
  exact lp4 (4 - 0 + 1) 0 (by omega) (Nat.lt_succ_self _) _ _ hP hS _ hl
set_option maxRecDepth 100000 in
set_option maxHeartbeats 4000000 in
theorem mX2_breakersOn (l : Launch) (D : va_G) (ct : Nat → ClassId) (ad : Nat → Nat) (M : Nat → Int32)    : FMet l yX2_breakersOn cX2_breakersOn 3 (some .int) 0 0 D ct 19 ad [.ref (ad 0)] (mkc ct ad M) (some (.int (nI (cOns M 4)))) (mkc ct ad M) := by
  refine FMet.of (by decide +kernel) (Nat.le_of_ble_eq_true rfl) ?_
  intro p e s m args below meth c ls hx hb hr hml hown hlocks htg hK hI hP hS hl
  have hl : lv_has ls 3 [(0, .ref (ad 0))] := hl
  refine lv_iconst (v := nI 0) hx hb dX2_breakersOn_0 (by decide) ?_
  refine lv_istore_n (lv' := [(1, .int (nI 0)), (0, .ref (ad 0))]) hx hb dX2_breakersOn_1 rfl hl (by decide) rfl (fun ls hl => ?_)
  refine lv_iconst (v := nI 0) hx hb dX2_breakersOn_2 (by decide) ?_
  refine lv_istore_n (lv' := [(2, .int (nI 0)), (1, .int (nI 0)), (0, .ref (ad 0))]) hx hb dX2_breakersOn_3 rfl hl (by decide) rfl (fun ls hl => ?_)
  have lp4 : ∀ (fu4 : Nat) (i : Nat), i ≤ 4 → 4 - i < fu4 → ∀ (H : Heap) (locs : List Loc), fP D 19 ad (mkc ct ad M) H → va_S (fA 19 ad) s.heap H locs → ∀ (ls : Array Slot), lv_has ls 3 [(2, .int (nI i)), (1, .int (nI (cOns M i))), (0, .ref (ad 0))] → W p l e ({ frames := 0, cells := 0, slots := 0, locals := 0 }) s m args below meth c H locs 0 0 (MQ below (fQ D ct 19 ad (some (.int (nI (cOns M 4)))) (mkc ct ad M)) args s 0 0 (fA 19 ad)) (F0 m 4 ls []) := by
    intro fu4
    induction fu4 with
    | zero => intro i hi hfu4; exact absurd hfu4 (Nat.not_lt_zero _)
    | succ fu4 ih4 =>
      intro i hi hfu4 H locs hP hS ls hl
      refine lv_iload_n hx hb dX2_breakersOn_4 rfl (lv_at hl 0 rfl) ?_
      refine lv_iconst (v := nI 4) hx hb dX2_breakersOn_5 (by decide) ?_
      refine lv_icmp_geN (tgt := 30) hx hb (by omega) (by omega) dX2_breakersOn_6 (by decide) (fun c6 => ?_) (fun c6 => ?_)
      · obtain rfl : i = 4 := by omega
        refine lv_iload_n hx hb dX2_breakersOn_30 rfl (lv_at hl 1 rfl) ?_
        refine fr_iret hx hb hr hlocks hK hI hS rfl dX2_breakersOn_31 ?_ ?_
        · exact rfl
        · exact hP
      · refine lv_aload_n hx hb dX2_breakersOn_9 rfl (lv_at hl 2 rfl) ?_
        refine mk_g2 hx hb hown htg hK hP fl_X2_19 dX2_breakersOn_10 ?_
        refine lv_iload_n hx hb dX2_breakersOn_13 rfl (lv_at hl 0 rfl) ?_
        refine mk_ab hx hb hK hP (by omega) dX2_breakersOn_14 ?_
        refine mk_b1 hx hb hown htg hK hP (by omega) fl_X2_137 dX2_breakersOn_15 ?_
        refine lv_if_eq (tgt := 24) hx hb dX2_breakersOn_18 (by decide) (fun c18 => ?_) (fun c18 => ?_)
        · refine lv_iinc (v := nI (i + 1)) (lv' := [(2, .int (nI (i + 1))), (1, .int (nI (cOns M i))), (0, .ref (ad 0))]) hx hb dX2_breakersOn_24 hl (k := 0) rfl (nI_add i 1) (by decide) rfl (fun ls hl => ?_)
          refine lv_goto (tgt := 4) hx hb dX2_breakersOn_27 (by decide) ?_
          have hl := lv_sub (l' := [(2, .int (nI (i + 1))), (1, .int (nI (cOns M i))), (0, .ref (ad 0))]) hl [0, 1, 2] rfl
          have le1 : Value.int (nI (cOns M i)) = Value.int (nI (cOns M (i + 1))) := by first | (exfalso; omega) | (simp only [cOns, c6, Nat.not_le.mpr c6, c18, decide_true, decide_false, Bool.and_true, Bool.true_and, Bool.and_false, Bool.false_and, Bool.or_true, Bool.true_or, Bool.or_false, Bool.false_or, Bool.and_self, Bool.or_self, if_true, if_false, eq_self, Bool.false_eq_true, Bool.true_eq_false, reduceCtorEq, not_true_eq_false, not_false_eq_true, and_true, true_and, and_false, false_and, or_true, true_or, or_false, false_or, and_self, or_self, Int32.add_zero]; done) | (simp only [cOns, c6, Nat.not_le.mpr c6, c18, decide_true, decide_false, Bool.and_true, Bool.true_and, Bool.and_false, Bool.false_and, Bool.or_true, Bool.true_or, Bool.or_false, Bool.false_or, Bool.and_self, Bool.or_self, if_true, if_false, eq_self, Bool.false_eq_true, Bool.true_eq_false, reduceCtorEq, not_true_eq_false, not_false_eq_true, and_true, true_and, and_false, false_and, or_true, true_or, or_false, false_or, and_self, or_self, Int32.add_zero]; rfl)
          have hl := lv_hasE hl (lcons rfl (lcons le1 (lcons rfl rfl)))
          exact ih4 (i + 1) (by omega) (by omega) _ _ hP hS _ hl
        · refine lv_iinc (v := nI (cOns M i + 1)) (lv' := [(1, .int (nI (cOns M i + 1))), (2, .int (nI i)), (0, .ref (ad 0))]) hx hb dX2_breakersOn_21 hl (k := 1) rfl (nI_add (cOns M i) 1) (by decide) rfl (fun ls hl => ?_)
          refine lv_iinc (v := nI (i + 1)) (lv' := [(2, .int (nI (i + 1))), (1, .int (nI (cOns M i + 1))), (0, .ref (ad 0))]) hx hb dX2_breakersOn_24 hl (k := 1) rfl (nI_add i 1) (by decide) rfl (fun ls hl => ?_)
          refine lv_goto (tgt := 4) hx hb dX2_breakersOn_27 (by decide) ?_
          have hl := lv_sub (l' := [(2, .int (nI (i + 1))), (1, .int (nI (cOns M i + 1))), (0, .ref (ad 0))]) hl [0, 1, 2] rfl
          have le1 : Value.int (nI (cOns M i + 1)) = Value.int (nI (cOns M (i + 1))) := by first | (exfalso; omega) | (simp only [cOns, c6, Nat.not_le.mpr c6, c18, decide_true, decide_false, Bool.and_true, Bool.true_and, Bool.and_false, Bool.false_and, Bool.or_true, Bool.true_or, Bool.or_false, Bool.false_or, Bool.and_self, Bool.or_self, if_true, if_false, eq_self, Bool.false_eq_true, Bool.true_eq_false, reduceCtorEq, not_true_eq_false, not_false_eq_true, and_true, true_and, and_false, false_and, or_true, true_or, or_false, false_or, and_self, or_self, Int32.add_zero]; done) | (simp only [cOns, c6, Nat.not_le.mpr c6, c18, decide_true, decide_false, Bool.and_true, Bool.true_and, Bool.and_false, Bool.false_and, Bool.or_true, Bool.true_or, Bool.or_false, Bool.false_or, Bool.and_self, Bool.or_self, if_true, if_false, eq_self, Bool.false_eq_true, Bool.true_eq_false, reduceCtorEq, not_true_eq_false, not_false_eq_true, and_true, true_and, and_false, false_and, or_true, true_or, or_false, false_or, and_self, or_self, Int32.add_zero]; rfl)
          have hl := lv_hasE hl (lcons rfl (lcons le1 (lcons rfl rfl)))
          exact ih4 (i + 1) (by omega) (by omega) _ _ hP hS _ hl
  have hl := lv_sub (l' := [(2, .int (nI 0)), (1, .int (nI 0)), (0, .ref (ad 0))]) hl [0, 1, 2] rfl
  have le1 : Value.int (nI 0) = Value.int (nI (cOns M 0)) := by rfl
  have hl := lv_hasE hl (lcons rfl (lcons le1 (lcons rfl rfl)))
  exact lp4 (4 - 0 + 1) 0 (by omega) (Nat.lt_succ_self _) _ _ hP hS _ hl
set_option maxRecDepth 100000 in
set_option maxHeartbeats 4000000 in
theorem mX2_meters (l : Launch) (D : va_G) (ct : Nat → ClassId) (ad : Nat → Nat) (M : Nat → Int32)  (n : Nat) (hw : mW M n) : FMet l yX2_meters cX2_meters 3 (some .int) 0 0 D ct 19 ad [.ref (ad 0)] (mkc ct ad M) (some (.int (cSs M 6 n))) (mkc ct ad M) := by
  refine FMet.of (by decide +kernel) (Nat.le_of_ble_eq_true rfl) ?_
  intro p e s m args below meth c ls hx hb hr hml hown hlocks htg hK hI hP hS hl
  have hl : lv_has ls 3 [(0, .ref (ad 0))] := hl
  have hn10 := hw.2
  refine lv_iconst (v := nI 0) hx hb dX2_meters_0 (by decide) ?_
  refine lv_istore_n (lv' := [(1, .int (nI 0)), (0, .ref (ad 0))]) hx hb dX2_meters_1 rfl hl (by decide) rfl (fun ls hl => ?_)
  refine lv_iconst (v := nI 0) hx hb dX2_meters_2 (by decide) ?_
  refine lv_istore_n (lv' := [(2, .int (nI 0)), (1, .int (nI 0)), (0, .ref (ad 0))]) hx hb dX2_meters_3 rfl hl (by decide) rfl (fun ls hl => ?_)
  have lp4 : ∀ (fu4 : Nat) (i : Nat), i ≤ n → n - i < fu4 → ∀ (H : Heap) (locs : List Loc), fP D 19 ad (mkc ct ad M) H → va_S (fA 19 ad) s.heap H locs → ∀ (ls : Array Slot), lv_has ls 3 [(2, .int (nI i)), (1, .int (cSs M 6 i)), (0, .ref (ad 0))] → W p l e ({ frames := 0, cells := 0, slots := 0, locals := 0 }) s m args below meth c H locs 0 0 (MQ below (fQ D ct 19 ad (some (.int (cSs M 6 n))) (mkc ct ad M)) args s 0 0 (fA 19 ad)) (F0 m 4 ls []) := by
    intro fu4
    induction fu4 with
    | zero => intro i hi hfu4; exact absurd hfu4 (Nat.not_lt_zero _)
    | succ fu4 ih4 =>
      intro i hi hfu4 H locs hP hS ls hl
      refine lv_iload_n hx hb dX2_meters_4 rfl (lv_at hl 0 rfl) ?_
      refine lv_aload_n hx hb dX2_meters_5 rfl (lv_at hl 2 rfl) ?_
      refine mk_g1 hx hb hown htg hK hP fl_X2_41 dX2_meters_6 ?_
      refine lv_teq (hw).1 ?_
      refine lv_icmp_geN (tgt := 30) hx hb (by omega) (by omega) dX2_meters_9 (by decide) (fun c9 => ?_) (fun c9 => ?_)
      · have e9 : n = i := by omega
        subst e9
        refine lv_iload_n hx hb dX2_meters_30 rfl (lv_at hl 1 rfl) ?_
        refine fr_iret hx hb hr hlocks hK hI hS rfl dX2_meters_31 ?_ ?_
        · exact rfl
        · exact hP
      · refine lv_iload_n hx hb dX2_meters_12 rfl (lv_at hl 1 rfl) ?_
        refine lv_aload_n hx hb dX2_meters_13 rfl (lv_at hl 2 rfl) ?_
        refine mk_g0 hx hb hown htg hK hP fl_X2_11 dX2_meters_14 ?_
        refine lv_iload_n hx hb dX2_meters_17 rfl (lv_at hl 0 rfl) ?_
        refine mk_as hx hb hK hP (by omega) dX2_meters_18 ?_
        refine mk_s6 hx hb hown htg hK hP (by omega) fl_X2_121 dX2_meters_19 ?_
        refine lv_iadd hx hb dX2_meters_22 ?_
        refine lv_istore_n (lv' := [(1, .int ((cSs M 6 i) + (M (39 + 8 * i + 6)))), (2, .int (nI i)), (0, .ref (ad 0))]) hx hb dX2_meters_23 rfl hl (by decide) rfl (fun ls hl => ?_)
        refine lv_iinc (v := nI (i + 1)) (lv' := [(2, .int (nI (i + 1))), (1, .int ((cSs M 6 i) + (M (39 + 8 * i + 6)))), (0, .ref (ad 0))]) hx hb dX2_meters_24 hl (k := 1) rfl (nI_add i 1) (by decide) rfl (fun ls hl => ?_)
        refine lv_goto (tgt := 4) hx hb dX2_meters_27 (by decide) ?_
        have hl := lv_sub (l' := [(2, .int (nI (i + 1))), (1, .int ((cSs M 6 i) + (M (39 + 8 * i + 6)))), (0, .ref (ad 0))]) hl [0, 1, 2] rfl
        have le1 : Value.int ((cSs M 6 i) + (M (39 + 8 * i + 6))) = Value.int (cSs M 6 (i + 1)) := by rfl
        have hl := lv_hasE hl (lcons rfl (lcons le1 (lcons rfl rfl)))
        exact ih4 (i + 1) (by omega) (by omega) _ _ hP hS _ hl
  have hl := lv_sub (l' := [(2, .int (nI 0)), (1, .int (nI 0)), (0, .ref (ad 0))]) hl [0, 1, 2] rfl
  have le1 : Value.int (nI 0) = Value.int (cSs M 6 0) := by rfl
  have hl := lv_hasE hl (lcons rfl (lcons le1 (lcons rfl rfl)))
  exact lp4 (n - 0 + 1) 0 (by omega) (Nat.lt_succ_self _) _ _ hP hS _ hl
set_option maxRecDepth 100000 in
set_option maxHeartbeats 4000000 in
theorem mX2_darkHours (l : Launch) (D : va_G) (ct : Nat → ClassId) (ad : Nat → Nat) (M : Nat → Int32)  (n : Nat) (hw : mW M n) : FMet l yX2_darkHours cX2_darkHours 3 (some .int) 0 0 D ct 19 ad [.ref (ad 0)] (mkc ct ad M) (some (.int (cSs M 7 n))) (mkc ct ad M) := by
  refine FMet.of (by decide +kernel) (Nat.le_of_ble_eq_true rfl) ?_
  intro p e s m args below meth c ls hx hb hr hml hown hlocks htg hK hI hP hS hl
  have hl : lv_has ls 3 [(0, .ref (ad 0))] := hl
  have hn10 := hw.2
  refine lv_iconst (v := nI 0) hx hb dX2_darkHours_0 (by decide) ?_
  refine lv_istore_n (lv' := [(1, .int (nI 0)), (0, .ref (ad 0))]) hx hb dX2_darkHours_1 rfl hl (by decide) rfl (fun ls hl => ?_)
  refine lv_iconst (v := nI 0) hx hb dX2_darkHours_2 (by decide) ?_
  refine lv_istore_n (lv' := [(2, .int (nI 0)), (1, .int (nI 0)), (0, .ref (ad 0))]) hx hb dX2_darkHours_3 rfl hl (by decide) rfl (fun ls hl => ?_)
  have lp4 : ∀ (fu4 : Nat) (i : Nat), i ≤ n → n - i < fu4 → ∀ (H : Heap) (locs : List Loc), fP D 19 ad (mkc ct ad M) H → va_S (fA 19 ad) s.heap H locs → ∀ (ls : Array Slot), lv_has ls 3 [(2, .int (nI i)), (1, .int (cSs M 7 i)), (0, .ref (ad 0))] → W p l e ({ frames := 0, cells := 0, slots := 0, locals := 0 }) s m args below meth c H locs 0 0 (MQ below (fQ D ct 19 ad (some (.int (cSs M 7 n))) (mkc ct ad M)) args s 0 0 (fA 19 ad)) (F0 m 4 ls []) := by
    intro fu4
    induction fu4 with
    | zero => intro i hi hfu4; exact absurd hfu4 (Nat.not_lt_zero _)
    | succ fu4 ih4 =>
      intro i hi hfu4 H locs hP hS ls hl
      refine lv_iload_n hx hb dX2_darkHours_4 rfl (lv_at hl 0 rfl) ?_
      refine lv_aload_n hx hb dX2_darkHours_5 rfl (lv_at hl 2 rfl) ?_
      refine mk_g1 hx hb hown htg hK hP fl_X2_41 dX2_darkHours_6 ?_
      refine lv_teq (hw).1 ?_
      refine lv_icmp_geN (tgt := 30) hx hb (by omega) (by omega) dX2_darkHours_9 (by decide) (fun c9 => ?_) (fun c9 => ?_)
      · have e9 : n = i := by omega
        subst e9
        refine lv_iload_n hx hb dX2_darkHours_30 rfl (lv_at hl 1 rfl) ?_
        refine fr_iret hx hb hr hlocks hK hI hS rfl dX2_darkHours_31 ?_ ?_
        · exact rfl
        · exact hP
      · refine lv_iload_n hx hb dX2_darkHours_12 rfl (lv_at hl 1 rfl) ?_
        refine lv_aload_n hx hb dX2_darkHours_13 rfl (lv_at hl 2 rfl) ?_
        refine mk_g0 hx hb hown htg hK hP fl_X2_11 dX2_darkHours_14 ?_
        refine lv_iload_n hx hb dX2_darkHours_17 rfl (lv_at hl 0 rfl) ?_
        refine mk_as hx hb hK hP (by omega) dX2_darkHours_18 ?_
        refine mk_s7 hx hb hown htg hK hP (by omega) fl_X2_131 dX2_darkHours_19 ?_
        refine lv_iadd hx hb dX2_darkHours_22 ?_
        refine lv_istore_n (lv' := [(1, .int ((cSs M 7 i) + (M (39 + 8 * i + 7)))), (2, .int (nI i)), (0, .ref (ad 0))]) hx hb dX2_darkHours_23 rfl hl (by decide) rfl (fun ls hl => ?_)
        refine lv_iinc (v := nI (i + 1)) (lv' := [(2, .int (nI (i + 1))), (1, .int ((cSs M 7 i) + (M (39 + 8 * i + 7)))), (0, .ref (ad 0))]) hx hb dX2_darkHours_24 hl (k := 1) rfl (nI_add i 1) (by decide) rfl (fun ls hl => ?_)
        refine lv_goto (tgt := 4) hx hb dX2_darkHours_27 (by decide) ?_
        have hl := lv_sub (l' := [(2, .int (nI (i + 1))), (1, .int ((cSs M 7 i) + (M (39 + 8 * i + 7)))), (0, .ref (ad 0))]) hl [0, 1, 2] rfl
        have le1 : Value.int ((cSs M 7 i) + (M (39 + 8 * i + 7))) = Value.int (cSs M 7 (i + 1)) := by rfl
        have hl := lv_hasE hl (lcons rfl (lcons le1 (lcons rfl rfl)))
        exact ih4 (i + 1) (by omega) (by omega) _ _ hP hS _ hl
  have hl := lv_sub (l' := [(2, .int (nI 0)), (1, .int (nI 0)), (0, .ref (ad 0))]) hl [0, 1, 2] rfl
  have le1 : Value.int (nI 0) = Value.int (cSs M 7 0) := by rfl
  have hl := lv_hasE hl (lcons rfl (lcons le1 (lcons rfl rfl)))
  exact lp4 (n - 0 + 1) 0 (by omega) (Nat.lt_succ_self _) _ _ hP hS _ hl
set_option maxRecDepth 100000 in
set_option maxHeartbeats 4000000 in
theorem mX2_through (l : Launch) (D : va_G) (ct : Nat → ClassId) (ad : Nat → Nat) (M : Nat → Int32)    : FMet l yX2_through cX2_through 3 (some .int) 0 0 D ct 19 ad [.ref (ad 0)] (mkc ct ad M) (some (.int (cSb M 4 4))) (mkc ct ad M) := by
  refine FMet.of (by decide +kernel) (Nat.le_of_ble_eq_true rfl) ?_
  intro p e s m args below meth c ls hx hb hr hml hown hlocks htg hK hI hP hS hl
  have hl : lv_has ls 3 [(0, .ref (ad 0))] := hl
  refine lv_iconst (v := nI 0) hx hb dX2_through_0 (by decide) ?_
  refine lv_istore_n (lv' := [(1, .int (nI 0)), (0, .ref (ad 0))]) hx hb dX2_through_1 rfl hl (by decide) rfl (fun ls hl => ?_)
  refine lv_iconst (v := nI 0) hx hb dX2_through_2 (by decide) ?_
  refine lv_istore_n (lv' := [(2, .int (nI 0)), (1, .int (nI 0)), (0, .ref (ad 0))]) hx hb dX2_through_3 rfl hl (by decide) rfl (fun ls hl => ?_)
  have lp4 : ∀ (fu4 : Nat) (i : Nat), i ≤ 4 → 4 - i < fu4 → ∀ (H : Heap) (locs : List Loc), fP D 19 ad (mkc ct ad M) H → va_S (fA 19 ad) s.heap H locs → ∀ (ls : Array Slot), lv_has ls 3 [(2, .int (nI i)), (1, .int (cSb M 4 i)), (0, .ref (ad 0))] → W p l e ({ frames := 0, cells := 0, slots := 0, locals := 0 }) s m args below meth c H locs 0 0 (MQ below (fQ D ct 19 ad (some (.int (cSb M 4 4))) (mkc ct ad M)) args s 0 0 (fA 19 ad)) (F0 m 4 ls []) := by
    intro fu4
    induction fu4 with
    | zero => intro i hi hfu4; exact absurd hfu4 (Nat.not_lt_zero _)
    | succ fu4 ih4 =>
      intro i hi hfu4 H locs hP hS ls hl
      refine lv_iload_n hx hb dX2_through_4 rfl (lv_at hl 0 rfl) ?_
      refine lv_iconst (v := nI 4) hx hb dX2_through_5 (by decide) ?_
      refine lv_icmp_geN (tgt := 27) hx hb (by omega) (by omega) dX2_through_6 (by decide) (fun c6 => ?_) (fun c6 => ?_)
      · obtain rfl : i = 4 := by omega
        refine lv_iload_n hx hb dX2_through_27 rfl (lv_at hl 1 rfl) ?_
        refine fr_iret hx hb hr hlocks hK hI hS rfl dX2_through_28 ?_ ?_
        · exact rfl
        · exact hP
      · refine lv_iload_n hx hb dX2_through_9 rfl (lv_at hl 1 rfl) ?_
        refine lv_aload_n hx hb dX2_through_10 rfl (lv_at hl 2 rfl) ?_
        refine mk_g2 hx hb hown htg hK hP fl_X2_19 dX2_through_11 ?_
        refine lv_iload_n hx hb dX2_through_14 rfl (lv_at hl 0 rfl) ?_
        refine mk_ab hx hb hK hP (by omega) dX2_through_15 ?_
        refine mk_b4 hx hb hown htg hK hP (by omega) fl_X2_124 dX2_through_16 ?_
        refine lv_iadd hx hb dX2_through_19 ?_
        refine lv_istore_n (lv' := [(1, .int ((cSb M 4 i) + (M (7 + 5 * i + 4)))), (2, .int (nI i)), (0, .ref (ad 0))]) hx hb dX2_through_20 rfl hl (by decide) rfl (fun ls hl => ?_)
        refine lv_iinc (v := nI (i + 1)) (lv' := [(2, .int (nI (i + 1))), (1, .int ((cSb M 4 i) + (M (7 + 5 * i + 4)))), (0, .ref (ad 0))]) hx hb dX2_through_21 hl (k := 1) rfl (nI_add i 1) (by decide) rfl (fun ls hl => ?_)
        refine lv_goto (tgt := 4) hx hb dX2_through_24 (by decide) ?_
        have hl := lv_sub (l' := [(2, .int (nI (i + 1))), (1, .int ((cSb M 4 i) + (M (7 + 5 * i + 4)))), (0, .ref (ad 0))]) hl [0, 1, 2] rfl
        have le1 : Value.int ((cSb M 4 i) + (M (7 + 5 * i + 4))) = Value.int (cSb M 4 (i + 1)) := by rfl
        have hl := lv_hasE hl (lcons rfl (lcons le1 (lcons rfl rfl)))
        exact ih4 (i + 1) (by omega) (by omega) _ _ hP hS _ hl
  have hl := lv_sub (l' := [(2, .int (nI 0)), (1, .int (nI 0)), (0, .ref (ad 0))]) hl [0, 1, 2] rfl
  have le1 : Value.int (nI 0) = Value.int (cSb M 4 0) := by rfl
  have hl := lv_hasE hl (lcons rfl (lcons le1 (lcons rfl rfl)))
  exact lp4 (4 - 0 + 1) 0 (by omega) (Nat.lt_succ_self _) _ _ hP hS _ hl
set_option maxRecDepth 100000 in
set_option maxHeartbeats 4000000 in
theorem mX2_trips (l : Launch) (D : va_G) (ct : Nat → ClassId) (ad : Nat → Nat) (M : Nat → Int32)    : FMet l yX2_trips cX2_trips 3 (some .int) 0 0 D ct 19 ad [.ref (ad 0)] (mkc ct ad M) (some (.int (cSb M 3 4))) (mkc ct ad M) := by
  refine FMet.of (by decide +kernel) (Nat.le_of_ble_eq_true rfl) ?_
  intro p e s m args below meth c ls hx hb hr hml hown hlocks htg hK hI hP hS hl
  have hl : lv_has ls 3 [(0, .ref (ad 0))] := hl
  refine lv_iconst (v := nI 0) hx hb dX2_trips_0 (by decide) ?_
  refine lv_istore_n (lv' := [(1, .int (nI 0)), (0, .ref (ad 0))]) hx hb dX2_trips_1 rfl hl (by decide) rfl (fun ls hl => ?_)
  refine lv_iconst (v := nI 0) hx hb dX2_trips_2 (by decide) ?_
  refine lv_istore_n (lv' := [(2, .int (nI 0)), (1, .int (nI 0)), (0, .ref (ad 0))]) hx hb dX2_trips_3 rfl hl (by decide) rfl (fun ls hl => ?_)
  have lp4 : ∀ (fu4 : Nat) (i : Nat), i ≤ 4 → 4 - i < fu4 → ∀ (H : Heap) (locs : List Loc), fP D 19 ad (mkc ct ad M) H → va_S (fA 19 ad) s.heap H locs → ∀ (ls : Array Slot), lv_has ls 3 [(2, .int (nI i)), (1, .int (cSb M 3 i)), (0, .ref (ad 0))] → W p l e ({ frames := 0, cells := 0, slots := 0, locals := 0 }) s m args below meth c H locs 0 0 (MQ below (fQ D ct 19 ad (some (.int (cSb M 3 4))) (mkc ct ad M)) args s 0 0 (fA 19 ad)) (F0 m 4 ls []) := by
    intro fu4
    induction fu4 with
    | zero => intro i hi hfu4; exact absurd hfu4 (Nat.not_lt_zero _)
    | succ fu4 ih4 =>
      intro i hi hfu4 H locs hP hS ls hl
      refine lv_iload_n hx hb dX2_trips_4 rfl (lv_at hl 0 rfl) ?_
      refine lv_iconst (v := nI 4) hx hb dX2_trips_5 (by decide) ?_
      refine lv_icmp_geN (tgt := 27) hx hb (by omega) (by omega) dX2_trips_6 (by decide) (fun c6 => ?_) (fun c6 => ?_)
      · obtain rfl : i = 4 := by omega
        refine lv_iload_n hx hb dX2_trips_27 rfl (lv_at hl 1 rfl) ?_
        refine fr_iret hx hb hr hlocks hK hI hS rfl dX2_trips_28 ?_ ?_
        · exact rfl
        · exact hP
      · refine lv_iload_n hx hb dX2_trips_9 rfl (lv_at hl 1 rfl) ?_
        refine lv_aload_n hx hb dX2_trips_10 rfl (lv_at hl 2 rfl) ?_
        refine mk_g2 hx hb hown htg hK hP fl_X2_19 dX2_trips_11 ?_
        refine lv_iload_n hx hb dX2_trips_14 rfl (lv_at hl 0 rfl) ?_
        refine mk_ab hx hb hK hP (by omega) dX2_trips_15 ?_
        refine mk_b3 hx hb hown htg hK hP (by omega) fl_X2_143 dX2_trips_16 ?_
        refine lv_iadd hx hb dX2_trips_19 ?_
        refine lv_istore_n (lv' := [(1, .int ((cSb M 3 i) + (M (7 + 5 * i + 3)))), (2, .int (nI i)), (0, .ref (ad 0))]) hx hb dX2_trips_20 rfl hl (by decide) rfl (fun ls hl => ?_)
        refine lv_iinc (v := nI (i + 1)) (lv' := [(2, .int (nI (i + 1))), (1, .int ((cSb M 3 i) + (M (7 + 5 * i + 3)))), (0, .ref (ad 0))]) hx hb dX2_trips_21 hl (k := 1) rfl (nI_add i 1) (by decide) rfl (fun ls hl => ?_)
        refine lv_goto (tgt := 4) hx hb dX2_trips_24 (by decide) ?_
        have hl := lv_sub (l' := [(2, .int (nI (i + 1))), (1, .int ((cSb M 3 i) + (M (7 + 5 * i + 3)))), (0, .ref (ad 0))]) hl [0, 1, 2] rfl
        have le1 : Value.int ((cSb M 3 i) + (M (7 + 5 * i + 3))) = Value.int (cSb M 3 (i + 1)) := by rfl
        have hl := lv_hasE hl (lcons rfl (lcons le1 (lcons rfl rfl)))
        exact ih4 (i + 1) (by omega) (by omega) _ _ hP hS _ hl
  have hl := lv_sub (l' := [(2, .int (nI 0)), (1, .int (nI 0)), (0, .ref (ad 0))]) hl [0, 1, 2] rfl
  have le1 : Value.int (nI 0) = Value.int (cSb M 3 0) := by rfl
  have hl := lv_hasE hl (lcons rfl (lcons le1 (lcons rfl rfl)))
  exact lp4 (4 - 0 + 1) 0 (by omega) (Nat.lt_succ_self _) _ _ hP hS _ hl
set_option maxRecDepth 100000 in
set_option maxHeartbeats 4000000 in
theorem mX2_fees (l : Launch) (D : va_G) (ct : Nat → ClassId) (ad : Nat → Nat) (M : Nat → Int32)  (n : Nat) (hw : mW M n) : FMet l yX2_fees cX2_fees 3 (some .int) 1 21 D ct 19 ad [.ref (ad 0)] (mkc ct ad M) (some (.int (cFees M n))) (mkc ct ad M) := by
  refine FMet.of (by decide +kernel) (Nat.le_of_ble_eq_true rfl) ?_
  intro p e s m args below meth c ls hx hb hr hml hown hlocks htg hK hI hP hS hl
  have hl : lv_has ls 3 [(0, .ref (ad 0))] := hl
  have hn10 := hw.2
  refine lv_iconst (v := nI 0) hx hb dX2_fees_0 (by decide) ?_
  refine lv_istore_n (lv' := [(1, .int (nI 0)), (0, .ref (ad 0))]) hx hb dX2_fees_1 rfl hl (by decide) rfl (fun ls hl => ?_)
  refine lv_iconst (v := nI 0) hx hb dX2_fees_2 (by decide) ?_
  refine lv_istore_n (lv' := [(2, .int (nI 0)), (1, .int (nI 0)), (0, .ref (ad 0))]) hx hb dX2_fees_3 rfl hl (by decide) rfl (fun ls hl => ?_)
  have lp4 : ∀ (fu4 : Nat) (i : Nat), i ≤ n → n - i < fu4 → ∀ (H : Heap) (locs : List Loc), fP D 19 ad (mkc ct ad M) H → va_S (fA 19 ad) s.heap H locs → ∀ (ls : Array Slot), lv_has ls 3 [(2, .int (nI i)), (1, .int (cFees M i)), (0, .ref (ad 0))] → W p l e ({ frames := 1, cells := 0, slots := 0, locals := 21 }) s m args below meth c H locs 0 0 (MQ below (fQ D ct 19 ad (some (.int (cFees M n))) (mkc ct ad M)) args s 0 0 (fA 19 ad)) (F0 m 4 ls []) := by
    intro fu4
    induction fu4 with
    | zero => intro i hi hfu4; exact absurd hfu4 (Nat.not_lt_zero _)
    | succ fu4 ih4 =>
      intro i hi hfu4 H locs hP hS ls hl
      refine lv_iload_n hx hb dX2_fees_4 rfl (lv_at hl 0 rfl) ?_
      refine lv_aload_n hx hb dX2_fees_5 rfl (lv_at hl 2 rfl) ?_
      refine mk_g1 hx hb hown htg hK hP fl_X2_41 dX2_fees_6 ?_
      refine lv_teq (hw).1 ?_
      refine lv_icmp_geN (tgt := 31) hx hb (by omega) (by omega) dX2_fees_9 (by decide) (fun c9 => ?_) (fun c9 => ?_)
      · have e9 : n = i := by omega
        subst e9
        refine lv_iload_n hx hb dX2_fees_31 rfl (lv_at hl 1 rfl) ?_
        refine fr_iret hx hb hr hlocks hK hI hS rfl dX2_fees_32 ?_ ?_
        · exact rfl
        · exact hP
      · refine lv_iload_n hx hb dX2_fees_12 rfl (lv_at hl 1 rfl) ?_
        refine lv_aload_n hx hb dX2_fees_13 rfl (lv_at hl 2 rfl) ?_
        refine lv_aload_n hx hb dX2_fees_14 rfl (lv_at hl 2 rfl) ?_
        refine mk_g0 hx hb hown htg hK hP fl_X2_11 dX2_fees_15 ?_
        refine lv_iload_n hx hb dX2_fees_18 rfl (lv_at hl 0 rfl) ?_
        refine mk_as hx hb hK hP (by omega) dX2_fees_19 ?_
        refine mk_cmr (As := [.ref (ad (5 + i))]) (rest := [.int (cFees M i)]) hx hb hown htg hK hI hS hP hml hl.1 (mX2_feeOf l D ct ad _ i (by omega)) cw_X2_146 rfl rfl ⟨Nat.le_of_ble_eq_true rfl, Nat.le_of_ble_eq_true rfl⟩ (Nat.le_of_ble_eq_true rfl) dX2_fees_20 ⟨Nat.le_refl _, Nat.le_refl _⟩ (fun H locs hP hS => ?_)
        refine lv_iadd hx hb dX2_fees_23 ?_
        refine lv_istore_n (lv' := [(1, .int ((cFees M i) + (cFee M i))), (2, .int (nI i)), (0, .ref (ad 0))]) hx hb dX2_fees_24 rfl hl (by decide) rfl (fun ls hl => ?_)
        refine lv_iinc (v := nI (i + 1)) (lv' := [(2, .int (nI (i + 1))), (1, .int ((cFees M i) + (cFee M i))), (0, .ref (ad 0))]) hx hb dX2_fees_25 hl (k := 1) rfl (nI_add i 1) (by decide) rfl (fun ls hl => ?_)
        refine lv_goto (tgt := 4) hx hb dX2_fees_28 (by decide) ?_
        have hl := lv_sub (l' := [(2, .int (nI (i + 1))), (1, .int ((cFees M i) + (cFee M i))), (0, .ref (ad 0))]) hl [0, 1, 2] rfl
        have le1 : Value.int ((cFees M i) + (cFee M i)) = Value.int (cFees M (i + 1)) := by rfl
        have hl := lv_hasE hl (lcons rfl (lcons le1 (lcons rfl rfl)))
        exact ih4 (i + 1) (by omega) (by omega) _ _ hP hS _ hl
  have hl := lv_sub (l' := [(2, .int (nI 0)), (1, .int (nI 0)), (0, .ref (ad 0))]) hl [0, 1, 2] rfl
  have le1 : Value.int (nI 0) = Value.int (cFees M 0) := by rfl
  have hl := lv_hasE hl (lcons rfl (lcons le1 (lcons rfl rfl)))
  exact lp4 (n - 0 + 1) 0 (by omega) (Nat.lt_succ_self _) _ _ hP hS _ hl
set_option maxRecDepth 100000 in
set_option maxHeartbeats 4000000 in
theorem mX2_stallAt (l : Launch) (D : va_G) (ct : Nat → ClassId) (ad : Nat → Nat) (M : Nat → Int32) (q : Int32) (n : Nat) (hw : mW M n) : FMet l yX2_stallAt cX2_stallAt 3 (some .int) 0 0 D ct 19 ad [.ref (ad 0), .int (q)] (mkc ct ad M) (some (.int (cAt M q n 11 0))) (mkc ct ad M) := by
  refine FMet.of (by decide +kernel) (Nat.le_of_ble_eq_true rfl) ?_
  intro p e s m args below meth c ls hx hb hr hml hown hlocks htg hK hI hP hS hl
  have hl : lv_has ls 3 [(0, .ref (ad 0)), (1, .int (q))] := hl
  have hn10 := hw.2
  refine lv_iconst (v := nI 0) hx hb dX2_stallAt_0 (by decide) ?_
  refine lv_istore_n (lv' := [(2, .int (nI 0)), (0, .ref (ad 0)), (1, .int (q))]) hx hb dX2_stallAt_1 rfl hl (by decide) rfl (fun ls hl => ?_)
  have lp2 : ∀ (fu2 : Nat) (f : Nat) (i : Nat), f + i = 11 → i ≤ n → cAt M q n f i = cAt M q n 11 0 → f < fu2 → ∀ (H : Heap) (locs : List Loc), fP D 19 ad (mkc ct ad M) H → va_S (fA 19 ad) s.heap H locs → ∀ (ls : Array Slot), lv_has ls 3 [(2, .int (nI i)), (0, .ref (ad 0)), (1, .int (q))] → W p l e ({ frames := 0, cells := 0, slots := 0, locals := 0 }) s m args below meth c H locs 0 0 (MQ below (fQ D ct 19 ad (some (.int (cAt M q n 11 0))) (mkc ct ad M)) args s 0 0 (fA 19 ad)) (F0 m 2 ls []) := by
    intro fu2
    induction fu2 with
    | zero => intro f i hfi hi hres hfu2; exact absurd hfu2 (Nat.not_lt_zero _)
    | succ fu2 ih2 =>
      intro f i hfi hi hres hfu2 H locs hP hS ls hl
      refine lv_iload_n hx hb dX2_stallAt_2 rfl (lv_at hl 0 rfl) ?_
      refine lv_aload_n hx hb dX2_stallAt_3 rfl (lv_at hl 1 rfl) ?_
      refine mk_g1 hx hb hown htg hK hP fl_X2_41 dX2_stallAt_4 ?_
      refine lv_teq (hw).1 ?_
      refine lv_icmp_geN (tgt := 31) hx hb (by omega) (by omega) dX2_stallAt_7 (by decide) (fun c7 => ?_) (fun c7 => ?_)
      · refine lv_iconst (v := -1) hx hb dX2_stallAt_31 (by decide) ?_
        refine fr_iret hx hb hr hlocks hK hI hS rfl dX2_stallAt_32 ?_ ?_
        · first | (rw [← hres, cAt_end c7]; done) | (rw [← hres, cAt_hit (by omega) c7 c20])
        · exact hP
      · refine lv_aload_n hx hb dX2_stallAt_10 rfl (lv_at hl 1 rfl) ?_
        refine mk_g0 hx hb hown htg hK hP fl_X2_11 dX2_stallAt_11 ?_
        refine lv_iload_n hx hb dX2_stallAt_14 rfl (lv_at hl 0 rfl) ?_
        refine mk_as hx hb hK hP (by omega) dX2_stallAt_15 ?_
        refine mk_s4 hx hb hown htg hK hP (by omega) fl_X2_71 dX2_stallAt_16 ?_
        refine lv_iload_n hx hb dX2_stallAt_19 rfl (lv_at hl 2 rfl) ?_
        refine lv_icmp_ne (tgt := 25) hx hb dX2_stallAt_20 (by decide) (fun c20 => ?_) (fun c20 => ?_)
        · refine lv_iinc (v := nI (i + 1)) (lv' := [(2, .int (nI (i + 1))), (0, .ref (ad 0)), (1, .int (q))]) hx hb dX2_stallAt_25 hl (k := 0) rfl (nI_add i 1) (by decide) rfl (fun ls hl => ?_)
          refine lv_goto (tgt := 2) hx hb dX2_stallAt_28 (by decide) ?_
          have hl := lv_sub (l' := [(2, .int (nI (i + 1))), (0, .ref (ad 0)), (1, .int (q))]) hl [0, 1, 2] rfl
          exact ih2 (f - 1) (i + 1) (by omega) (by omega) ((cAt_go (by omega) c7 c20).symm.trans hres) (by omega) _ _ hP hS _ hl
        · refine lv_iload_n hx hb dX2_stallAt_23 rfl (lv_at hl 0 rfl) ?_
          refine fr_iret hx hb hr hlocks hK hI hS rfl dX2_stallAt_24 ?_ ?_
          · first | (rw [← hres, cAt_end c7]; done) | (rw [← hres, cAt_hit (by omega) c7 c20])
          · exact hP
  have hl := lv_sub (l' := [(2, .int (nI 0)), (0, .ref (ad 0)), (1, .int (q))]) hl [0, 1, 2] rfl
  exact lp2 (11 + 1) 11 0 (rfl) (Nat.zero_le _) (rfl) (Nat.lt_succ_self _) _ _ hP hS _ hl
set_option maxRecDepth 100000 in
set_option maxHeartbeats 4000000 in
theorem mX2_isFull (l : Launch) (D : va_G) (ct : Nat → ClassId) (ad : Nat → Nat) (M : Nat → Int32)  (n : Nat) (hw : mW M n) : FMet l yX2_isFull cX2_isFull 1 (some .boolean) 0 0 D ct 19 ad [.ref (ad 0)] (mkc ct ad M) (some (.int (bi (decide (10 ≤ n))))) (mkc ct ad M) := by
  refine FMet.of (by decide +kernel) (Nat.le_of_ble_eq_true rfl) ?_
  intro p e s m args below meth c ls hx hb hr hml hown hlocks htg hK hI hP hS hl
  have hl : lv_has ls 1 [(0, .ref (ad 0))] := hl
  have hn10 := hw.2
  refine lv_aload_n hx hb dX2_isFull_0 rfl (lv_at hl 0 rfl) ?_
  refine mk_g1 hx hb hown htg hK hP fl_X2_41 dX2_isFull_1 ?_
  refine lv_teq (hw).1 ?_
  refine lv_bipush (v := nI 10) hx hb dX2_isFull_4 (by decide) ?_
  refine lv_icmp_ltN (tgt := 13) hx hb (by omega) (by omega) dX2_isFull_6 (by decide) (fun c6 => ?_) (fun c6 => ?_)
  · refine lv_iconst (v := nI 0) hx hb dX2_isFull_13 (by decide) ?_
    refine fr_iret hx hb hr hlocks hK hI hS rfl dX2_isFull_14 ?_ ?_
    · exact (congrArg bi (show (decide (10 ≤ n)) = false from by first | exact decide_eq_true (by omega) | exact decide_eq_false (by omega) | exact (decide_eq_true (by omega)).symm | exact (decide_eq_false (by omega)).symm)).symm
    · exact hP
  · refine lv_iconst (v := nI 1) hx hb dX2_isFull_9 (by decide) ?_
    refine lv_goto (tgt := 14) hx hb dX2_isFull_10 (by decide) ?_
    refine fr_iret hx hb hr hlocks hK hI hS rfl dX2_isFull_14 ?_ ?_
    · exact (congrArg bi (show (decide (10 ≤ n)) = true from by first | exact decide_eq_true (by omega) | exact decide_eq_false (by omega) | exact (decide_eq_true (by omega)).symm | exact (decide_eq_false (by omega)).symm)).symm
    · exact hP
set_option maxRecDepth 100000 in
set_option maxHeartbeats 4000000 in
theorem mX2_hasRoomFor (l : Launch) (D : va_G) (ct : Nat → ClassId) (ad : Nat → Nat) (M : Nat → Int32) (v : Int32)   : FMet l yX2_hasRoomFor cX2_hasRoomFor 2 (some .boolean) 0 0 D ct 19 ad [.ref (ad 0), .int (v)] (mkc ct ad M) (some (.int (bi (decide (M 3 + v ≤ nI 9999))))) (mkc ct ad M) := by
  refine FMet.of (by decide +kernel) (Nat.le_of_ble_eq_true rfl) ?_
  intro p e s m args below meth c ls hx hb hr hml hown hlocks htg hK hI hP hS hl
  have hl : lv_has ls 2 [(0, .ref (ad 0)), (1, .int (v))] := hl
  refine lv_aload_n hx hb dX2_hasRoomFor_0 rfl (lv_at hl 0 rfl) ?_
  refine mk_g5 hx hb hown htg hK hP fl_X2_58 dX2_hasRoomFor_1 ?_
  refine lv_iload_n hx hb dX2_hasRoomFor_4 rfl (lv_at hl 1 rfl) ?_
  refine lv_iadd hx hb dX2_hasRoomFor_5 ?_
  refine lv_sipush (v := nI 9999) hx hb dX2_hasRoomFor_6 (by decide) ?_
  refine lv_icmp_gtR (tgt := 16) hx hb dX2_hasRoomFor_9 (by decide) (fun c9 => ?_) (fun c9 => ?_)
  · refine lv_iconst (v := nI 0) hx hb dX2_hasRoomFor_16 (by decide) ?_
    refine fr_iret hx hb hr hlocks hK hI hS rfl dX2_hasRoomFor_17 ?_ ?_
    · exact (congrArg bi (show (decide (M 3 + v ≤ nI 9999)) = false from by first | (exfalso; omega) | (simp only [Bool.true_eq_false, c9, Int32.not_le.mpr c9, decide_true, decide_false, Bool.and_true, Bool.true_and, Bool.and_false, Bool.false_and, Bool.or_true, Bool.true_or, Bool.or_false, Bool.false_or, Bool.and_self, Bool.or_self, if_true, if_false, eq_self, Bool.false_eq_true, Bool.true_eq_false, reduceCtorEq, not_true_eq_false, not_false_eq_true, and_true, true_and, and_false, false_and, or_true, true_or, or_false, false_or, and_self, or_self, Int32.add_zero]; done) | (simp only [Bool.true_eq_false, c9, Int32.not_le.mpr c9, decide_true, decide_false, Bool.and_true, Bool.true_and, Bool.and_false, Bool.false_and, Bool.or_true, Bool.true_or, Bool.or_false, Bool.false_or, Bool.and_self, Bool.or_self, if_true, if_false, eq_self, Bool.false_eq_true, Bool.true_eq_false, reduceCtorEq, not_true_eq_false, not_false_eq_true, and_true, true_and, and_false, false_and, or_true, true_or, or_false, false_or, and_self, or_self, Int32.add_zero]; rfl))).symm
    · exact hP
  · refine lv_iconst (v := nI 1) hx hb dX2_hasRoomFor_12 (by decide) ?_
    refine lv_goto (tgt := 17) hx hb dX2_hasRoomFor_13 (by decide) ?_
    refine fr_iret hx hb hr hlocks hK hI hS rfl dX2_hasRoomFor_17 ?_ ?_
    · exact (congrArg bi (show (decide (M 3 + v ≤ nI 9999)) = true from by first | (exfalso; omega) | (simp only [Bool.true_eq_false, c9, Int32.not_lt.mpr c9, decide_true, decide_false, Bool.and_true, Bool.true_and, Bool.and_false, Bool.false_and, Bool.or_true, Bool.true_or, Bool.or_false, Bool.false_or, Bool.and_self, Bool.or_self, if_true, if_false, eq_self, Bool.false_eq_true, Bool.true_eq_false, reduceCtorEq, not_true_eq_false, not_false_eq_true, and_true, true_and, and_false, false_and, or_true, true_or, or_false, false_or, and_self, or_self, Int32.add_zero]; done) | (simp only [Bool.true_eq_false, c9, Int32.not_lt.mpr c9, decide_true, decide_false, Bool.and_true, Bool.true_and, Bool.and_false, Bool.false_and, Bool.or_true, Bool.true_or, Bool.or_false, Bool.false_or, Bool.and_self, Bool.or_self, if_true, if_false, eq_self, Bool.false_eq_true, Bool.true_eq_false, reduceCtorEq, not_true_eq_false, not_false_eq_true, and_true, true_and, and_false, false_and, or_true, true_or, or_false, false_or, and_self, or_self, Int32.add_zero]; rfl))).symm
    · exact hP

