/-! THE CLASS'S PLAN: how it is read -/
def pS (B : Nat → Int32) (tn p : Nat) (c : Int32) : Bool := decide (p < tn) && decide (B p = c)
def sP (B : Nat → Int32) (tn p : Nat) (c : Int32) : Nat := if pS B tn p c = true then p + 1 else p
theorem pS_lt {B : Nat → Int32} {tn p : Nat} {c : Int32} (h : pS B tn p c = true) : p < tn := by
  unfold pS at h; rw [Bool.and_eq_true] at h; exact of_decide_eq_true h.1
theorem sP_le {B : Nat → Int32} {tn p : Nat} {c : Int32} (ht : tn ≤ 60) (hp : p ≤ 60) : sP B tn p c ≤ 60 := by
  unfold sP; split
  · rename_i q; have := pS_lt q; omega
  · exact hp
def pD (B : Nat → Int32) (tn p : Nat) : Int32 := if p < tn then (if B p < nI 48 then -1 else if B p ≤ nI 57 then B p - nI 48 else -1) else -1
theorem pD_lt {B : Nat → Int32} {tn p : Nat} {lo : Int32} (hlo : 0 ≤ lo) (h : lo ≤ pD B tn p) : p < tn := by
  by_cases q : p < tn
  · exact q
  · unfold pD at h; rw [if_neg q] at h; exact absurd (Int32.le_trans hlo h) (by decide)
def pC (B : Nat → Int32) (tn : Nat) (hi v : Int32) (p : Nat) : Bool := decide (p < tn) && decide (0 < v) && !decide (pD B tn p = -1) && decide (nI 10 * v + pD B tn p ≤ hi)
def pL (B : Nat → Int32) (tn : Nat) (hi : Int32) : Nat → Int32 → Nat → Int32 × Nat
  | 0, v, p => (v, p)
  | f + 1, v, p => if pC B tn hi v p = true then pL B tn hi f (nI 10 * v + pD B tn p) (p + 1) else (v, p)
theorem pL_no {B : Nat → Int32} {tn : Nat} {hi v : Int32} {f p : Nat} (h : pC B tn hi v p = false) : pL B tn hi f v p = (v, p) := by
  cases f
  · rfl
  · rw [pL, if_neg (by rw [h]; exact Bool.false_ne_true)]
theorem pL_go {B : Nat → Int32} {tn : Nat} {hi v : Int32} {f p : Nat} (hf : 1 ≤ f) (h : pC B tn hi v p = true) : pL B tn hi f v p = pL B tn hi (f - 1) (nI 10 * v + pD B tn p) (p + 1) := by
  cases f
  · omega
  · rw [pL, if_pos h]; rfl
theorem pC_lt {B : Nat → Int32} {tn : Nat} {hi v : Int32} {p : Nat} (h : pC B tn hi v p = true) : p < tn := by
  unfold pC at h; simp only [Bool.and_eq_true] at h; exact of_decide_eq_true h.1.1.1
theorem pL_le {B : Nat → Int32} {tn : Nat} {hi : Int32} : ∀ f v p, p ≤ tn → (pL B tn hi f v p).2 ≤ tn
  | 0, _, _, h => h
  | f + 1, v, p, h => by
    unfold pL; split
    · rename_i q; exact pL_le f _ _ (pC_lt q)
    · exact h
def pN (B : Nat → Int32) (tn p : Nat) (lo hi : Int32) : Bool × Nat × Int32 := if pD B tn p < lo then (false, p, 0) else (true, (pL B tn hi 61 (pD B tn p) (p + 1)).2, (pL B tn hi 61 (pD B tn p) (p + 1)).1)
def nA (A : Nat → Int32) (pl : Nat) (r : Bool × Nat × Int32) : Nat → Int32 := if r.1 = true then upd A pl r.2.2 else A
theorem pN_le {B : Nat → Int32} {tn p : Nat} {lo hi : Int32} {r : Bool × Nat × Int32} (h : pN B tn p lo hi = r) (ht : tn ≤ 60) (hp : p ≤ 60) (hlo : 0 ≤ lo) : r.2.1 ≤ 60 := by
  rw [← h]; unfold pN; split
  · exact hp
  · rename_i q
    have h1 := pD_lt hlo (Int32.not_lt.mp q)
    have := pL_le (B := B) (tn := tn) (hi := hi) 61 (pD B tn p) (p + 1) (by omega)
    show (pL B tn hi 61 (pD B tn p) (p + 1)).2 ≤ 60
    omega
def pNS (B : Nat → Int32) (tn : Nat) (s : Bool × Nat × (Nat → Int32)) (pl : Nat) (lo hi : Int32) : Bool × Nat × (Nat → Int32) := if s.1 = true then ((pN B tn s.2.1 lo hi).1, (pN B tn s.2.1 lo hi).2.1, nA s.2.2 pl (pN B tn s.2.1 lo hi)) else s
def pSS (B : Nat → Int32) (tn : Nat) (s : Bool × Nat × (Nat → Int32)) (c : Int32) : Bool × Nat × (Nat → Int32) := if s.1 = true then (pS B tn s.2.1 c, sP B tn s.2.1 c, s.2.2) else s
def pOs (B : Nat → Int32) (tn p : Nat) (A : Nat → Int32) : Bool × Nat × (Nat → Int32) := pNS B tn (pSS B tn (pNS B tn (pSS B tn (pNS B tn (pSS B tn (pNS B tn (true, p, A) 0 (nI 1) (nI 500)) (nI 64)) 1 (nI 0) (nI 23)) (nI 45)) 2 (nI 0) (nI 23)) (nI 42)) 3 (nI 1) (nI 9)
def pOp (B : Nat → Int32) (tn p : Nat) (A : Nat → Int32) : Bool × Nat × (Nat → Int32) := pNS B tn (pSS B tn (pNS B tn (true, p, A) 0 (nI 0) (nI 9)) (nI 61)) 1 (nI 0) (nI 11)
def pOh (B : Nat → Int32) (tn p : Nat) (A : Nat → Int32) : Bool × Nat × (Nat → Int32) := pNS B tn (true, p, A) 0 (nI 1) (nI 48)
/-- an order: is it one, the place, its numbers, its kind -/
def pO (B : Nat → Int32) (tn p : Nat) (A : Nat → Int32) (kd : Int32) : Bool × Nat × (Nat → Int32) × Int32 :=
  if pS B tn p (nI 115) = true then ((pOs B tn (p + 1) A).1, (pOs B tn (p + 1) A).2.1, (pOs B tn (p + 1) A).2.2, nI 115)
  else if pS B tn p (nI 112) = true then ((pOp B tn (p + 1) A).1, (pOp B tn (p + 1) A).2.1, (pOp B tn (p + 1) A).2.2, nI 112)
  else if pS B tn p (nI 104) = true then ((pOh B tn (p + 1) A).1, (pOh B tn (p + 1) A).2.1, (pOh B tn (p + 1) A).2.2, nI 104)
  else (false, p, A, kd)
theorem pNS_le {B : Nat → Int32} {tn : Nat} {s : Bool × Nat × (Nat → Int32)} {pl : Nat} {lo hi : Int32} (ht : tn ≤ 60) (hlo : 0 ≤ lo) (h : s.2.1 ≤ 60) : (pNS B tn s pl lo hi).2.1 ≤ 60 := by
  unfold pNS; split
  · exact pN_le rfl ht h hlo
  · exact h
theorem pSS_le {B : Nat → Int32} {tn : Nat} {s : Bool × Nat × (Nat → Int32)} {c : Int32} (ht : tn ≤ 60) (h : s.2.1 ≤ 60) : (pSS B tn s c).2.1 ≤ 60 := by
  unfold pSS; split
  · exact sP_le ht h
  · exact h
theorem pO_le {B : Nat → Int32} {tn p : Nat} {A : Nat → Int32} {kd : Int32} {r : Bool × Nat × (Nat → Int32) × Int32} (h : pO B tn p A kd = r) (ht : tn ≤ 60) (hp : p ≤ 60) : r.2.1 ≤ 60 := by
  rw [← h]; unfold pO; split
  · rename_i q; have h1 := pS_lt q
    exact pNS_le ht (by decide) (pSS_le ht (pNS_le ht (by decide) (pSS_le ht (pNS_le ht (by decide) (pSS_le ht (pNS_le ht (by decide) (show p + 1 ≤ 60 by omega)))))))
  · split
    · rename_i q; have h1 := pS_lt q
      exact pNS_le ht (by decide) (pSS_le ht (pNS_le ht (by decide) (show p + 1 ≤ 60 by omega)))
    · split
      · rename_i q; have h1 := pS_lt q
        exact pNS_le ht (by decide) (show p + 1 ≤ 60 by omega)
      · exact hp
/-- the whole buffer: is it a plan, the place, the numbers and the kind that were read last -/
def pW (B : Nat → Int32) (tn : Nat) : Nat → Nat → (Nat → Int32) → Int32 → Bool × Nat × (Nat → Int32) × Int32
  | 0, p, A, kd => (false, p, A, kd)
  | f + 1, p, A, kd => if (pO B tn p A kd).1 = false then pO B tn p A kd else if tn ≤ (pO B tn p A kd).2.1 then (true, (pO B tn p A kd).2) else if pS B tn (pO B tn p A kd).2.1 (nI 59) = false then (false, (pO B tn p A kd).2) else pW B tn f ((pO B tn p A kd).2.1 + 1) (pO B tn p A kd).2.2.1 (pO B tn p A kd).2.2.2
theorem pW_go {B : Nat → Int32} {tn f p : Nat} {A : Nat → Int32} {kd : Int32} {r : Bool × Nat × (Nat → Int32) × Int32} (hf : 1 ≤ f) (h : pO B tn p A kd = r) (h1 : r.1 = true) (h2 : r.2.1 < tn) (h3 : pS B tn r.2.1 (nI 59) = true) : pW B tn f p A kd = pW B tn (f - 1) (r.2.1 + 1) r.2.2.1 r.2.2.2 := by
  cases f
  · omega
  · rw [pW, h, if_neg (by rw [h1]; simp), if_neg (by omega), if_neg (by rw [h3]; simp)]; rfl
theorem pW_1 {B : Nat → Int32} {tn f p : Nat} {A : Nat → Int32} {kd : Int32} {r : Bool × Nat × (Nat → Int32) × Int32} (hf : 1 ≤ f) (h : pO B tn p A kd = r) (h1 : r.1 = false) : pW B tn f p A kd = (false, r.2) := by
  cases f
  · omega
  · rw [pW, h, if_pos h1, ← h1]
theorem pW_2 {B : Nat → Int32} {tn f p : Nat} {A : Nat → Int32} {kd : Int32} {r : Bool × Nat × (Nat → Int32) × Int32} (hf : 1 ≤ f) (h : pO B tn p A kd = r) (h1 : r.1 = true) (h2 : tn ≤ r.2.1) : pW B tn f p A kd = (true, r.2) := by
  cases f
  · omega
  · rw [pW, h, if_neg (by rw [h1]; simp), if_pos h2]
theorem pW_3 {B : Nat → Int32} {tn f p : Nat} {A : Nat → Int32} {kd : Int32} {r : Bool × Nat × (Nat → Int32) × Int32} (hf : 1 ≤ f) (h : pO B tn p A kd = r) (h1 : r.1 = true) (h2 : r.2.1 < tn) (h3 : pS B tn r.2.1 (nI 59) = false) : pW B tn f p A kd = (false, r.2) := by
  cases f
  · omega
  · rw [pW, h, if_neg (by rw [h1]; simp), if_neg (by omega), if_pos h3]
set_option maxRecDepth 100000 in
set_option maxHeartbeats 4000000 in
theorem mX3_readSign (l : Launch) (D : va_G) (ct : Nat → ClassId) (ad : Nat → Nat) (B A : Nat → Int32) (tn p9 : Nat) (kd : Int32) (c9 : Int32)  (htn : tn ≤ 60) (hp : p9 ≤ 60) : FMet l yX3_readSign cX3_readSign 2 (some .boolean) 0 0 D ct 3 ad [.ref (ad 0), .int (c9)] (ptc ct ad B A (nI tn) (nI p9) kd) (some (.int (bi (pS B tn p9 c9)))) (ptc ct ad B A (nI tn) (nI (sP B tn p9 c9)) kd) := by
  refine FMet.of (by decide +kernel) (Nat.le_of_ble_eq_true rfl) ?_
  intro p e s m args below meth c ls hx hb hr hml hown hlocks htg hK hI hP hS hl
  have hl : lv_has ls 2 [(0, .ref (ad 0)), (1, .int (c9))] := hl
  refine lv_aload_n hx hb dX3_readSign_0 rfl (lv_at hl 0 rfl) ?_
  refine pt_g2 hx hb hown htg hK hP fl_X3_19 dX3_readSign_1 ?_
  refine lv_aload_n hx hb dX3_readSign_4 rfl (lv_at hl 0 rfl) ?_
  refine pt_g1 hx hb hown htg hK hP fl_X3_27 dX3_readSign_5 ?_
  refine lv_icmp_geN (tgt := 24) hx hb (by omega) (by omega) dX3_readSign_8 (by decide) (fun c8 => ?_) (fun c8 => ?_)
  · refine lv_iconst (v := nI 0) hx hb dX3_readSign_24 (by decide) ?_
    refine fr_iret hx hb hr hlocks hK hI hS rfl dX3_readSign_25 ?_ ?_
    · exact (congrArg bi (show (pS B tn p9 c9) = false from by first | (exfalso; omega) | (simp only [pS, c8, Nat.not_lt.mpr c8, decide_true, decide_false, Bool.and_true, Bool.true_and, Bool.and_false, Bool.false_and, Bool.or_true, Bool.true_or, Bool.or_false, Bool.false_or, Bool.and_self, Bool.or_self, if_true, if_false, eq_self, Bool.false_eq_true, Bool.true_eq_false, reduceCtorEq, not_true_eq_false, not_false_eq_true, and_true, true_and, and_false, false_and, or_true, true_or, or_false, false_or, and_self, or_self, Int32.add_zero]; done) | (simp only [pS, c8, Nat.not_lt.mpr c8, decide_true, decide_false, Bool.and_true, Bool.true_and, Bool.and_false, Bool.false_and, Bool.or_true, Bool.true_or, Bool.or_false, Bool.false_or, Bool.and_self, Bool.or_self, if_true, if_false, eq_self, Bool.false_eq_true, Bool.true_eq_false, reduceCtorEq, not_true_eq_false, not_false_eq_true, and_true, true_and, and_false, false_and, or_true, true_or, or_false, false_or, and_self, or_self, Int32.add_zero]; rfl))).symm
    · refine fP.eqc (congrArg (fun v9 => ptc ct ad B A (nI tn) (nI v9) kd) (show (sP B tn p9 c9) = p9 from by first | (exfalso; omega) | (simp only [sP, pS, c8, Nat.not_lt.mpr c8, decide_true, decide_false, Bool.and_true, Bool.true_and, Bool.and_false, Bool.false_and, Bool.or_true, Bool.true_or, Bool.or_false, Bool.false_or, Bool.and_self, Bool.or_self, if_true, if_false, eq_self, Bool.false_eq_true, Bool.true_eq_false, reduceCtorEq, not_true_eq_false, not_false_eq_true, and_true, true_and, and_false, false_and, or_true, true_or, or_false, false_or, and_self, or_self, Int32.add_zero]; done) | (simp only [sP, pS, c8, Nat.not_lt.mpr c8, decide_true, decide_false, Bool.and_true, Bool.true_and, Bool.and_false, Bool.false_and, Bool.or_true, Bool.true_or, Bool.or_false, Bool.false_or, Bool.and_self, Bool.or_self, if_true, if_false, eq_self, Bool.false_eq_true, Bool.true_eq_false, reduceCtorEq, not_true_eq_false, not_false_eq_true, and_true, true_and, and_false, false_and, or_true, true_or, or_false, false_or, and_self, or_self, Int32.add_zero]; rfl)).symm) ?_
      exact hP
  · refine lv_aload_n hx hb dX3_readSign_11 rfl (lv_at hl 0 rfl) ?_
    refine pt_g0 hx hb hown htg hK hP fl_X3_9 dX3_readSign_12 ?_
    refine lv_aload_n hx hb dX3_readSign_15 rfl (lv_at hl 0 rfl) ?_
    refine pt_g2 hx hb hown htg hK hP fl_X3_19 dX3_readSign_16 ?_
    refine pt_ls hx hb hK hP (by omega) dX3_readSign_19 ?_
    refine lv_iload_n hx hb dX3_readSign_20 rfl (lv_at hl 1 rfl) ?_
    refine lv_icmp_eq (tgt := 26) hx hb dX3_readSign_21 (by decide) (fun c21 => ?_) (fun c21 => ?_)
    · refine lv_aload_n hx hb dX3_readSign_26 rfl (lv_at hl 0 rfl) ?_
      refine lv_dup hx hb dX3_readSign_27 rfl ?_
      refine pt_g2 hx hb hown htg hK hP fl_X3_19 dX3_readSign_28 ?_
      refine lv_iconst (v := nI 1) hx hb dX3_readSign_31 (by decide) ?_
      refine lv_iaddN hx hb dX3_readSign_32 ?_
      refine pt_p2 hx hb hown htg hK hI hS hP fl_X3_19 dX3_readSign_33 (fun H locs hP hS => ?_)
      refine lv_iconst (v := nI 1) hx hb dX3_readSign_36 (by decide) ?_
      refine fr_iret hx hb hr hlocks hK hI hS rfl dX3_readSign_37 ?_ ?_
      · exact (congrArg bi (show (pS B tn p9 c9) = true from by first | (exfalso; omega) | (simp only [pS, c8, Nat.not_le.mpr c8, c21, decide_true, decide_false, Bool.and_true, Bool.true_and, Bool.and_false, Bool.false_and, Bool.or_true, Bool.true_or, Bool.or_false, Bool.false_or, Bool.and_self, Bool.or_self, if_true, if_false, eq_self, Bool.false_eq_true, Bool.true_eq_false, reduceCtorEq, not_true_eq_false, not_false_eq_true, and_true, true_and, and_false, false_and, or_true, true_or, or_false, false_or, and_self, or_self, Int32.add_zero]; done) | (simp only [pS, c8, Nat.not_le.mpr c8, c21, decide_true, decide_false, Bool.and_true, Bool.true_and, Bool.and_false, Bool.false_and, Bool.or_true, Bool.true_or, Bool.or_false, Bool.false_or, Bool.and_self, Bool.or_self, if_true, if_false, eq_self, Bool.false_eq_true, Bool.true_eq_false, reduceCtorEq, not_true_eq_false, not_false_eq_true, and_true, true_and, and_false, false_and, or_true, true_or, or_false, false_or, and_self, or_self, Int32.add_zero]; rfl))).symm
      · refine fP.eqc (congrArg (fun v9 => ptc ct ad B A (nI tn) (nI v9) kd) (show (sP B tn p9 c9) = (p9 + 1) from by first | (exfalso; omega) | (simp only [sP, pS, c8, Nat.not_le.mpr c8, c21, decide_true, decide_false, Bool.and_true, Bool.true_and, Bool.and_false, Bool.false_and, Bool.or_true, Bool.true_or, Bool.or_false, Bool.false_or, Bool.and_self, Bool.or_self, if_true, if_false, eq_self, Bool.false_eq_true, Bool.true_eq_false, reduceCtorEq, not_true_eq_false, not_false_eq_true, and_true, true_and, and_false, false_and, or_true, true_or, or_false, false_or, and_self, or_self, Int32.add_zero]; done) | (simp only [sP, pS, c8, Nat.not_le.mpr c8, c21, decide_true, decide_false, Bool.and_true, Bool.true_and, Bool.and_false, Bool.false_and, Bool.or_true, Bool.true_or, Bool.or_false, Bool.false_or, Bool.and_self, Bool.or_self, if_true, if_false, eq_self, Bool.false_eq_true, Bool.true_eq_false, reduceCtorEq, not_true_eq_false, not_false_eq_true, and_true, true_and, and_false, false_and, or_true, true_or, or_false, false_or, and_self, or_self, Int32.add_zero]; rfl)).symm) ?_
        exact hP
    · refine lv_iconst (v := nI 0) hx hb dX3_readSign_24 (by decide) ?_
      refine fr_iret hx hb hr hlocks hK hI hS rfl dX3_readSign_25 ?_ ?_
      · exact (congrArg bi (show (pS B tn p9 c9) = false from by first | (exfalso; omega) | (simp only [pS, c8, Nat.not_le.mpr c8, c21, decide_true, decide_false, Bool.and_true, Bool.true_and, Bool.and_false, Bool.false_and, Bool.or_true, Bool.true_or, Bool.or_false, Bool.false_or, Bool.and_self, Bool.or_self, if_true, if_false, eq_self, Bool.false_eq_true, Bool.true_eq_false, reduceCtorEq, not_true_eq_false, not_false_eq_true, and_true, true_and, and_false, false_and, or_true, true_or, or_false, false_or, and_self, or_self, Int32.add_zero]; done) | (simp only [pS, c8, Nat.not_le.mpr c8, c21, decide_true, decide_false, Bool.and_true, Bool.true_and, Bool.and_false, Bool.false_and, Bool.or_true, Bool.true_or, Bool.or_false, Bool.false_or, Bool.and_self, Bool.or_self, if_true, if_false, eq_self, Bool.false_eq_true, Bool.true_eq_false, reduceCtorEq, not_true_eq_false, not_false_eq_true, and_true, true_and, and_false, false_and, or_true, true_or, or_false, false_or, and_self, or_self, Int32.add_zero]; rfl))).symm
      · refine fP.eqc (congrArg (fun v9 => ptc ct ad B A (nI tn) (nI v9) kd) (show (sP B tn p9 c9) = p9 from by first | (exfalso; omega) | (simp only [sP, pS, c8, Nat.not_le.mpr c8, c21, decide_true, decide_false, Bool.and_true, Bool.true_and, Bool.and_false, Bool.false_and, Bool.or_true, Bool.true_or, Bool.or_false, Bool.false_or, Bool.and_self, Bool.or_self, if_true, if_false, eq_self, Bool.false_eq_true, Bool.true_eq_false, reduceCtorEq, not_true_eq_false, not_false_eq_true, and_true, true_and, and_false, false_and, or_true, true_or, or_false, false_or, and_self, or_self, Int32.add_zero]; done) | (simp only [sP, pS, c8, Nat.not_le.mpr c8, c21, decide_true, decide_false, Bool.and_true, Bool.true_and, Bool.and_false, Bool.false_and, Bool.or_true, Bool.true_or, Bool.or_false, Bool.false_or, Bool.and_self, Bool.or_self, if_true, if_false, eq_self, Bool.false_eq_true, Bool.true_eq_false, reduceCtorEq, not_true_eq_false, not_false_eq_true, and_true, true_and, and_false, false_and, or_true, true_or, or_false, false_or, and_self, or_self, Int32.add_zero]; rfl)).symm) ?_
        exact hP
set_option maxRecDepth 100000 in
set_option maxHeartbeats 4000000 in
theorem mX3_digitAt (l : Launch) (D : va_G) (ct : Nat → ClassId) (ad : Nat → Nat) (B A : Nat → Int32) (tn p9 : Nat) (kd : Int32) (i : Nat)  (htn : tn ≤ 60) (hi : i ≤ 60) : FMet l yX3_digitAt cX3_digitAt 2 (some .int) 0 0 D ct 3 ad [.ref (ad 0), .int (nI i)] (ptc ct ad B A (nI tn) (nI p9) kd) (some (.int (pD B tn i))) (ptc ct ad B A (nI tn) (nI p9) kd) := by
  refine FMet.of (by decide +kernel) (Nat.le_of_ble_eq_true rfl) ?_
  intro p e s m args below meth c ls hx hb hr hml hown hlocks htg hK hI hP hS hl
  have hl : lv_has ls 2 [(0, .ref (ad 0)), (1, .int (nI i))] := hl
  refine lv_iload_n hx hb dX3_digitAt_0 rfl (lv_at hl 1 rfl) ?_
  refine lv_aload_n hx hb dX3_digitAt_1 rfl (lv_at hl 0 rfl) ?_
  refine pt_g1 hx hb hown htg hK hP fl_X3_27 dX3_digitAt_2 ?_
  refine lv_icmp_geN (tgt := 30) hx hb (by omega) (by omega) dX3_digitAt_5 (by decide) (fun c5 => ?_) (fun c5 => ?_)
  · refine lv_iconst (v := -1) hx hb dX3_digitAt_30 (by decide) ?_
    refine fr_iret hx hb hr hlocks hK hI hS rfl dX3_digitAt_31 ?_ ?_
    · first | (exfalso; omega) | (simp only [pD, c5, Nat.not_lt.mpr c5, decide_true, decide_false, Bool.and_true, Bool.true_and, Bool.and_false, Bool.false_and, Bool.or_true, Bool.true_or, Bool.or_false, Bool.false_or, Bool.and_self, Bool.or_self, if_true, if_false, eq_self, Bool.false_eq_true, Bool.true_eq_false, reduceCtorEq, not_true_eq_false, not_false_eq_true, and_true, true_and, and_false, false_and, or_true, true_or, or_false, false_or, and_self, or_self, Int32.add_zero]; done) | (simp only [pD, c5, Nat.not_lt.mpr c5, decide_true, decide_false, Bool.and_true, Bool.true_and, Bool.and_false, Bool.false_and, Bool.or_true, Bool.true_or, Bool.or_false, Bool.false_or, Bool.and_self, Bool.or_self, if_true, if_false, eq_self, Bool.false_eq_true, Bool.true_eq_false, reduceCtorEq, not_true_eq_false, not_false_eq_true, and_true, true_and, and_false, false_and, or_true, true_or, or_false, false_or, and_self, or_self, Int32.add_zero]; rfl)
    · exact hP
  · refine lv_aload_n hx hb dX3_digitAt_8 rfl (lv_at hl 0 rfl) ?_
    refine pt_g0 hx hb hown htg hK hP fl_X3_9 dX3_digitAt_9 ?_
    refine lv_iload_n hx hb dX3_digitAt_12 rfl (lv_at hl 1 rfl) ?_
    refine pt_ls hx hb hK hP (by omega) dX3_digitAt_13 ?_
    refine lv_bipush (v := nI 48) hx hb dX3_digitAt_14 (by decide) ?_
    refine lv_icmp_ltR (tgt := 30) hx hb dX3_digitAt_16 (by decide) (fun c16 => ?_) (fun c16 => ?_)
    · refine lv_iconst (v := -1) hx hb dX3_digitAt_30 (by decide) ?_
      refine fr_iret hx hb hr hlocks hK hI hS rfl dX3_digitAt_31 ?_ ?_
      · first | (exfalso; omega) | (simp only [pD, c5, Nat.not_le.mpr c5, c16, Int32.not_le.mpr c16, decide_true, decide_false, Bool.and_true, Bool.true_and, Bool.and_false, Bool.false_and, Bool.or_true, Bool.true_or, Bool.or_false, Bool.false_or, Bool.and_self, Bool.or_self, if_true, if_false, eq_self, Bool.false_eq_true, Bool.true_eq_false, reduceCtorEq, not_true_eq_false, not_false_eq_true, and_true, true_and, and_false, false_and, or_true, true_or, or_false, false_or, and_self, or_self, Int32.add_zero]; done) | (simp only [pD, c5, Nat.not_le.mpr c5, c16, Int32.not_le.mpr c16, decide_true, decide_false, Bool.and_true, Bool.true_and, Bool.and_false, Bool.false_and, Bool.or_true, Bool.true_or, Bool.or_false, Bool.false_or, Bool.and_self, Bool.or_self, if_true, if_false, eq_self, Bool.false_eq_true, Bool.true_eq_false, reduceCtorEq, not_true_eq_false, not_false_eq_true, and_true, true_and, and_false, false_and, or_true, true_or, or_false, false_or, and_self, or_self, Int32.add_zero]; rfl)
      · exact hP
    · refine lv_aload_n hx hb dX3_digitAt_19 rfl (lv_at hl 0 rfl) ?_
      refine pt_g0 hx hb hown htg hK hP fl_X3_9 dX3_digitAt_20 ?_
      refine lv_iload_n hx hb dX3_digitAt_23 rfl (lv_at hl 1 rfl) ?_
      refine pt_ls hx hb hK hP (by omega) dX3_digitAt_24 ?_
      refine lv_bipush (v := nI 57) hx hb dX3_digitAt_25 (by decide) ?_
      refine lv_icmp_leR (tgt := 32) hx hb dX3_digitAt_27 (by decide) (fun c27 => ?_) (fun c27 => ?_)
      · refine lv_aload_n hx hb dX3_digitAt_32 rfl (lv_at hl 0 rfl) ?_
        refine pt_g0 hx hb hown htg hK hP fl_X3_9 dX3_digitAt_33 ?_
        refine lv_iload_n hx hb dX3_digitAt_36 rfl (lv_at hl 1 rfl) ?_
        refine pt_ls hx hb hK hP (by omega) dX3_digitAt_37 ?_
        refine lv_bipush (v := nI 48) hx hb dX3_digitAt_38 (by decide) ?_
        refine lv_isub hx hb dX3_digitAt_40 ?_
        refine fr_iret hx hb hr hlocks hK hI hS rfl dX3_digitAt_41 ?_ ?_
        · first | (exfalso; omega) | (simp only [pD, c5, Nat.not_le.mpr c5, c16, Int32.not_lt.mpr c16, c27, Int32.not_lt.mpr c27, decide_true, decide_false, Bool.and_true, Bool.true_and, Bool.and_false, Bool.false_and, Bool.or_true, Bool.true_or, Bool.or_false, Bool.false_or, Bool.and_self, Bool.or_self, if_true, if_false, eq_self, Bool.false_eq_true, Bool.true_eq_false, reduceCtorEq, not_true_eq_false, not_false_eq_true, and_true, true_and, and_false, false_and, or_true, true_or, or_false, false_or, and_self, or_self, Int32.add_zero]; done) | (simp only [pD, c5, Nat.not_le.mpr c5, c16, Int32.not_lt.mpr c16, c27, Int32.not_lt.mpr c27, decide_true, decide_false, Bool.and_true, Bool.true_and, Bool.and_false, Bool.false_and, Bool.or_true, Bool.true_or, Bool.or_false, Bool.false_or, Bool.and_self, Bool.or_self, if_true, if_false, eq_self, Bool.false_eq_true, Bool.true_eq_false, reduceCtorEq, not_true_eq_false, not_false_eq_true, and_true, true_and, and_false, false_and, or_true, true_or, or_false, false_or, and_self, or_self, Int32.add_zero]; rfl)
        · exact hP
      · refine lv_iconst (v := -1) hx hb dX3_digitAt_30 (by decide) ?_
        refine fr_iret hx hb hr hlocks hK hI hS rfl dX3_digitAt_31 ?_ ?_
        · first | (exfalso; omega) | (simp only [pD, c5, Nat.not_le.mpr c5, c16, Int32.not_lt.mpr c16, c27, Int32.not_le.mpr c27, decide_true, decide_false, Bool.and_true, Bool.true_and, Bool.and_false, Bool.false_and, Bool.or_true, Bool.true_or, Bool.or_false, Bool.false_or, Bool.and_self, Bool.or_self, if_true, if_false, eq_self, Bool.false_eq_true, Bool.true_eq_false, reduceCtorEq, not_true_eq_false, not_false_eq_true, and_true, true_and, and_false, false_and, or_true, true_or, or_false, false_or, and_self, or_self, Int32.add_zero]; done) | (simp only [pD, c5, Nat.not_le.mpr c5, c16, Int32.not_lt.mpr c16, c27, Int32.not_le.mpr c27, decide_true, decide_false, Bool.and_true, Bool.true_and, Bool.and_false, Bool.false_and, Bool.or_true, Bool.true_or, Bool.or_false, Bool.false_or, Bool.and_self, Bool.or_self, if_true, if_false, eq_self, Bool.false_eq_true, Bool.true_eq_false, reduceCtorEq, not_true_eq_false, not_false_eq_true, and_true, true_and, and_false, false_and, or_true, true_or, or_false, false_or, and_self, or_self, Int32.add_zero]; rfl)
        · exact hP
