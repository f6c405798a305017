/-! THE CLASS: trials -/
theorem vup_s {α : Type} (f : Nat → α) (k : Nat) (x : α) : va_up f k x k = x := by unfold va_up; exact if_pos rfl
theorem vup_id {α : Type} (f : Nat → α) (k : Nat) {x : α} (h : f k = x) : va_up f k x = f := by
  funext j; unfold va_up; split
  · rename_i q; rw [q, h]
  · rfl
theorem cCp_mW {M P : Nat → Int32} {n : Nat} (h : mW P n) : mW (cCp M P n) n := ⟨(show cCp M P n 4 = P 4 from if_pos (by omega)).trans h.1, h.2⟩
theorem kmn1 : Cond.methodLink RX1 29 Lib.Math.min.name ∈ wB := wB_of 338 (by decide +kernel) (by decide +kernel)
theorem kmn2 : Cond.static Lib.Math.min.name ∈ wB := wB_of 339 (by decide +kernel) (by decide +kernel)
theorem kmn3 : Cond.initialized "java/lang/Math" ∈ wB := wB_of 22 (by decide +kernel) (by decide +kernel)
theorem kmn4 : Cond.code Lib.Math.min.name Lib.Math.min.code 2 (some .int) ∈ wB := wB_of 340 (by decide +kernel) (by decide +kernel)
def cTk (M : Nat → Int32) (n : Nat) (k q : Int32) : Bool := !decide (cAt M q n 11 0 = -1) && !decide (cAt M q n 11 0 = k)
set_option maxRecDepth 100000 in
set_option maxHeartbeats 4000000 in
theorem mX5_isTakenFor (l : Launch) (D : va_G) (ct : Nat → ClassId) (ad : Nat → Nat) (Ms : Nat → Nat → Int32) (kp : Nat → Int32) (nx sz : Nat) (B A : Nat → Int32) (tn p9 : Nat) (kd : Int32) (k : Int32) (q : Int32) (n : Nat)  (hw : mW (Ms 0) n) : FMet l yX5_isTakenFor cX5_isTakenFor 4 (some .boolean) 1 22 D ct 198 ad [.ref (ad 0), .int (k), .int (q)] (csc ct ad Ms kp (nI nx) (nI sz) B A (nI tn) (nI p9) kd) (some (.int (bi (cTk (Ms 0) n k q)))) (csc ct ad Ms kp (nI nx) (nI sz) B A (nI tn) (nI p9) kd) := by
  refine FMet.of (by decide +kernel) (Nat.le_of_ble_eq_true rfl) ?_
  intro p e s m args below meth c ls hx hb hr hml hown hlocks htg hK hI hP hS hl
  have hl : lv_has ls 4 [(0, .ref (ad 0)), (1, .int (k)), (2, .int (q))] := hl
  have hn10 := hw.2
  refine lv_aload_n hx hb dX5_isTakenFor_0 rfl (lv_at hl 0 rfl) ?_
  refine cs_g0 hx hb hown htg hK hP fl_X5_10 dX5_isTakenFor_1 ?_
  refine lv_iload_n hx hb dX5_isTakenFor_4 rfl (lv_at hl 2 rfl) ?_
  refine cs_cmr (i := 0) (M := Ms 0) (M' := Ms 0) (As := [.int (q)]) (rest := []) hx hb hown htg hK hI hS hP hml hl.1 (by omega) (by first | rfl | (simp (disch := omega) only [vup_s, va_up_ne]; done)) (mX2_stallAt l D ct (fun z => ad (8 + 19 * 0 + z)) (Ms 0) q n hw) cw_X5_75 rfl rfl ⟨Nat.le_of_ble_eq_true rfl, Nat.le_of_ble_eq_true rfl⟩ (Nat.le_of_ble_eq_true rfl) dX5_isTakenFor_5 ⟨Nat.le_refl _, Nat.le_refl _⟩ (fun H locs hP hS => ?_)
  have hP := fP.eqc (congrArg (fun v9 => csc ct ad v9 kp (nI nx) (nI sz) B A (nI tn) (nI p9) kd) (show (va_up Ms 0 (Ms 0)) = Ms from by first | exact vup_id _ _ (by first | rfl | (simp (disch := omega) only [vup_s, va_up_ne]; done)))) hP
  refine lv_istore_n (lv' := [(3, .int (cAt (Ms 0) q n 11 0)), (0, .ref (ad 0)), (1, .int (k)), (2, .int (q))]) hx hb dX5_isTakenFor_8 rfl hl (by decide) rfl (fun ls hl => ?_)
  refine lv_iload_n hx hb dX5_isTakenFor_9 rfl (lv_at hl 0 rfl) ?_
  refine lv_iconst (v := -1) hx hb dX5_isTakenFor_10 (by decide) ?_
  refine lv_icmp_eq (tgt := 23) hx hb dX5_isTakenFor_11 (by decide) (fun c11 => ?_) (fun c11 => ?_)
  · refine lv_iconst (v := nI 0) hx hb dX5_isTakenFor_23 (by decide) ?_
    refine fr_iret hx hb hr hlocks hK hI hS rfl dX5_isTakenFor_24 ?_ ?_
    · exact (congrArg bi (show (cTk (Ms 0) n k q) = false from by first | (exfalso; omega) | (simp only [cTk, Bool.not_true, Bool.not_false, c11, decide_true, decide_false, Bool.and_true, Bool.true_and, Bool.and_false, Bool.false_and, Bool.or_true, Bool.true_or, Bool.or_false, Bool.false_or, Bool.and_self, Bool.or_self, if_true, if_false, eq_self, Bool.false_eq_true, Bool.true_eq_false, reduceCtorEq, not_true_eq_false, not_false_eq_true, and_true, true_and, and_false, false_and, or_true, true_or, or_false, false_or, and_self, or_self, Int32.add_zero]; done) | (simp only [cTk, Bool.not_true, Bool.not_false, c11, decide_true, decide_false, Bool.and_true, Bool.true_and, Bool.and_false, Bool.false_and, Bool.or_true, Bool.true_or, Bool.or_false, Bool.false_or, Bool.and_self, Bool.or_self, if_true, if_false, eq_self, Bool.false_eq_true, Bool.true_eq_false, reduceCtorEq, not_true_eq_false, not_false_eq_true, and_true, true_and, and_false, false_and, or_true, true_or, or_false, false_or, and_self, or_self, Int32.add_zero]; rfl))).symm
    · exact hP
  · refine lv_iload_n hx hb dX5_isTakenFor_14 rfl (lv_at hl 0 rfl) ?_
    refine lv_iload_n hx hb dX5_isTakenFor_15 rfl (lv_at hl 2 rfl) ?_
    refine lv_icmp_eq (tgt := 23) hx hb dX5_isTakenFor_16 (by decide) (fun c16 => ?_) (fun c16 => ?_)
    · refine lv_iconst (v := nI 0) hx hb dX5_isTakenFor_23 (by decide) ?_
      refine fr_iret hx hb hr hlocks hK hI hS rfl dX5_isTakenFor_24 ?_ ?_
      · exact (congrArg bi (show (cTk (Ms 0) n k q) = false from by first | (exfalso; omega) | (simp only [cTk, Bool.not_true, Bool.not_false, c11, c16, decide_true, decide_false, Bool.and_true, Bool.true_and, Bool.and_false, Bool.false_and, Bool.or_true, Bool.true_or, Bool.or_false, Bool.false_or, Bool.and_self, Bool.or_self, if_true, if_false, eq_self, Bool.false_eq_true, Bool.true_eq_false, reduceCtorEq, not_true_eq_false, not_false_eq_true, and_true, true_and, and_false, false_and, or_true, true_or, or_false, false_or, and_self, or_self, Int32.add_zero]; done) | (simp only [cTk, Bool.not_true, Bool.not_false, c11, c16, decide_true, decide_false, Bool.and_true, Bool.true_and, Bool.and_false, Bool.false_and, Bool.or_true, Bool.true_or, Bool.or_false, Bool.false_or, Bool.and_self, Bool.or_self, if_true, if_false, eq_self, Bool.false_eq_true, Bool.true_eq_false, reduceCtorEq, not_true_eq_false, not_false_eq_true, and_true, true_and, and_false, false_and, or_true, true_or, or_false, false_or, and_self, or_self, Int32.add_zero]; rfl))).symm
      · exact hP
    · refine lv_iconst (v := nI 1) hx hb dX5_isTakenFor_19 (by decide) ?_
      refine lv_goto (tgt := 24) hx hb dX5_isTakenFor_20 (by decide) ?_
      refine fr_iret hx hb hr hlocks hK hI hS rfl dX5_isTakenFor_24 ?_ ?_
      · exact (congrArg bi (show (cTk (Ms 0) n k q) = true from by first | (exfalso; omega) | (simp only [cTk, Bool.not_true, Bool.not_false, c11, c16, decide_true, decide_false, Bool.and_true, Bool.true_and, Bool.and_false, Bool.false_and, Bool.or_true, Bool.true_or, Bool.or_false, Bool.false_or, Bool.and_self, Bool.or_self, if_true, if_false, eq_self, Bool.false_eq_true, Bool.true_eq_false, reduceCtorEq, not_true_eq_false, not_false_eq_true, and_true, true_and, and_false, false_and, or_true, true_or, or_false, false_or, and_self, or_self, Int32.add_zero]; done) | (simp only [cTk, Bool.not_true, Bool.not_false, c11, c16, decide_true, decide_false, Bool.and_true, Bool.true_and, Bool.and_false, Bool.false_and, Bool.or_true, Bool.true_or, Bool.or_false, Bool.false_or, Bool.and_self, Bool.or_self, if_true, if_false, eq_self, Bool.false_eq_true, Bool.true_eq_false, reduceCtorEq, not_true_eq_false, not_false_eq_true, and_true, true_and, and_false, false_and, or_true, true_or, or_false, false_or, and_self, or_self, Int32.add_zero]; rfl))).symm
      · exact hP
set_option maxRecDepth 100000 in
set_option maxHeartbeats 4000000 in
theorem mX5_tryAt (l : Launch) (D : va_G) (ct : Nat → ClassId) (ad : Nat → Nat) (Ms : Nat → Nat → Int32) (kp : Nat → Int32) (nx sz : Nat) (B A : Nat → Int32) (tn p9 : Nat) (kd : Int32) (k : Nat) (q : Int32) (tm : Nat) (n : Nat)  (hw : mW (Ms 0) n) (hbw : bW (Ms 0) n) (hk : k < 10) (htm : tm < 2147483648) : FMet l yX5_tryAt cX5_tryAt 4 (none : Option Jvm.ClassFile.FieldType) 5 108 D ct 198 ad [.ref (ad 0), .int (nI k), .int (q), .int (nI tm)] (csc ct ad Ms kp (nI nx) (nI sz) B A (nI tn) (nI p9) kd) none (csc ct ad (va_up Ms 1 (cHs (upd (cCp (Ms 1) (Ms 0) n) (39 + 8 * k + 4) q) n tm)) kp (nI nx) (nI sz) B A (nI tn) (nI p9) kd) := by
  refine FMet.of (by decide +kernel) (Nat.le_of_ble_eq_true rfl) ?_
  intro p e s m args below meth c ls hx hb hr hml hown hlocks htg hK hI hP hS hl
  have hl : lv_has ls 4 [(0, .ref (ad 0)), (1, .int (nI k)), (2, .int (q)), (3, .int (nI tm))] := hl
  have hn10 := hw.2
  refine lv_aload_n hx hb dX5_tryAt_0 rfl (lv_at hl 0 rfl) ?_
  refine cs_g1 hx hb hown htg hK hP fl_X5_16 dX5_tryAt_1 ?_
  refine lv_aload_n hx hb dX5_tryAt_4 rfl (lv_at hl 0 rfl) ?_
  refine cs_g0 hx hb hown htg hK hP fl_X5_10 dX5_tryAt_5 ?_
  refine cs_cc (i := 1) (j := 0) (M := Ms 1) (P := Ms 0) (rest := []) hx hb hown htg hK hI hS hP hml hl.1 (by omega) (by omega) (by omega) (by first | rfl | (simp (disch := omega) only [vup_s, va_up_ne]; done)) (by first | rfl | (simp (disch := omega) only [vup_s, va_up_ne]; done)) (mX2_copyFrom l D ct (fun z => ad (cf2 1 0 z)) (Ms 1) (Ms 0) n hw hbw) cw_X5_173 ⟨Nat.le_of_ble_eq_true rfl, Nat.le_of_ble_eq_true rfl⟩ (Nat.le_of_ble_eq_true rfl) dX5_tryAt_8 ⟨Nat.le_refl _, Nat.le_refl _⟩ (fun H locs hP hS => ?_)
  refine lv_aload_n hx hb dX5_tryAt_11 rfl (lv_at hl 0 rfl) ?_
  refine cs_g1 hx hb hown htg hK hP fl_X5_16 dX5_tryAt_12 ?_
  refine lv_iload_n hx hb dX5_tryAt_15 rfl (lv_at hl 1 rfl) ?_
  refine lv_iload_n hx hb dX5_tryAt_16 rfl (lv_at hl 2 rfl) ?_
  refine cs_cmr (i := 1) (M := cCp (Ms 1) (Ms 0) n) (M' := upd (cCp (Ms 1) (Ms 0) n) (39 + 8 * k + 4) q) (As := [.int (nI k), .int (q)]) (rest := []) hx hb hown htg hK hI hS hP hml hl.1 (by omega) (by first | rfl | (simp (disch := omega) only [vup_s, va_up_ne]; done)) (mX2_move l D ct (fun z => ad (8 + 19 * 1 + z)) (cCp (Ms 1) (Ms 0) n) k q (by omega)) cw_X5_81 rfl rfl ⟨Nat.le_of_ble_eq_true rfl, Nat.le_of_ble_eq_true rfl⟩ (Nat.le_of_ble_eq_true rfl) dX5_tryAt_17 ⟨Nat.le_refl _, Nat.le_refl _⟩ (fun H locs hP hS => ?_)
  refine lv_pop hx hb dX5_tryAt_20 rfl ?_
  refine lv_aload_n hx hb dX5_tryAt_21 rfl (lv_at hl 0 rfl) ?_
  refine cs_g1 hx hb hown htg hK hP fl_X5_16 dX5_tryAt_22 ?_
  refine lv_iload_n hx hb dX5_tryAt_25 rfl (lv_at hl 3 rfl) ?_
  refine cs_cm0 (i := 1) (M := upd (cCp (Ms 1) (Ms 0) n) (39 + 8 * k + 4) q) (M' := cHs (upd (cCp (Ms 1) (Ms 0) n) (39 + 8 * k + 4) q) n tm) (As := [.int (nI tm)]) (rest := []) hx hb hown htg hK hI hS hP hml hl.1 (by omega) (by first | rfl | (simp (disch := omega) only [vup_s, va_up_ne]; done)) (mX2_goHours l D ct (fun z => ad (8 + 19 * 1 + z)) (upd (cCp (Ms 1) (Ms 0) n) (39 + 8 * k + 4) q) tm n (mW_upd (cCp_mW hw) (by omega)) (by omega)) cw_X5_137 rfl rfl ⟨Nat.le_of_ble_eq_true rfl, Nat.le_of_ble_eq_true rfl⟩ (Nat.le_of_ble_eq_true rfl) dX5_tryAt_26 ⟨Nat.le_refl _, Nat.le_refl _⟩ (fun H locs hP hS => ?_)
  refine fr_vret hx hb hr hlocks hK hI hS dX5_tryAt_29 ?_
  refine fP.eqc (congrArg (fun v9 => csc ct ad v9 kp (nI nx) (nI sz) B A (nI tn) (nI p9) kd) (show (va_up Ms 1 (cHs (upd (cCp (Ms 1) (Ms 0) n) (39 + 8 * k + 4) q) n tm)) = (va_up (va_up (va_up Ms 1 (cCp (Ms 1) (Ms 0) n)) 1 (upd (cCp (Ms 1) (Ms 0) n) (39 + 8 * k + 4) q)) 1 (cHs (upd (cCp (Ms 1) (Ms 0) n) (39 + 8 * k + 4) q) n tm)) from by first | rfl | (simp only [va_up_up]; done)).symm) ?_
  exact hP

