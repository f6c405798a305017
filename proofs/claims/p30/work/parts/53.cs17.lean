/-! THE CLASS: more of what its calls do, where they throw nothing -/
set_option maxRecDepth 100000 in
set_option maxHeartbeats 4000000 in
theorem mX5_shed (l : Launch) (D : va_G) (ct : Nat → ClassId) (ad : Nat → Nat) (Ms : Nat → Nat → Int32) (kp : Nat → Int32) (nx sz : Nat) (B A : Nat → Int32) (tn p9 : Nat) (kd : Int32) (k : Nat) (n : Nat)  (hw : mW (Ms 0) n) (hbw : bW (Ms 0) n) (hnx : nx < 6) (hsz : sz ≤ 6) (hkn : k < n) : FMet l yX5_shed cX5_shed 3 (some .int) 3 83 D ct 198 ad [.ref (ad 0), .int (nI k)] (csc ct ad Ms kp (nI nx) (nI sz) B A (nI tn) (nI p9) kd) (some (.int ((if Ms 0 (39 + 8 * k + 5) = 0 then nI 1 else nI 0)))) (csc ct ad (va_up (va_up Ms (4 + nx) (cCp (Ms (4 + nx)) (Ms 0) n)) 0 (upd (Ms 0) (39 + 8 * k + 5) (if Ms 0 (39 + 8 * k + 5) = 0 then nI 1 else nI 0))) kp (nI ((nx + 1) % 6)) (nI (svn sz)) B A (nI tn) (nI p9) kd) := by
  refine FMet.of (by decide +kernel) (Nat.le_of_ble_eq_true rfl) ?_
  intro p e s m args below meth c ls hx hb hr hml hown hlocks htg hK hI hP hS hl
  have hl : lv_has ls 3 [(0, .ref (ad 0)), (1, .int (nI k))] := hl
  have hn10 := hw.2
  refine lv_aload_n hx hb dX5_shed_0 rfl (lv_at hl 0 rfl) ?_
  refine lv_iload_n hx hb dX5_shed_1 rfl (lv_at hl 1 rfl) ?_
  refine cs_co0 (As := [.int (nI k)]) (rest := []) hx hb hown htg hK hI hS hP hml hl.1 (mX5_checkStall l D ct ad Ms kp nx sz B A tn p9 kd k n hw (by omega)) cw_X5_67 rfl rfl ⟨Nat.le_of_ble_eq_true rfl, Nat.le_of_ble_eq_true rfl⟩ (Nat.le_of_ble_eq_true rfl) dX5_shed_2 ⟨Nat.le_refl _, Nat.le_refl _⟩ (fun H locs hP hS => ?_)
  refine lv_aload_n hx hb dX5_shed_5 rfl (lv_at hl 0 rfl) ?_
  refine cs_g4 hx hb hown htg hK hP fl_X5_30 dX5_shed_6 ?_
  refine lv_aload_n hx hb dX5_shed_9 rfl (lv_at hl 0 rfl) ?_
  refine cs_g0 hx hb hown htg hK hP fl_X5_10 dX5_shed_10 ?_
  refine cs_ch0 (As := [.ref (ad (8 + 19 * 0 + 0))]) (rest := []) hx hb hown htg hK hI hS hP hml hl.1 (mX1_save l D ct ad Ms kp nx sz B A tn p9 kd n hw hbw (by omega) (by omega)) cw_X5_59 rfl rfl ⟨Nat.le_of_ble_eq_true rfl, Nat.le_of_ble_eq_true rfl⟩ (Nat.le_of_ble_eq_true rfl) dX5_shed_13 ⟨Nat.le_refl _, Nat.le_refl _⟩ (fun H locs hP hS => ?_)
  refine lv_aload_n hx hb dX5_shed_16 rfl (lv_at hl 0 rfl) ?_
  refine cs_g0 hx hb hown htg hK hP fl_X5_10 dX5_shed_17 ?_
  refine cs_m0 (i := 0) (M := Ms 0) hx hb hown htg hK hP (by omega) (by first | rfl | (simp (disch := omega) only [vup_s, va_up_ne]; done)) fl_X5_85 dX5_shed_20 ?_
  refine lv_iload_n hx hb dX5_shed_23 rfl (lv_at hl 1 rfl) ?_
  refine cs_aMs (i := 0) (M := Ms 0) hx hb hK hP (by omega) (by first | rfl | (simp (disch := omega) only [vup_s, va_up_ne]; done)) (by omega) dX5_shed_24 ?_
  refine lv_astore_n (lv' := [(2, .ref (ad (8 + 19 * 0 + (5 + k)))), (0, .ref (ad 0)), (1, .int (nI k))]) hx hb dX5_shed_25 rfl hl (by decide) rfl (fun ls hl => ?_)
  refine lv_aload_n hx hb dX5_shed_26 rfl (lv_at hl 0 rfl) ?_
  refine lv_aload_n hx hb dX5_shed_27 rfl (lv_at hl 0 rfl) ?_
  refine cs_s5 (k := k) (i := 0) (M := Ms 0) hx hb hown htg hK hP (by omega) (by first | rfl | (simp (disch := omega) only [vup_s, va_up_ne]; done)) (by omega) fl_X5_97 dX5_shed_28 ?_
  refine lv_if_ne (tgt := 38) hx hb dX5_shed_31 (by decide) (fun c31 => ?_) (fun c31 => ?_)
  · refine lv_iconst (v := nI 0) hx hb dX5_shed_38 (by decide) ?_
    refine cs_sp5 (k := k) (i := 0) (M := Ms 0) hx hb hown htg hK hI hS hP (by omega) (by first | rfl | (simp (disch := omega) only [vup_s, va_up_ne]; done)) (by omega) (Or.inl rfl) fl_X5_97 dX5_shed_39 (fun H locs hP hS => ?_)
    refine lv_aload_n hx hb dX5_shed_42 rfl (lv_at hl 0 rfl) ?_
    refine cs_s5 (k := k) (i := 0) (M := upd (Ms 0) (39 + 8 * k + 5) (nI 0)) hx hb hown htg hK hP (by omega) (by first | rfl | (simp (disch := omega) only [vup_s, va_up_ne]; done)) (by omega) fl_X5_97 dX5_shed_43 ?_
    refine lv_teq upd_s ?_
    refine lv_if_eq (tgt := 53) hx hb dX5_shed_46 (by decide) (fun _ => ?_) (fun h => absurd (by decide) h)
    refine lv_iconst (v := nI 0) hx hb dX5_shed_53 (by decide) ?_
    refine fr_iret hx hb hr hlocks hK hI hS rfl dX5_shed_54 ?_ ?_
    · first | exact (if_pos c31).symm | exact (if_neg c31).symm | (rw [if_pos c31]; done) | (rw [if_neg c31]; done)
    · refine fP.eqc (congrArg (fun v9 => csc ct ad v9 kp (nI ((nx + 1) % 6)) (nI (svn sz)) B A (nI tn) (nI p9) kd) (show (va_up (va_up Ms (4 + nx) (cCp (Ms (4 + nx)) (Ms 0) n)) 0 (upd (Ms 0) (39 + 8 * k + 5) (if Ms 0 (39 + 8 * k + 5) = 0 then nI 1 else nI 0))) = (va_up (va_up Ms (4 + nx) (cCp (Ms (4 + nx)) ((Ms 0)) n)) 0 (upd (Ms 0) (39 + 8 * k + 5) (nI 0))) from by first | exact (if_pos c31).symm | exact (if_neg c31).symm | (rw [if_pos c31]; done) | (rw [if_neg c31]; done)).symm) ?_
      exact hP
  · refine lv_iconst (v := nI 1) hx hb dX5_shed_34 (by decide) ?_
    refine lv_goto (tgt := 39) hx hb dX5_shed_35 (by decide) ?_
    refine cs_sp5 (k := k) (i := 0) (M := Ms 0) hx hb hown htg hK hI hS hP (by omega) (by first | rfl | (simp (disch := omega) only [vup_s, va_up_ne]; done)) (by omega) (Or.inr rfl) fl_X5_97 dX5_shed_39 (fun H locs hP hS => ?_)
    refine lv_aload_n hx hb dX5_shed_42 rfl (lv_at hl 0 rfl) ?_
    refine cs_s5 (k := k) (i := 0) (M := upd (Ms 0) (39 + 8 * k + 5) (nI 1)) hx hb hown htg hK hP (by omega) (by first | rfl | (simp (disch := omega) only [vup_s, va_up_ne]; done)) (by omega) fl_X5_97 dX5_shed_43 ?_
    refine lv_teq upd_s ?_
    refine lv_if_eq (tgt := 53) hx hb dX5_shed_46 (by decide) (fun h => absurd h (by decide)) (fun _ => ?_)
    refine lv_iconst (v := nI 1) hx hb dX5_shed_49 (by decide) ?_
    refine lv_goto (tgt := 54) hx hb dX5_shed_50 (by decide) ?_
    refine fr_iret hx hb hr hlocks hK hI hS rfl dX5_shed_54 ?_ ?_
    · first | exact (if_pos c31).symm | exact (if_neg c31).symm | (rw [if_pos c31]; done) | (rw [if_neg c31]; done)
    · refine fP.eqc (congrArg (fun v9 => csc ct ad v9 kp (nI ((nx + 1) % 6)) (nI (svn sz)) B A (nI tn) (nI p9) kd) (show (va_up (va_up Ms (4 + nx) (cCp (Ms (4 + nx)) (Ms 0) n)) 0 (upd (Ms 0) (39 + 8 * k + 5) (if Ms 0 (39 + 8 * k + 5) = 0 then nI 1 else nI 0))) = (va_up (va_up Ms (4 + nx) (cCp (Ms (4 + nx)) ((Ms 0)) n)) 0 (upd (Ms 0) (39 + 8 * k + 5) (nI 1))) from by first | exact (if_pos c31).symm | exact (if_neg c31).symm | (rw [if_pos c31]; done) | (rw [if_neg c31]; done)).symm) ?_
      exact hP
set_option maxRecDepth 100000 in
set_option maxHeartbeats 4000000 in
theorem mX5_over (l : Launch) (D : va_G) (ct : Nat → ClassId) (ad : Nat → Nat) (Ms : Nat → Nat → Int32) (kp : Nat → Int32) (nx sz : Nat) (B A : Nat → Int32) (tn p9 : Nat) (kd : Int32) (q : Nat) (n : Nat)  (hw : mW (Ms 0) n) (hbw : bW (Ms 0) n) (hnx : nx < 6) (hsz : sz ≤ 6) (hq9 : q < 9) : FMet l yX5_over cX5_over 2 (some .int) 3 83 D ct 198 ad [.ref (ad 0), .int (nI q)] (csc ct ad Ms kp (nI nx) (nI sz) B A (nI tn) (nI p9) kd) (some (.int (cBrk (upd (Ms 0) (27 + q) (if Ms 0 (27 + q) = 0 then nI 1 else nI 0)) (nI q)))) (csc ct ad (va_up (va_up Ms (4 + nx) (cCp (Ms (4 + nx)) (Ms 0) n)) 0 (upd (Ms 0) (27 + q) (if Ms 0 (27 + q) = 0 then nI 1 else nI 0))) kp (nI ((nx + 1) % 6)) (nI (svn sz)) B A (nI tn) (nI p9) kd) := by
  refine FMet.of (by decide +kernel) (Nat.le_of_ble_eq_true rfl) ?_
  intro p e s m args below meth c ls hx hb hr hml hown hlocks htg hK hI hP hS hl
  have hl : lv_has ls 2 [(0, .ref (ad 0)), (1, .int (nI q))] := hl
  have hn10 := hw.2
  refine lv_iload_n hx hb dX5_over_0 rfl (lv_at hl 1 rfl) ?_
  refine lv_iconst (v := nI 0) hx hb dX5_over_1 (by decide) ?_
  refine lv_bipush (v := nI 8) hx hb dX5_over_2 (by decide) ?_
  refine cs_cS0 (As := [.int (nI q), .int (nI 0), .int (nI 8)]) (rest := []) hx hb hown htg hK hI hS hP hml hl.1 (mX5_checkArgument l D ct ad Ms kp nx sz B A tn p9 kd (nI q) (nI 0) (nI 8) (Int32.not_lt.mpr ((n_le (by omega) (by omega)).mpr (by omega))) (Int32.not_lt.mpr ((n_le (by omega) (by omega)).mpr (by omega)))) cw_X5_71 rfl rfl ⟨Nat.le_of_ble_eq_true rfl, Nat.le_of_ble_eq_true rfl⟩ (Nat.le_of_ble_eq_true rfl) dX5_over_4 ⟨Nat.le_refl _, Nat.le_refl _⟩ (fun H locs hP hS => ?_)
  refine lv_aload_n hx hb dX5_over_7 rfl (lv_at hl 0 rfl) ?_
  refine cs_g4 hx hb hown htg hK hP fl_X5_30 dX5_over_8 ?_
  refine lv_aload_n hx hb dX5_over_11 rfl (lv_at hl 0 rfl) ?_
  refine cs_g0 hx hb hown htg hK hP fl_X5_10 dX5_over_12 ?_
  refine cs_ch0 (As := [.ref (ad (8 + 19 * 0 + 0))]) (rest := []) hx hb hown htg hK hI hS hP hml hl.1 (mX1_save l D ct ad Ms kp nx sz B A tn p9 kd n hw hbw (by omega) (by omega)) cw_X5_59 rfl rfl ⟨Nat.le_of_ble_eq_true rfl, Nat.le_of_ble_eq_true rfl⟩ (Nat.le_of_ble_eq_true rfl) dX5_over_15 ⟨Nat.le_refl _, Nat.le_refl _⟩ (fun H locs hP hS => ?_)
  refine lv_aload_n hx hb dX5_over_18 rfl (lv_at hl 0 rfl) ?_
  refine cs_g0 hx hb hown htg hK hP fl_X5_10 dX5_over_19 ?_
  refine cs_m3 (i := 0) (M := Ms 0) hx hb hown htg hK hP (by omega) (by first | rfl | (simp (disch := omega) only [vup_s, va_up_ne]; done)) fl_X5_121 dX5_over_22 ?_
  refine lv_iload_n hx hb dX5_over_25 rfl (lv_at hl 1 rfl) ?_
  refine lv_aload_n hx hb dX5_over_26 rfl (lv_at hl 0 rfl) ?_
  refine cs_g0 hx hb hown htg hK hP fl_X5_10 dX5_over_27 ?_
  refine cs_m3 (i := 0) (M := Ms 0) hx hb hown htg hK hP (by omega) (by first | rfl | (simp (disch := omega) only [vup_s, va_up_ne]; done)) fl_X5_121 dX5_over_30 ?_
  refine lv_iload_n hx hb dX5_over_33 rfl (lv_at hl 1 rfl) ?_
  refine cs_lMo (i := 0) (M := Ms 0) hx hb hK hP (by omega) (by first | rfl | (simp (disch := omega) only [vup_s, va_up_ne]; done)) (by omega) dX5_over_34 ?_
  refine lv_if_ne (tgt := 42) hx hb dX5_over_35 (by decide) (fun c35 => ?_) (fun c35 => ?_)
  · refine lv_iconst (v := nI 0) hx hb dX5_over_42 (by decide) ?_
    refine cs_wMo (i := 0) (M := Ms 0) hx hb hK hI hS hP (by omega) (by first | rfl | (simp (disch := omega) only [vup_s, va_up_ne]; done)) (by omega) (Or.inl rfl) dX5_over_43 (fun H locs hP hS => ?_)
    refine lv_aload_n hx hb dX5_over_44 rfl (lv_at hl 0 rfl) ?_
    refine cs_g0 hx hb hown htg hK hP fl_X5_10 dX5_over_45 ?_
    refine lv_iload_n hx hb dX5_over_48 rfl (lv_at hl 1 rfl) ?_
    refine cs_cmr (i := 0) (M := upd (Ms 0) (27 + q) (nI 0)) (M' := upd (Ms 0) (27 + q) (nI 0)) (As := [.int (nI q)]) (rest := []) hx hb hown htg hK hI hS hP hml hl.1 (by omega) (by first | rfl | (simp (disch := omega) only [vup_s, va_up_ne]; done)) (mX2_breakerOf l D ct (fun z => ad (8 + 19 * 0 + z)) (upd (Ms 0) (27 + q) (nI 0)) (nI q)) cw_X5_124 rfl rfl ⟨Nat.le_of_ble_eq_true rfl, Nat.le_of_ble_eq_true rfl⟩ (Nat.le_of_ble_eq_true rfl) dX5_over_49 ⟨Nat.le_refl _, Nat.le_refl _⟩ (fun H locs hP hS => ?_)
    have hP := fP.eqc (congrArg (fun v9 => csc ct ad v9 kp (nI ((nx + 1) % 6)) (nI (svn sz)) B A (nI tn) (nI p9) kd) (show (va_up (va_up (va_up Ms (4 + nx) (cCp (Ms (4 + nx)) ((Ms 0)) n)) 0 (upd (Ms 0) (27 + q) (nI 0))) 0 (upd (Ms 0) (27 + q) (nI 0))) = (va_up (va_up Ms (4 + nx) (cCp (Ms (4 + nx)) ((Ms 0)) n)) 0 (upd (Ms 0) (27 + q) (nI 0))) from by first | exact vup_id _ _ (by first | rfl | (simp (disch := omega) only [vup_s, va_up_ne]; done)))) hP
    refine fr_iret hx hb hr hlocks hK hI hS rfl dX5_over_52 ?_ ?_
    · first | (rw [if_pos c35]; done) | (rw [if_neg c35]; done)
    · refine fP.eqc (congrArg (fun v9 => csc ct ad v9 kp (nI ((nx + 1) % 6)) (nI (svn sz)) B A (nI tn) (nI p9) kd) (show (va_up (va_up Ms (4 + nx) (cCp (Ms (4 + nx)) (Ms 0) n)) 0 (upd (Ms 0) (27 + q) (if Ms 0 (27 + q) = 0 then nI 1 else nI 0))) = (va_up (va_up Ms (4 + nx) (cCp (Ms (4 + nx)) ((Ms 0)) n)) 0 (upd (Ms 0) (27 + q) (nI 0))) from by first | (rw [if_pos c35]; done) | (rw [if_neg c35]; done)).symm) ?_
      exact hP
  · refine lv_iconst (v := nI 1) hx hb dX5_over_38 (by decide) ?_
    refine lv_goto (tgt := 43) hx hb dX5_over_39 (by decide) ?_
    refine cs_wMo (i := 0) (M := Ms 0) hx hb hK hI hS hP (by omega) (by first | rfl | (simp (disch := omega) only [vup_s, va_up_ne]; done)) (by omega) (Or.inr rfl) dX5_over_43 (fun H locs hP hS => ?_)
    refine lv_aload_n hx hb dX5_over_44 rfl (lv_at hl 0 rfl) ?_
    refine cs_g0 hx hb hown htg hK hP fl_X5_10 dX5_over_45 ?_
    refine lv_iload_n hx hb dX5_over_48 rfl (lv_at hl 1 rfl) ?_
    refine cs_cmr (i := 0) (M := upd (Ms 0) (27 + q) (nI 1)) (M' := upd (Ms 0) (27 + q) (nI 1)) (As := [.int (nI q)]) (rest := []) hx hb hown htg hK hI hS hP hml hl.1 (by omega) (by first | rfl | (simp (disch := omega) only [vup_s, va_up_ne]; done)) (mX2_breakerOf l D ct (fun z => ad (8 + 19 * 0 + z)) (upd (Ms 0) (27 + q) (nI 1)) (nI q)) cw_X5_124 rfl rfl ⟨Nat.le_of_ble_eq_true rfl, Nat.le_of_ble_eq_true rfl⟩ (Nat.le_of_ble_eq_true rfl) dX5_over_49 ⟨Nat.le_refl _, Nat.le_refl _⟩ (fun H locs hP hS => ?_)
    have hP := fP.eqc (congrArg (fun v9 => csc ct ad v9 kp (nI ((nx + 1) % 6)) (nI (svn sz)) B A (nI tn) (nI p9) kd) (show (va_up (va_up (va_up Ms (4 + nx) (cCp (Ms (4 + nx)) ((Ms 0)) n)) 0 (upd (Ms 0) (27 + q) (nI 1))) 0 (upd (Ms 0) (27 + q) (nI 1))) = (va_up (va_up Ms (4 + nx) (cCp (Ms (4 + nx)) ((Ms 0)) n)) 0 (upd (Ms 0) (27 + q) (nI 1))) from by first | exact vup_id _ _ (by first | rfl | (simp (disch := omega) only [vup_s, va_up_ne]; done)))) hP
    refine fr_iret hx hb hr hlocks hK hI hS rfl dX5_over_52 ?_ ?_
    · first | (rw [if_pos c35]; done) | (rw [if_neg c35]; done)
    · refine fP.eqc (congrArg (fun v9 => csc ct ad v9 kp (nI ((nx + 1) % 6)) (nI (svn sz)) B A (nI tn) (nI p9) kd) (show (va_up (va_up Ms (4 + nx) (cCp (Ms (4 + nx)) (Ms 0) n)) 0 (upd (Ms 0) (27 + q) (if Ms 0 (27 + q) = 0 then nI 1 else nI 0))) = (va_up (va_up Ms (4 + nx) (cCp (Ms (4 + nx)) ((Ms 0)) n)) 0 (upd (Ms 0) (27 + q) (nI 1))) from by first | (rw [if_pos c35]; done) | (rw [if_neg c35]; done)).symm) ?_
      exact hP
set_option maxRecDepth 100000 in
set_option maxHeartbeats 4000000 in
theorem mX5_stall (l : Launch) (D : va_G) (ct : Nat → ClassId) (ad : Nat → Nat) (Ms : Nat → Nat → Int32) (kp : Nat → Int32) (nx sz : Nat) (B A : Nat → Int32) (tn p9 : Nat) (kd : Int32) (a0 : Int32) (a1 : Int32) (a2 : Int32) (a3 : Int32) (n : Nat)  (hw : mW (Ms 0) n) (hbw : bW (Ms 0) n) (hnx : nx < 6) (hsz : sz ≤ 6) (hn : n < 10) (h1 : ¬ a0 < nI 1) (h2 : ¬ nI 500 < a0) (h3 : ¬ a3 < nI 1) (h4 : ¬ nI 9 < a3) (h5 : ¬ a1 < 0) (h6 : ¬ nI 24 ≤ a1) (h7 : ¬ a2 < 0) (h8 : ¬ nI 24 ≤ a2) : FMet l yX5_stall cX5_stall 5 (some .int) 3 83 D ct 198 ad [.ref (ad 0), .int (a0), .int (a1), .int (a2), .int (a3)] (csc ct ad Ms kp (nI nx) (nI sz) B A (nI tn) (nI p9) kd) (some (.int (nI n))) (csc ct ad (va_up (va_up Ms (4 + nx) (cCp (Ms (4 + nx)) (Ms 0) n)) 0 (upd (cBeg (Ms 0) n a0 a1 a2 a3) 4 (nI (n + 1)))) kp (nI ((nx + 1) % 6)) (nI (svn sz)) B A (nI tn) (nI p9) kd) := by
  refine FMet.of (by decide +kernel) (Nat.le_of_ble_eq_true rfl) ?_
  intro p e s m args below meth c ls hx hb hr hml hown hlocks htg hK hI hP hS hl
  have hl : lv_has ls 5 [(0, .ref (ad 0)), (1, .int (a0)), (2, .int (a1)), (3, .int (a2)), (4, .int (a3))] := hl
  have hn10 := hw.2
  refine lv_iload_n hx hb dX5_stall_0 rfl (lv_at hl 1 rfl) ?_
  refine lv_iconst (v := nI 1) hx hb dX5_stall_1 (by decide) ?_
  refine lv_icmp_ltR (tgt := 25) hx hb dX5_stall_2 (by decide) (fun c2 => ?_) (fun c2 => ?_)
  · exact absurd c2 h1
  · refine lv_iload_n hx hb dX5_stall_5 rfl (lv_at hl 1 rfl) ?_
    refine lv_sipush (v := nI 500) hx hb dX5_stall_6 (by decide) ?_
    refine lv_icmp_gtR (tgt := 25) hx hb dX5_stall_9 (by decide) (fun c9 => ?_) (fun c9 => ?_)
    · exact absurd c9 h2
    · refine lv_iload hx hb dX5_stall_12 (lv_at hl 4 rfl) ?_
      refine lv_iconst (v := nI 1) hx hb dX5_stall_14 (by decide) ?_
      refine lv_icmp_ltR (tgt := 25) hx hb dX5_stall_15 (by decide) (fun c15 => ?_) (fun c15 => ?_)
      · exact absurd c15 h3
      · refine lv_iload hx hb dX5_stall_18 (lv_at hl 4 rfl) ?_
        refine lv_bipush (v := nI 9) hx hb dX5_stall_20 (by decide) ?_
        refine lv_icmp_leR (tgt := 35) hx hb dX5_stall_22 (by decide) (fun c22 => ?_) (fun c22 => ?_)
        · refine lv_iload_n hx hb dX5_stall_35 rfl (lv_at hl 2 rfl) ?_
          refine lv_ifltR (tgt := 55) hx hb dX5_stall_36 (by decide) (fun c36 => ?_) (fun c36 => ?_)
          · exact absurd c36 h5
          · refine lv_iload_n hx hb dX5_stall_39 rfl (lv_at hl 2 rfl) ?_
            refine lv_bipush (v := nI 24) hx hb dX5_stall_40 (by decide) ?_
            refine lv_icmp_geR (tgt := 55) hx hb dX5_stall_42 (by decide) (fun c42 => ?_) (fun c42 => ?_)
            · exact absurd c42 h6
            · refine lv_iload_n hx hb dX5_stall_45 rfl (lv_at hl 3 rfl) ?_
              refine lv_ifltR (tgt := 55) hx hb dX5_stall_46 (by decide) (fun c46 => ?_) (fun c46 => ?_)
              · exact absurd c46 h7
              · refine lv_iload_n hx hb dX5_stall_49 rfl (lv_at hl 3 rfl) ?_
                refine lv_bipush (v := nI 24) hx hb dX5_stall_50 (by decide) ?_
                refine lv_icmp_ltR (tgt := 65) hx hb dX5_stall_52 (by decide) (fun c52 => ?_) (fun c52 => ?_)
                · refine lv_aload_n hx hb dX5_stall_65 rfl (lv_at hl 0 rfl) ?_
                  refine cs_g0 hx hb hown htg hK hP fl_X5_10 dX5_stall_66 ?_
                  refine cs_cmr (i := 0) (M := Ms 0) (M' := Ms 0) (As := []) (rest := []) hx hb hown htg hK hI hS hP hml hl.1 (by omega) (by first | rfl | (simp (disch := omega) only [vup_s, va_up_ne]; done)) (mX2_isFull l D ct (fun z => ad (8 + 19 * 0 + z)) (Ms 0) n hw) cw_X5_50 rfl rfl ⟨Nat.le_of_ble_eq_true rfl, Nat.le_of_ble_eq_true rfl⟩ (Nat.le_of_ble_eq_true rfl) dX5_stall_69 ⟨Nat.le_refl _, Nat.le_refl _⟩ (fun H locs hP hS => ?_)
                  have hP := fP.eqc (congrArg (fun v9 => csc ct ad v9 kp (nI nx) (nI sz) B A (nI tn) (nI p9) kd) (show (va_up Ms 0 (Ms 0)) = Ms from by first | exact vup_id _ _ (by first | rfl | (simp (disch := omega) only [vup_s, va_up_ne]; done)))) hP
                  refine lv_ifeqB (tgt := 85) hx hb dX5_stall_72 (by decide) (fun c72 => ?_) (fun c72 => ?_)
                  · refine lv_aload_n hx hb dX5_stall_85 rfl (lv_at hl 0 rfl) ?_
                    refine cs_g4 hx hb hown htg hK hP fl_X5_30 dX5_stall_86 ?_
                    refine lv_aload_n hx hb dX5_stall_89 rfl (lv_at hl 0 rfl) ?_
                    refine cs_g0 hx hb hown htg hK hP fl_X5_10 dX5_stall_90 ?_
                    refine cs_ch0 (As := [.ref (ad (8 + 19 * 0 + 0))]) (rest := []) hx hb hown htg hK hI hS hP hml hl.1 (mX1_save l D ct ad Ms kp nx sz B A tn p9 kd n hw hbw (by omega) (by omega)) cw_X5_59 rfl rfl ⟨Nat.le_of_ble_eq_true rfl, Nat.le_of_ble_eq_true rfl⟩ (Nat.le_of_ble_eq_true rfl) dX5_stall_93 ⟨Nat.le_refl _, Nat.le_refl _⟩ (fun H locs hP hS => ?_)
                    refine lv_aload_n hx hb dX5_stall_96 rfl (lv_at hl 0 rfl) ?_
                    refine cs_g0 hx hb hown htg hK hP fl_X5_10 dX5_stall_97 ?_
                    refine lv_iload_n hx hb dX5_stall_100 rfl (lv_at hl 1 rfl) ?_
                    refine lv_iload_n hx hb dX5_stall_101 rfl (lv_at hl 2 rfl) ?_
                    refine lv_iload_n hx hb dX5_stall_102 rfl (lv_at hl 3 rfl) ?_
                    refine lv_iload hx hb dX5_stall_103 (lv_at hl 4 rfl) ?_
                    refine cs_cmr (i := 0) (M := Ms 0) (M' := upd (cBeg (Ms 0) n a0 a1 a2 a3) 4 (nI (n + 1))) (As := [.int (a0), .int (a1), .int (a2), .int (a3)]) (rest := []) hx hb hown htg hK hI hS hP hml hl.1 (by omega) (by first | rfl | (simp (disch := omega) only [vup_s, va_up_ne]; done)) (mX2_add l D ct (fun z => ad (8 + 19 * 0 + z)) (Ms 0) a0 a1 a2 a3 n hw (by omega)) cw_X5_63 rfl rfl ⟨Nat.le_of_ble_eq_true rfl, Nat.le_of_ble_eq_true rfl⟩ (Nat.le_of_ble_eq_true rfl) dX5_stall_105 ⟨Nat.le_refl _, Nat.le_refl _⟩ (fun H locs hP hS => ?_)
                    refine fr_iret hx hb hr hlocks hK hI hS rfl dX5_stall_108 ?_ ?_
                    · exact rfl
                    · refine fP.eqc (congrArg (fun v9 => csc ct ad v9 kp (nI ((nx + 1) % 6)) (nI (svn sz)) B A (nI tn) (nI p9) kd) (show (va_up (va_up Ms (4 + nx) (cCp (Ms (4 + nx)) (Ms 0) n)) 0 (upd (cBeg (Ms 0) n a0 a1 a2 a3) 4 (nI (n + 1)))) = (va_up (va_up Ms (4 + nx) (cCp (Ms (4 + nx)) ((Ms 0)) n)) 0 (upd (cBeg (Ms 0) n a0 a1 a2 a3) 4 (nI (n + 1)))) from by rfl).symm) ?_
                      exact hP
                  · exact absurd (of_decide_eq_true c72) (by omega)
                · exact absurd c52 h8
        · exact absurd c22 h4
