/-! THE CLASS: what its calls do, where they throw nothing -/
set_option maxRecDepth 100000 in
set_option maxHeartbeats 4000000 in
theorem mX5_pull (l : Launch) (D : va_G) (ct : Nat → ClassId) (ad : Nat → Nat) (Ms : Nat → Nat → Int32) (kp : Nat → Int32) (nx sz : Nat) (B A : Nat → Int32) (tn p9 : Nat) (kd : Int32) (k : Nat) (n : Nat)  (hw : mW (Ms 0) n) (hbw : bW (Ms 0) n) (hnx : nx < 6) (hsz : sz ≤ 6) (hkn : k < n) (hsk : ¬ Ms 0 (39 + 8 * k + 4) = -1) : FMet l yX5_pull cX5_pull 2 (some .int) 3 83 D ct 198 ad [.ref (ad 0), .int (nI k)] (csc ct ad Ms kp (nI nx) (nI sz) B A (nI tn) (nI p9) kd) (some (.int (Ms 0 (39 + 8 * k + 4)))) (csc ct ad (va_up (va_up Ms (4 + nx) (cCp (Ms (4 + nx)) (Ms 0) n)) 0 (upd (Ms 0) (39 + 8 * k + 4) (-1))) kp (nI ((nx + 1) % 6)) (nI (svn sz)) B A (nI tn) (nI p9) kd) := by
  refine FMet.of (by decide +kernel) (Nat.le_of_ble_eq_true rfl) ?_
  intro p e s m args below meth c ls hx hb hr hml hown hlocks htg hK hI hP hS hl
  have hl : lv_has ls 2 [(0, .ref (ad 0)), (1, .int (nI k))] := hl
  have hn10 := hw.2
  refine lv_aload_n hx hb dX5_pull_0 rfl (lv_at hl 0 rfl) ?_
  refine lv_iload_n hx hb dX5_pull_1 rfl (lv_at hl 1 rfl) ?_
  refine cs_co0 (As := [.int (nI k)]) (rest := []) hx hb hown htg hK hI hS hP hml hl.1 (mX5_checkStall l D ct ad Ms kp nx sz B A tn p9 kd k n hw (by omega)) cw_X5_67 rfl rfl ⟨Nat.le_of_ble_eq_true rfl, Nat.le_of_ble_eq_true rfl⟩ (Nat.le_of_ble_eq_true rfl) dX5_pull_2 ⟨Nat.le_refl _, Nat.le_refl _⟩ (fun H locs hP hS => ?_)
  refine lv_aload_n hx hb dX5_pull_5 rfl (lv_at hl 0 rfl) ?_
  refine cs_g0 hx hb hown htg hK hP fl_X5_10 dX5_pull_6 ?_
  refine cs_m0 (i := 0) (M := Ms 0) hx hb hown htg hK hP (by omega) (by first | rfl | (simp (disch := omega) only [vup_s, va_up_ne]; done)) fl_X5_85 dX5_pull_9 ?_
  refine lv_iload_n hx hb dX5_pull_12 rfl (lv_at hl 1 rfl) ?_
  refine cs_aMs (i := 0) (M := Ms 0) hx hb hK hP (by omega) (by first | rfl | (simp (disch := omega) only [vup_s, va_up_ne]; done)) (by omega) dX5_pull_13 ?_
  refine cs_s4 (k := k) (i := 0) (M := Ms 0) hx hb hown htg hK hP (by omega) (by first | rfl | (simp (disch := omega) only [vup_s, va_up_ne]; done)) (by omega) fl_X5_89 dX5_pull_14 ?_
  refine lv_iconst (v := -1) hx hb dX5_pull_17 (by decide) ?_
  refine lv_icmp_ne (tgt := 31) hx hb dX5_pull_18 (by decide) (fun c18 => ?_) (fun c18 => ?_)
  · refine lv_aload_n hx hb dX5_pull_31 rfl (lv_at hl 0 rfl) ?_
    refine cs_g4 hx hb hown htg hK hP fl_X5_30 dX5_pull_32 ?_
    refine lv_aload_n hx hb dX5_pull_35 rfl (lv_at hl 0 rfl) ?_
    refine cs_g0 hx hb hown htg hK hP fl_X5_10 dX5_pull_36 ?_
    refine cs_ch0 (As := [.ref (ad (8 + 19 * 0 + 0))]) (rest := []) hx hb hown htg hK hI hS hP hml hl.1 (mX1_save l D ct ad Ms kp nx sz B A tn p9 kd n hw hbw (by omega) (by omega)) cw_X5_59 rfl rfl ⟨Nat.le_of_ble_eq_true rfl, Nat.le_of_ble_eq_true rfl⟩ (Nat.le_of_ble_eq_true rfl) dX5_pull_39 ⟨Nat.le_refl _, Nat.le_refl _⟩ (fun H locs hP hS => ?_)
    refine lv_aload_n hx hb dX5_pull_42 rfl (lv_at hl 0 rfl) ?_
    refine cs_g0 hx hb hown htg hK hP fl_X5_10 dX5_pull_43 ?_
    refine lv_iload_n hx hb dX5_pull_46 rfl (lv_at hl 1 rfl) ?_
    refine lv_iconst (v := -1) hx hb dX5_pull_47 (by decide) ?_
    refine cs_cmr (i := 0) (M := Ms 0) (M' := upd (Ms 0) (39 + 8 * k + 4) (-1)) (As := [.int (nI k), .int (-1)]) (rest := []) hx hb hown htg hK hI hS hP hml hl.1 (by omega) (by first | rfl | (simp (disch := omega) only [vup_s, va_up_ne]; done)) (mX2_move l D ct (fun z => ad (8 + 19 * 0 + z)) (Ms 0) k (-1) (by omega)) cw_X5_81 rfl rfl ⟨Nat.le_of_ble_eq_true rfl, Nat.le_of_ble_eq_true rfl⟩ (Nat.le_of_ble_eq_true rfl) dX5_pull_48 ⟨Nat.le_refl _, Nat.le_refl _⟩ (fun H locs hP hS => ?_)
    refine fr_iret hx hb hr hlocks hK hI hS rfl dX5_pull_51 ?_ ?_
    · rfl
    · refine fP.eqc (congrArg (fun v9 => csc ct ad v9 kp (nI ((nx + 1) % 6)) (nI (svn sz)) B A (nI tn) (nI p9) kd) (show (va_up (va_up Ms (4 + nx) (cCp (Ms (4 + nx)) (Ms 0) n)) 0 (upd (Ms 0) (39 + 8 * k + 4) (-1))) = (va_up (va_up Ms (4 + nx) (cCp (Ms (4 + nx)) ((Ms 0)) n)) 0 (upd (Ms 0) (39 + 8 * k + 4) (-1))) from by rfl).symm) ?_
      exact hP
  · exact absurd c18 hsk
set_option maxRecDepth 100000 in
set_option maxHeartbeats 4000000 in
theorem mX5_plug (l : Launch) (D : va_G) (ct : Nat → ClassId) (ad : Nat → Nat) (Ms : Nat → Nat → Int32) (kp : Nat → Int32) (nx sz : Nat) (B A : Nat → Int32) (tn p9 : Nat) (kd : Int32) (k : Nat) (q : Nat) (n : Nat)  (hw : mW (Ms 0) n) (hbw : bW (Ms 0) n) (hnx : nx < 6) (hsz : sz ≤ 6) (hkn : k < n) (hq12 : q < 12) (hq : cAt (Ms 0) (nI q) n 11 0 = -1) : FMet l yX5_plug cX5_plug 3 (some .int) 3 83 D ct 198 ad [.ref (ad 0), .int (nI k), .int (nI q)] (csc ct ad Ms kp (nI nx) (nI sz) B A (nI tn) (nI p9) kd) (some (.int (Ms 0 (39 + 8 * k + 4)))) (csc ct ad (va_up (va_up Ms (4 + nx) (cCp (Ms (4 + nx)) (Ms 0) n)) 0 (upd (Ms 0) (39 + 8 * k + 4) (nI q))) kp (nI ((nx + 1) % 6)) (nI (svn sz)) B A (nI tn) (nI p9) kd) := by
  refine FMet.of (by decide +kernel) (Nat.le_of_ble_eq_true rfl) ?_
  intro p e s m args below meth c ls hx hb hr hml hown hlocks htg hK hI hP hS hl
  have hl : lv_has ls 3 [(0, .ref (ad 0)), (1, .int (nI k)), (2, .int (nI q))] := hl
  have hn10 := hw.2
  refine lv_aload_n hx hb dX5_plug_0 rfl (lv_at hl 0 rfl) ?_
  refine lv_iload_n hx hb dX5_plug_1 rfl (lv_at hl 1 rfl) ?_
  refine cs_co0 (As := [.int (nI k)]) (rest := []) hx hb hown htg hK hI hS hP hml hl.1 (mX5_checkStall l D ct ad Ms kp nx sz B A tn p9 kd k n hw (by omega)) cw_X5_67 rfl rfl ⟨Nat.le_of_ble_eq_true rfl, Nat.le_of_ble_eq_true rfl⟩ (Nat.le_of_ble_eq_true rfl) dX5_plug_2 ⟨Nat.le_refl _, Nat.le_refl _⟩ (fun H locs hP hS => ?_)
  refine lv_iload_n hx hb dX5_plug_5 rfl (lv_at hl 2 rfl) ?_
  refine lv_iconst (v := nI 0) hx hb dX5_plug_6 (by decide) ?_
  refine lv_bipush (v := nI 11) hx hb dX5_plug_7 (by decide) ?_
  refine cs_cS0 (As := [.int (nI q), .int (nI 0), .int (nI 11)]) (rest := []) hx hb hown htg hK hI hS hP hml hl.1 (mX5_checkArgument l D ct ad Ms kp nx sz B A tn p9 kd (nI q) (nI 0) (nI 11) (Int32.not_lt.mpr ((n_le (by omega) (by omega)).mpr (by omega))) (Int32.not_lt.mpr ((n_le (by omega) (by omega)).mpr (by omega)))) cw_X5_71 rfl rfl ⟨Nat.le_of_ble_eq_true rfl, Nat.le_of_ble_eq_true rfl⟩ (Nat.le_of_ble_eq_true rfl) dX5_plug_9 ⟨Nat.le_refl _, Nat.le_refl _⟩ (fun H locs hP hS => ?_)
  refine lv_aload_n hx hb dX5_plug_12 rfl (lv_at hl 0 rfl) ?_
  refine cs_g0 hx hb hown htg hK hP fl_X5_10 dX5_plug_13 ?_
  refine lv_iload_n hx hb dX5_plug_16 rfl (lv_at hl 2 rfl) ?_
  refine cs_cmr (i := 0) (M := Ms 0) (M' := Ms 0) (As := [.int (nI q)]) (rest := []) hx hb hown htg hK hI hS hP hml hl.1 (by omega) (by first | rfl | (simp (disch := omega) only [vup_s, va_up_ne]; done)) (mX2_stallAt l D ct (fun z => ad (8 + 19 * 0 + z)) (Ms 0) (nI q) n hw) cw_X5_75 rfl rfl ⟨Nat.le_of_ble_eq_true rfl, Nat.le_of_ble_eq_true rfl⟩ (Nat.le_of_ble_eq_true rfl) dX5_plug_17 ⟨Nat.le_refl _, Nat.le_refl _⟩ (fun H locs hP hS => ?_)
  have hP := fP.eqc (congrArg (fun v9 => csc ct ad v9 kp (nI nx) (nI sz) B A (nI tn) (nI p9) kd) (show (va_up Ms 0 (Ms 0)) = Ms from by first | exact vup_id _ _ (by first | rfl | (simp (disch := omega) only [vup_s, va_up_ne]; done)))) hP
  refine lv_iconst (v := -1) hx hb dX5_plug_20 (by decide) ?_
  refine lv_icmp_eq (tgt := 34) hx hb dX5_plug_21 (by decide) (fun c21 => ?_) (fun c21 => ?_)
  · refine lv_aload_n hx hb dX5_plug_34 rfl (lv_at hl 0 rfl) ?_
    refine cs_g4 hx hb hown htg hK hP fl_X5_30 dX5_plug_35 ?_
    refine lv_aload_n hx hb dX5_plug_38 rfl (lv_at hl 0 rfl) ?_
    refine cs_g0 hx hb hown htg hK hP fl_X5_10 dX5_plug_39 ?_
    refine cs_ch0 (As := [.ref (ad (8 + 19 * 0 + 0))]) (rest := []) hx hb hown htg hK hI hS hP hml hl.1 (mX1_save l D ct ad Ms kp nx sz B A tn p9 kd n hw hbw (by omega) (by omega)) cw_X5_59 rfl rfl ⟨Nat.le_of_ble_eq_true rfl, Nat.le_of_ble_eq_true rfl⟩ (Nat.le_of_ble_eq_true rfl) dX5_plug_42 ⟨Nat.le_refl _, Nat.le_refl _⟩ (fun H locs hP hS => ?_)
    refine lv_aload_n hx hb dX5_plug_45 rfl (lv_at hl 0 rfl) ?_
    refine cs_g0 hx hb hown htg hK hP fl_X5_10 dX5_plug_46 ?_
    refine lv_iload_n hx hb dX5_plug_49 rfl (lv_at hl 1 rfl) ?_
    refine lv_iload_n hx hb dX5_plug_50 rfl (lv_at hl 2 rfl) ?_
    refine cs_cmr (i := 0) (M := Ms 0) (M' := upd (Ms 0) (39 + 8 * k + 4) (nI q)) (As := [.int (nI k), .int (nI q)]) (rest := []) hx hb hown htg hK hI hS hP hml hl.1 (by omega) (by first | rfl | (simp (disch := omega) only [vup_s, va_up_ne]; done)) (mX2_move l D ct (fun z => ad (8 + 19 * 0 + z)) (Ms 0) k (nI q) (by omega)) cw_X5_81 rfl rfl ⟨Nat.le_of_ble_eq_true rfl, Nat.le_of_ble_eq_true rfl⟩ (Nat.le_of_ble_eq_true rfl) dX5_plug_51 ⟨Nat.le_refl _, Nat.le_refl _⟩ (fun H locs hP hS => ?_)
    refine fr_iret hx hb hr hlocks hK hI hS rfl dX5_plug_54 ?_ ?_
    · rfl
    · refine fP.eqc (congrArg (fun v9 => csc ct ad v9 kp (nI ((nx + 1) % 6)) (nI (svn sz)) B A (nI tn) (nI p9) kd) (show (va_up (va_up Ms (4 + nx) (cCp (Ms (4 + nx)) (Ms 0) n)) 0 (upd (Ms 0) (39 + 8 * k + 4) (nI q))) = (va_up (va_up Ms (4 + nx) (cCp (Ms (4 + nx)) ((Ms 0)) n)) 0 (upd (Ms 0) (39 + 8 * k + 4) (nI q))) from by rfl).symm) ?_
      exact hP
  · exact absurd hq c21
set_option maxRecDepth 100000 in
set_option maxHeartbeats 4000000 in
theorem mX5_bound (l : Launch) (D : va_G) (ct : Nat → ClassId) (ad : Nat → Nat) (Ms : Nat → Nat → Int32) (kp : Nat → Int32) (nx sz : Nat) (B A : Nat → Int32) (tn p9 : Nat) (kd : Int32) (b : Nat) (v : Int32) (n : Nat)  (hw : mW (Ms 0) n) (hbw : bW (Ms 0) n) (hnx : nx < 6) (hsz : sz ≤ 6) (hb4 : b < 4) (hv1 : ¬ v < nI 10) (hv2 : ¬ nI 999 < v) : FMet l yX5_bound cX5_bound 5 (some .int) 3 83 D ct 198 ad [.ref (ad 0), .int (nI b), .int (v)] (csc ct ad Ms kp (nI nx) (nI sz) B A (nI tn) (nI p9) kd) (some (.int (Ms 0 (7 + 5 * b + 0)))) (csc ct ad (va_up (va_up Ms (4 + nx) (cCp (Ms (4 + nx)) (Ms 0) n)) 0 (upd (Ms 0) (7 + 5 * b + 0) v)) kp (nI ((nx + 1) % 6)) (nI (svn sz)) B A (nI tn) (nI p9) kd) := by
  refine FMet.of (by decide +kernel) (Nat.le_of_ble_eq_true rfl) ?_
  intro p e s m args below meth c ls hx hb hr hml hown hlocks htg hK hI hP hS hl
  have hl : lv_has ls 5 [(0, .ref (ad 0)), (1, .int (nI b)), (2, .int (v))] := hl
  have hn10 := hw.2
  refine lv_iload_n hx hb dX5_bound_0 rfl (lv_at hl 1 rfl) ?_
  refine lv_iconst (v := nI 0) hx hb dX5_bound_1 (by decide) ?_
  refine lv_iconst (v := nI 3) hx hb dX5_bound_2 (by decide) ?_
  refine cs_cS0 (As := [.int (nI b), .int (nI 0), .int (nI 3)]) (rest := []) hx hb hown htg hK hI hS hP hml hl.1 (mX5_checkArgument l D ct ad Ms kp nx sz B A tn p9 kd (nI b) (nI 0) (nI 3) (Int32.not_lt.mpr ((n_le (by omega) (by omega)).mpr (by omega))) (Int32.not_lt.mpr ((n_le (by omega) (by omega)).mpr (by omega)))) cw_X5_71 rfl rfl ⟨Nat.le_of_ble_eq_true rfl, Nat.le_of_ble_eq_true rfl⟩ (Nat.le_of_ble_eq_true rfl) dX5_bound_3 ⟨Nat.le_refl _, Nat.le_refl _⟩ (fun H locs hP hS => ?_)
  refine lv_iload_n hx hb dX5_bound_6 rfl (lv_at hl 2 rfl) ?_
  refine lv_bipush (v := nI 10) hx hb dX5_bound_7 (by decide) ?_
  refine lv_sipush (v := nI 999) hx hb dX5_bound_9 (by decide) ?_
  refine cs_cS0 (As := [.int (v), .int (nI 10), .int (nI 999)]) (rest := []) hx hb hown htg hK hI hS hP hml hl.1 (mX5_checkArgument l D ct ad Ms kp nx sz B A tn p9 kd v (nI 10) (nI 999) hv1 hv2) cw_X5_71 rfl rfl ⟨Nat.le_of_ble_eq_true rfl, Nat.le_of_ble_eq_true rfl⟩ (Nat.le_of_ble_eq_true rfl) dX5_bound_12 ⟨Nat.le_refl _, Nat.le_refl _⟩ (fun H locs hP hS => ?_)
  refine lv_aload_n hx hb dX5_bound_15 rfl (lv_at hl 0 rfl) ?_
  refine cs_g4 hx hb hown htg hK hP fl_X5_30 dX5_bound_16 ?_
  refine lv_aload_n hx hb dX5_bound_19 rfl (lv_at hl 0 rfl) ?_
  refine cs_g0 hx hb hown htg hK hP fl_X5_10 dX5_bound_20 ?_
  refine cs_ch0 (As := [.ref (ad (8 + 19 * 0 + 0))]) (rest := []) hx hb hown htg hK hI hS hP hml hl.1 (mX1_save l D ct ad Ms kp nx sz B A tn p9 kd n hw hbw (by omega) (by omega)) cw_X5_59 rfl rfl ⟨Nat.le_of_ble_eq_true rfl, Nat.le_of_ble_eq_true rfl⟩ (Nat.le_of_ble_eq_true rfl) dX5_bound_23 ⟨Nat.le_refl _, Nat.le_refl _⟩ (fun H locs hP hS => ?_)
  refine lv_aload_n hx hb dX5_bound_26 rfl (lv_at hl 0 rfl) ?_
  refine cs_g0 hx hb hown htg hK hP fl_X5_10 dX5_bound_27 ?_
  refine cs_m2 (i := 0) (M := Ms 0) hx hb hown htg hK hP (by omega) (by first | rfl | (simp (disch := omega) only [vup_s, va_up_ne]; done)) fl_X5_101 dX5_bound_30 ?_
  refine lv_iload_n hx hb dX5_bound_33 rfl (lv_at hl 1 rfl) ?_
  refine cs_aMb (i := 0) (M := Ms 0) hx hb hK hP (by omega) (by first | rfl | (simp (disch := omega) only [vup_s, va_up_ne]; done)) (by omega) dX5_bound_34 ?_
  refine lv_astore_n (lv' := [(3, .ref (ad (8 + 19 * 0 + (15 + b)))), (0, .ref (ad 0)), (1, .int (nI b)), (2, .int (v))]) hx hb dX5_bound_35 rfl hl (by decide) rfl (fun ls hl => ?_)
  refine lv_aload_n hx hb dX5_bound_36 rfl (lv_at hl 0 rfl) ?_
  refine cs_b0 (k := b) (i := 0) (M := Ms 0) hx hb hown htg hK hP (by omega) (by first | rfl | (simp (disch := omega) only [vup_s, va_up_ne]; done)) (by omega) fl_X5_105 dX5_bound_37 ?_
  refine lv_istore (lv' := [(4, .int ((Ms 0) (7 + 5 * b + 0))), (3, .ref (ad (8 + 19 * 0 + (15 + b)))), (0, .ref (ad 0)), (1, .int (nI b)), (2, .int (v))]) hx hb dX5_bound_40 hl (by decide) rfl (fun ls hl => ?_)
  refine lv_aload_n hx hb dX5_bound_42 rfl (lv_at hl 1 rfl) ?_
  refine lv_iload_n hx hb dX5_bound_43 rfl (lv_at hl 4 rfl) ?_
  refine cs_bp0 (k := b) (i := 0) (M := Ms 0) hx hb hown htg hK hI hS hP (by omega) (by first | rfl | (simp (disch := omega) only [vup_s, va_up_ne]; done)) (by omega) fl_X5_105 dX5_bound_44 (fun H locs hP hS => ?_)
  refine lv_iload hx hb dX5_bound_47 (lv_at hl 0 rfl) ?_
  refine fr_iret hx hb hr hlocks hK hI hS rfl dX5_bound_49 ?_ ?_
  · rfl
  · refine fP.eqc (congrArg (fun v9 => csc ct ad v9 kp (nI ((nx + 1) % 6)) (nI (svn sz)) B A (nI tn) (nI p9) kd) (show (va_up (va_up Ms (4 + nx) (cCp (Ms (4 + nx)) (Ms 0) n)) 0 (upd (Ms 0) (7 + 5 * b + 0) v)) = (va_up (va_up Ms (4 + nx) (cCp (Ms (4 + nx)) ((Ms 0)) n)) 0 (upd (Ms 0) (7 + 5 * b + 0) v)) from by rfl).symm) ?_
    exact hP
set_option maxRecDepth 100000 in
set_option maxHeartbeats 4000000 in
theorem mX5_pass (l : Launch) (D : va_G) (ct : Nat → ClassId) (ad : Nat → Nat) (Ms : Nat → Nat → Int32) (kp : Nat → Int32) (nx sz : Nat) (B A : Nat → Int32) (tn p9 : Nat) (kd : Int32) (tm : Nat) (n : Nat)  (hw : mW (Ms 0) n) (hbw : bW (Ms 0) n) (hnx : nx < 6) (hsz : sz ≤ 6) (ht1 : 1 ≤ tm) (ht48 : tm ≤ 48) (hr9 : Ms 0 3 + nI tm ≤ nI 9999) : FMet l yX5_pass cX5_pass 3 (some .int) 5 108 D ct 198 ad [.ref (ad 0), .int (nI tm)] (csc ct ad Ms kp (nI nx) (nI sz) B A (nI tn) (nI p9) kd) (some (.int (cSb (cHs (Ms 0) n tm) 3 4 - cSb (Ms 0) 3 4))) (csc ct ad (va_up (va_up Ms (4 + nx) (cCp (Ms (4 + nx)) (Ms 0) n)) 0 (cHs (Ms 0) n tm)) kp (nI ((nx + 1) % 6)) (nI (svn sz)) B A (nI tn) (nI p9) kd) := by
  refine FMet.of (by decide +kernel) (Nat.le_of_ble_eq_true rfl) ?_
  intro p e s m args below meth c ls hx hb hr hml hown hlocks htg hK hI hP hS hl
  have hl : lv_has ls 3 [(0, .ref (ad 0)), (1, .int (nI tm))] := hl
  have hn10 := hw.2
  refine lv_iload_n hx hb dX5_pass_0 rfl (lv_at hl 1 rfl) ?_
  refine lv_iconst (v := nI 1) hx hb dX5_pass_1 (by decide) ?_
  refine lv_bipush (v := nI 48) hx hb dX5_pass_2 (by decide) ?_
  refine cs_cS0 (As := [.int (nI tm), .int (nI 1), .int (nI 48)]) (rest := []) hx hb hown htg hK hI hS hP hml hl.1 (mX5_checkArgument l D ct ad Ms kp nx sz B A tn p9 kd (nI tm) (nI 1) (nI 48) (Int32.not_lt.mpr ((n_le (by omega) (by omega)).mpr (by omega))) (Int32.not_lt.mpr ((n_le (by omega) (by omega)).mpr (by omega)))) cw_X5_71 rfl rfl ⟨Nat.le_of_ble_eq_true rfl, Nat.le_of_ble_eq_true rfl⟩ (Nat.le_of_ble_eq_true rfl) dX5_pass_4 ⟨Nat.le_refl _, Nat.le_refl _⟩ (fun H locs hP hS => ?_)
  refine lv_aload_n hx hb dX5_pass_7 rfl (lv_at hl 0 rfl) ?_
  refine cs_g0 hx hb hown htg hK hP fl_X5_10 dX5_pass_8 ?_
  refine lv_iload_n hx hb dX5_pass_11 rfl (lv_at hl 1 rfl) ?_
  refine cs_cmr (i := 0) (M := Ms 0) (M' := Ms 0) (As := [.int (nI tm)]) (rest := []) hx hb hown htg hK hI hS hP hml hl.1 (by omega) (by first | rfl | (simp (disch := omega) only [vup_s, va_up_ne]; done)) (mX2_hasRoomFor l D ct (fun z => ad (8 + 19 * 0 + z)) (Ms 0) (nI tm)) cw_X5_127 rfl rfl ⟨Nat.le_of_ble_eq_true rfl, Nat.le_of_ble_eq_true rfl⟩ (Nat.le_of_ble_eq_true rfl) dX5_pass_12 ⟨Nat.le_refl _, Nat.le_refl _⟩ (fun H locs hP hS => ?_)
  have hP := fP.eqc (congrArg (fun v9 => csc ct ad v9 kp (nI nx) (nI sz) B A (nI tn) (nI p9) kd) (show (va_up Ms 0 (Ms 0)) = Ms from by first | exact vup_id _ _ (by first | rfl | (simp (disch := omega) only [vup_s, va_up_ne]; done)))) hP
  refine lv_ifneB (tgt := 28) hx hb dX5_pass_15 (by decide) (fun c15 => ?_) (fun c15 => ?_)
  · refine lv_aload_n hx hb dX5_pass_28 rfl (lv_at hl 0 rfl) ?_
    refine cs_g4 hx hb hown htg hK hP fl_X5_30 dX5_pass_29 ?_
    refine lv_aload_n hx hb dX5_pass_32 rfl (lv_at hl 0 rfl) ?_
    refine cs_g0 hx hb hown htg hK hP fl_X5_10 dX5_pass_33 ?_
    refine cs_ch0 (As := [.ref (ad (8 + 19 * 0 + 0))]) (rest := []) hx hb hown htg hK hI hS hP hml hl.1 (mX1_save l D ct ad Ms kp nx sz B A tn p9 kd n hw hbw (by omega) (by omega)) cw_X5_59 rfl rfl ⟨Nat.le_of_ble_eq_true rfl, Nat.le_of_ble_eq_true rfl⟩ (Nat.le_of_ble_eq_true rfl) dX5_pass_36 ⟨Nat.le_refl _, Nat.le_refl _⟩ (fun H locs hP hS => ?_)
    refine lv_aload_n hx hb dX5_pass_39 rfl (lv_at hl 0 rfl) ?_
    refine cs_g0 hx hb hown htg hK hP fl_X5_10 dX5_pass_40 ?_
    refine cs_cmr (i := 0) (M := Ms 0) (M' := Ms 0) (As := []) (rest := []) hx hb hown htg hK hI hS hP hml hl.1 (by omega) (by first | rfl | (simp (disch := omega) only [vup_s, va_up_ne]; done)) (mX2_trips l D ct (fun z => ad (8 + 19 * 0 + z)) (Ms 0) ) cw_X5_133 rfl rfl ⟨Nat.le_of_ble_eq_true rfl, Nat.le_of_ble_eq_true rfl⟩ (Nat.le_of_ble_eq_true rfl) dX5_pass_43 ⟨Nat.le_refl _, Nat.le_refl _⟩ (fun H locs hP hS => ?_)
    have hP := fP.eqc (congrArg (fun v9 => csc ct ad v9 kp (nI ((nx + 1) % 6)) (nI (svn sz)) B A (nI tn) (nI p9) kd) (show (va_up (va_up Ms (4 + nx) (cCp (Ms (4 + nx)) ((Ms 0)) n)) 0 (Ms 0)) = (va_up Ms (4 + nx) (cCp (Ms (4 + nx)) ((Ms 0)) n)) from by first | exact vup_id _ _ (by first | rfl | (simp (disch := omega) only [vup_s, va_up_ne]; done)))) hP
    refine lv_istore_n (lv' := [(2, .int (cSb (Ms 0) 3 4)), (0, .ref (ad 0)), (1, .int (nI tm))]) hx hb dX5_pass_46 rfl hl (by decide) rfl (fun ls hl => ?_)
    refine lv_aload_n hx hb dX5_pass_47 rfl (lv_at hl 1 rfl) ?_
    refine cs_g0 hx hb hown htg hK hP fl_X5_10 dX5_pass_48 ?_
    refine lv_iload_n hx hb dX5_pass_51 rfl (lv_at hl 2 rfl) ?_
    refine cs_cm0 (i := 0) (M := Ms 0) (M' := cHs (Ms 0) n tm) (As := [.int (nI tm)]) (rest := []) hx hb hown htg hK hI hS hP hml hl.1 (by omega) (by first | rfl | (simp (disch := omega) only [vup_s, va_up_ne]; done)) (mX2_goHours l D ct (fun z => ad (8 + 19 * 0 + z)) (Ms 0) tm n hw (by omega)) cw_X5_137 rfl rfl ⟨Nat.le_of_ble_eq_true rfl, Nat.le_of_ble_eq_true rfl⟩ (Nat.le_of_ble_eq_true rfl) dX5_pass_52 ⟨Nat.le_refl _, Nat.le_refl _⟩ (fun H locs hP hS => ?_)
    refine lv_aload_n hx hb dX5_pass_55 rfl (lv_at hl 1 rfl) ?_
    refine cs_g0 hx hb hown htg hK hP fl_X5_10 dX5_pass_56 ?_
    refine cs_cmr (i := 0) (M := cHs (Ms 0) n tm) (M' := cHs (Ms 0) n tm) (As := []) (rest := []) hx hb hown htg hK hI hS hP hml hl.1 (by omega) (by first | rfl | (simp (disch := omega) only [vup_s, va_up_ne]; done)) (mX2_trips l D ct (fun z => ad (8 + 19 * 0 + z)) (cHs (Ms 0) n tm) ) cw_X5_133 rfl rfl ⟨Nat.le_of_ble_eq_true rfl, Nat.le_of_ble_eq_true rfl⟩ (Nat.le_of_ble_eq_true rfl) dX5_pass_59 ⟨Nat.le_refl _, Nat.le_refl _⟩ (fun H locs hP hS => ?_)
    have hP := fP.eqc (congrArg (fun v9 => csc ct ad v9 kp (nI ((nx + 1) % 6)) (nI (svn sz)) B A (nI tn) (nI p9) kd) (show (va_up (va_up (va_up Ms (4 + nx) (cCp (Ms (4 + nx)) ((Ms 0)) n)) 0 (cHs (Ms 0) n tm)) 0 (cHs (Ms 0) n tm)) = (va_up (va_up Ms (4 + nx) (cCp (Ms (4 + nx)) ((Ms 0)) n)) 0 (cHs (Ms 0) n tm)) from by first | exact vup_id _ _ (by first | rfl | (simp (disch := omega) only [vup_s, va_up_ne]; done)))) hP
    refine lv_iload_n hx hb dX5_pass_62 rfl (lv_at hl 0 rfl) ?_
    refine lv_isub hx hb dX5_pass_63 ?_
    refine fr_iret hx hb hr hlocks hK hI hS rfl dX5_pass_64 ?_ ?_
    · rfl
    · refine fP.eqc (congrArg (fun v9 => csc ct ad v9 kp (nI ((nx + 1) % 6)) (nI (svn sz)) B A (nI tn) (nI p9) kd) (show (va_up (va_up Ms (4 + nx) (cCp (Ms (4 + nx)) (Ms 0) n)) 0 (cHs (Ms 0) n tm)) = (va_up (va_up Ms (4 + nx) (cCp (Ms (4 + nx)) ((Ms 0)) n)) 0 (cHs (Ms 0) n tm)) from by rfl).symm) ?_
      exact hP
  · exact absurd hr9 (of_decide_eq_false c15)
set_option maxRecDepth 100000 in
set_option maxHeartbeats 4000000 in
theorem mX5_reset (l : Launch) (D : va_G) (ct : Nat → ClassId) (ad : Nat → Nat) (Ms : Nat → Nat → Int32) (kp : Nat → Int32) (nx sz : Nat) (B A : Nat → Int32) (tn p9 : Nat) (kd : Int32) (b : Nat) (n : Nat)  (hw : mW (Ms 0) n) (hbw : bW (Ms 0) n) (hnx : nx < 6) (hsz : sz ≤ 6) (hb4 : b < 4) (ho9 : Ms 0 (7 + 5 * b + 1) = 0) : FMet l yX5_reset cX5_reset 2 (some .int) 3 83 D ct 198 ad [.ref (ad 0), .int (nI b)] (csc ct ad Ms kp (nI nx) (nI sz) B A (nI tn) (nI p9) kd) (some (.int (nI (cDrw (cPon (Ms 0) b) (nI b) n)))) (csc ct ad (va_up (va_up Ms (4 + nx) (cCp (Ms (4 + nx)) (Ms 0) n)) 0 (cPon (Ms 0) b)) kp (nI ((nx + 1) % 6)) (nI (svn sz)) B A (nI tn) (nI p9) kd) := by
  refine FMet.of (by decide +kernel) (Nat.le_of_ble_eq_true rfl) ?_
  intro p e s m args below meth c ls hx hb hr hml hown hlocks htg hK hI hP hS hl
  have hl : lv_has ls 2 [(0, .ref (ad 0)), (1, .int (nI b))] := hl
  have hn10 := hw.2
  refine lv_iload_n hx hb dX5_reset_0 rfl (lv_at hl 1 rfl) ?_
  refine lv_iconst (v := nI 0) hx hb dX5_reset_1 (by decide) ?_
  refine lv_iconst (v := nI 3) hx hb dX5_reset_2 (by decide) ?_
  refine cs_cS0 (As := [.int (nI b), .int (nI 0), .int (nI 3)]) (rest := []) hx hb hown htg hK hI hS hP hml hl.1 (mX5_checkArgument l D ct ad Ms kp nx sz B A tn p9 kd (nI b) (nI 0) (nI 3) (Int32.not_lt.mpr ((n_le (by omega) (by omega)).mpr (by omega))) (Int32.not_lt.mpr ((n_le (by omega) (by omega)).mpr (by omega)))) cw_X5_71 rfl rfl ⟨Nat.le_of_ble_eq_true rfl, Nat.le_of_ble_eq_true rfl⟩ (Nat.le_of_ble_eq_true rfl) dX5_reset_3 ⟨Nat.le_refl _, Nat.le_refl _⟩ (fun H locs hP hS => ?_)
  refine lv_aload_n hx hb dX5_reset_6 rfl (lv_at hl 0 rfl) ?_
  refine cs_g0 hx hb hown htg hK hP fl_X5_10 dX5_reset_7 ?_
  refine cs_m2 (i := 0) (M := Ms 0) hx hb hown htg hK hP (by omega) (by first | rfl | (simp (disch := omega) only [vup_s, va_up_ne]; done)) fl_X5_101 dX5_reset_10 ?_
  refine lv_iload_n hx hb dX5_reset_13 rfl (lv_at hl 1 rfl) ?_
  refine cs_aMb (i := 0) (M := Ms 0) hx hb hK hP (by omega) (by first | rfl | (simp (disch := omega) only [vup_s, va_up_ne]; done)) (by omega) dX5_reset_14 ?_
  refine cs_b1 (k := b) (i := 0) (M := Ms 0) hx hb hown htg hK hP (by omega) (by first | rfl | (simp (disch := omega) only [vup_s, va_up_ne]; done)) (by omega) fl_X5_110 dX5_reset_15 ?_
  refine lv_if_eq (tgt := 31) hx hb dX5_reset_18 (by decide) (fun c18 => ?_) (fun c18 => ?_)
  · refine lv_aload_n hx hb dX5_reset_31 rfl (lv_at hl 0 rfl) ?_
    refine cs_g4 hx hb hown htg hK hP fl_X5_30 dX5_reset_32 ?_
    refine lv_aload_n hx hb dX5_reset_35 rfl (lv_at hl 0 rfl) ?_
    refine cs_g0 hx hb hown htg hK hP fl_X5_10 dX5_reset_36 ?_
    refine cs_ch0 (As := [.ref (ad (8 + 19 * 0 + 0))]) (rest := []) hx hb hown htg hK hI hS hP hml hl.1 (mX1_save l D ct ad Ms kp nx sz B A tn p9 kd n hw hbw (by omega) (by omega)) cw_X5_59 rfl rfl ⟨Nat.le_of_ble_eq_true rfl, Nat.le_of_ble_eq_true rfl⟩ (Nat.le_of_ble_eq_true rfl) dX5_reset_39 ⟨Nat.le_refl _, Nat.le_refl _⟩ (fun H locs hP hS => ?_)
    refine lv_aload_n hx hb dX5_reset_42 rfl (lv_at hl 0 rfl) ?_
    refine cs_g0 hx hb hown htg hK hP fl_X5_10 dX5_reset_43 ?_
    refine cs_m2 (i := 0) (M := Ms 0) hx hb hown htg hK hP (by omega) (by first | rfl | (simp (disch := omega) only [vup_s, va_up_ne]; done)) fl_X5_101 dX5_reset_46 ?_
    refine lv_iload_n hx hb dX5_reset_49 rfl (lv_at hl 1 rfl) ?_
    refine cs_aMb (i := 0) (M := Ms 0) hx hb hK hP (by omega) (by first | rfl | (simp (disch := omega) only [vup_s, va_up_ne]; done)) (by omega) dX5_reset_50 ?_
    refine cs_cb0 (i := 0) (M := Ms 0) (M' := cPon (Ms 0) b) (As := []) (rest := []) (by omega) hx hb hown htg hK hI hS hP hml hl.1 (by omega) (by first | rfl | (simp (disch := omega) only [vup_s, va_up_ne]; done)) (mX0_putOn l D ct (fun z => ad (8 + 19 * 0 + z)) (Ms 0) b (by omega)) cw_X5_115 rfl rfl ⟨Nat.le_of_ble_eq_true rfl, Nat.le_of_ble_eq_true rfl⟩ (Nat.le_of_ble_eq_true rfl) dX5_reset_51 ⟨Nat.le_refl _, Nat.le_refl _⟩ (fun H locs hP hS => ?_)
    refine lv_aload_n hx hb dX5_reset_54 rfl (lv_at hl 0 rfl) ?_
    refine cs_g0 hx hb hown htg hK hP fl_X5_10 dX5_reset_55 ?_
    refine lv_iload_n hx hb dX5_reset_58 rfl (lv_at hl 1 rfl) ?_
    refine cs_cmr (i := 0) (M := cPon (Ms 0) b) (M' := cPon (Ms 0) b) (As := [.int (nI b)]) (rest := []) hx hb hown htg hK hI hS hP hml hl.1 (by omega) (by first | rfl | (simp (disch := omega) only [vup_s, va_up_ne]; done)) (mX2_drawersOn l D ct (fun z => ad (8 + 19 * 0 + z)) (cPon (Ms 0) b) (nI b) n (cPon_mW hw)) cw_X5_118 rfl rfl ⟨Nat.le_of_ble_eq_true rfl, Nat.le_of_ble_eq_true rfl⟩ (Nat.le_of_ble_eq_true rfl) dX5_reset_59 ⟨Nat.le_refl _, Nat.le_refl _⟩ (fun H locs hP hS => ?_)
    have hP := fP.eqc (congrArg (fun v9 => csc ct ad v9 kp (nI ((nx + 1) % 6)) (nI (svn sz)) B A (nI tn) (nI p9) kd) (show (va_up (va_up (va_up Ms (4 + nx) (cCp (Ms (4 + nx)) ((Ms 0)) n)) 0 (cPon (Ms 0) b)) 0 (cPon (Ms 0) b)) = (va_up (va_up Ms (4 + nx) (cCp (Ms (4 + nx)) ((Ms 0)) n)) 0 (cPon (Ms 0) b)) from by first | exact vup_id _ _ (by first | rfl | (simp (disch := omega) only [vup_s, va_up_ne]; done)))) hP
    have hdr9 := cDrw_le (cPon (Ms 0) b) (nI b) n
    refine fr_iret hx hb hr hlocks hK hI hS rfl dX5_reset_62 ?_ ?_
    · exact rfl
    · refine fP.eqc (congrArg (fun v9 => csc ct ad v9 kp (nI ((nx + 1) % 6)) (nI (svn sz)) B A (nI tn) (nI p9) kd) (show (va_up (va_up Ms (4 + nx) (cCp (Ms (4 + nx)) (Ms 0) n)) 0 (cPon (Ms 0) b)) = (va_up (va_up Ms (4 + nx) (cCp (Ms (4 + nx)) ((Ms 0)) n)) 0 (cPon (Ms 0) b)) from by rfl).symm) ?_
      exact hP
  · exact absurd ho9 c18
