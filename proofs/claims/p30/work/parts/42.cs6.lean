/-! THE CLASS: looks, what would be -/
theorem cTi_hit {M : Nat → Int32} {n b f i : Nat} (hf : 1 ≤ f) (h1 : i ≤ 96) (h2 : cHs M n i (7 + 5 * b + 1) = 0) : cTi M n b f i = (nI i, i) := by
  cases f
  · omega
  · rw [cTi, if_pos h1, if_pos h2]
theorem cTi_go {M : Nat → Int32} {n b f i : Nat} (hf : 1 ≤ f) (h1 : i ≤ 96) (h2 : ¬ cHs M n i (7 + 5 * b + 1) = 0) : cTi M n b f i = cTi M n b (f - 1) (i + 1) := by
  cases f
  · omega
  · rw [cTi, if_pos h1, if_neg h2]; rfl
theorem cTi_end {M : Nat → Int32} {n b f i : Nat} (h1 : 96 < i) : cTi M n b f i = (-1, i) := by
  cases f
  · rfl
  · rw [cTi, if_neg (by omega)]
def cIfM (Ms : Nat → Nat → Int32) (n k : Nat) (q : Int32) (tm : Nat) : Nat → Int32 := cHs (upd (cCp (Ms 1) (Ms 0) n) (39 + 8 * k + 4) q) n tm
def cIfR (Ms : Nat → Nat → Int32) (n k : Nat) (q : Int32) (tm w : Nat) : Int32 := if cTk (Ms 0) n (nI k) q = true then -1 else if w = 0 then cSb (cIfM Ms n k q tm) 3 4 - cSb (Ms 0) 3 4 else if w = 1 then cSs (cIfM Ms n k q tm) 7 n - cSs (Ms 0) 7 n else cIfM Ms n k q tm (39 + 8 * k + 6) - Ms 0 (39 + 8 * k + 6)
set_option maxRecDepth 100000 in
set_option maxHeartbeats 4000000 in
theorem mX5_stallOf (l : Launch) (D : va_G) (ct : Nat → ClassId) (ad : Nat → Nat) (Ms : Nat → Nat → Int32) (kp : Nat → Int32) (nx sz : Nat) (B A : Nat → Int32) (tn p9 : Nat) (kd : Int32) (k : Nat) (w : Nat) (n : Nat)  (hw : mW (Ms 0) n) (hbw : bW (Ms 0) n) (hkn : k < n) (hw10 : w < 10) : FMet l yX5_stallOf cX5_stallOf 4 (some .int) 2 43 D ct 198 ad [.ref (ad 0), .int (nI k), .int (nI w)] (csc ct ad Ms kp (nI nx) (nI sz) B A (nI tn) (nI p9) kd) (some (.int (cSto (Ms 0) k w))) (csc ct ad Ms kp (nI nx) (nI sz) B A (nI tn) (nI p9) kd) := by
  refine FMet.of (by decide +kernel) (Nat.le_of_ble_eq_true rfl) ?_
  intro p e s m args below meth c ls hx hb hr hml hown hlocks htg hK hI hP hS hl
  have hl : lv_has ls 4 [(0, .ref (ad 0)), (1, .int (nI k)), (2, .int (nI w))] := hl
  have hn10 := hw.2
  rcases (show w = 0 ∨ w = 1 ∨ w = 2 ∨ w = 3 ∨ w = 4 ∨ w = 5 ∨ w = 6 ∨ w = 7 ∨ w = 8 ∨ w = 9 from by omega) with rfl | rfl | rfl | rfl | rfl | rfl | rfl | rfl | rfl | rfl
  · refine lv_aload_n hx hb dX5_stallOf_0 rfl (lv_at hl 0 rfl) ?_
    refine lv_iload_n hx hb dX5_stallOf_1 rfl (lv_at hl 1 rfl) ?_
    refine cs_co0 (As := [.int (nI k)]) (rest := []) hx hb hown htg hK hI hS hP hml hl.1 (mX5_checkStall l D ct ad Ms kp nx sz B A tn p9 kd k n hw (by omega)) cw_X5_67 rfl rfl ⟨Nat.le_of_ble_eq_true rfl, Nat.le_of_ble_eq_true rfl⟩ (Nat.le_of_ble_eq_true rfl) dX5_stallOf_2 ⟨Nat.le_refl _, Nat.le_refl _⟩ (fun H locs hP hS => ?_)
    refine lv_iload_n hx hb dX5_stallOf_5 rfl (lv_at hl 2 rfl) ?_
    refine lv_iconst (v := nI 0) hx hb dX5_stallOf_6 (by decide) ?_
    refine lv_bipush (v := nI 9) hx hb dX5_stallOf_7 (by decide) ?_
    refine cs_cS0 (As := [.int (nI 0), .int (nI 0), .int (nI 9)]) (rest := []) hx hb hown htg hK hI hS hP hml hl.1 (mX5_checkArgument l D ct ad Ms kp nx sz B A tn p9 kd (nI 0) (nI 0) (nI 9) (by decide) (by decide)) cw_X5_71 rfl rfl ⟨Nat.le_of_ble_eq_true rfl, Nat.le_of_ble_eq_true rfl⟩ (Nat.le_of_ble_eq_true rfl) dX5_stallOf_9 ⟨Nat.le_refl _, Nat.le_refl _⟩ (fun H locs hP hS => ?_)
    refine lv_aload_n hx hb dX5_stallOf_12 rfl (lv_at hl 0 rfl) ?_
    refine cs_g0 hx hb hown htg hK hP fl_X5_10 dX5_stallOf_13 ?_
    refine cs_m0 (i := 0) (M := Ms 0) hx hb hown htg hK hP (by omega) (by first | rfl | (simp (disch := omega) only [vup_s, va_up_ne]; done)) fl_X5_85 dX5_stallOf_16 ?_
    refine lv_iload_n hx hb dX5_stallOf_19 rfl (lv_at hl 1 rfl) ?_
    refine cs_aMs (i := 0) (M := Ms 0) hx hb hK hP (by omega) (by first | rfl | (simp (disch := omega) only [vup_s, va_up_ne]; done)) (by omega) dX5_stallOf_20 ?_
    refine lv_astore_n (lv' := [(3, .ref (ad (8 + 19 * 0 + (5 + k)))), (0, .ref (ad 0)), (1, .int (nI k)), (2, .int (nI 0))]) hx hb dX5_stallOf_21 rfl hl (by decide) rfl (fun ls hl => ?_)
    refine lv_iload_n hx hb dX5_stallOf_22 rfl (lv_at hl 3 rfl) ?_
    refine lv_tableIn (tgt := 72) hx hb dX5_stallOf_23 (by decide) (by decide) rfl (by decide) ?_
    refine lv_aload_n hx hb dX5_stallOf_72 rfl (lv_at hl 0 rfl) ?_
    refine cs_s0 (k := k) (i := 0) (M := Ms 0) hx hb hown htg hK hP (by omega) (by first | rfl | (simp (disch := omega) only [vup_s, va_up_ne]; done)) (by omega) fl_X5_189 dX5_stallOf_73 ?_
    refine fr_iret hx hb hr hlocks hK hI hS rfl dX5_stallOf_76 ?_ ?_
    · first | rfl | (have h9 : Ms 0 (39 + 8 * k + 5) = 1 := (hbw.1 k (by omega)).resolve_left c101; show _ = Ms 0 (39 + 8 * k + 5); rw [h9]; rfl) | (show _ = Ms 0 (39 + 8 * k + 5); rw [c101]; rfl)
    · exact hP
  · refine lv_aload_n hx hb dX5_stallOf_0 rfl (lv_at hl 0 rfl) ?_
    refine lv_iload_n hx hb dX5_stallOf_1 rfl (lv_at hl 1 rfl) ?_
    refine cs_co0 (As := [.int (nI k)]) (rest := []) hx hb hown htg hK hI hS hP hml hl.1 (mX5_checkStall l D ct ad Ms kp nx sz B A tn p9 kd k n hw (by omega)) cw_X5_67 rfl rfl ⟨Nat.le_of_ble_eq_true rfl, Nat.le_of_ble_eq_true rfl⟩ (Nat.le_of_ble_eq_true rfl) dX5_stallOf_2 ⟨Nat.le_refl _, Nat.le_refl _⟩ (fun H locs hP hS => ?_)
    refine lv_iload_n hx hb dX5_stallOf_5 rfl (lv_at hl 2 rfl) ?_
    refine lv_iconst (v := nI 0) hx hb dX5_stallOf_6 (by decide) ?_
    refine lv_bipush (v := nI 9) hx hb dX5_stallOf_7 (by decide) ?_
    refine cs_cS0 (As := [.int (nI 1), .int (nI 0), .int (nI 9)]) (rest := []) hx hb hown htg hK hI hS hP hml hl.1 (mX5_checkArgument l D ct ad Ms kp nx sz B A tn p9 kd (nI 1) (nI 0) (nI 9) (by decide) (by decide)) cw_X5_71 rfl rfl ⟨Nat.le_of_ble_eq_true rfl, Nat.le_of_ble_eq_true rfl⟩ (Nat.le_of_ble_eq_true rfl) dX5_stallOf_9 ⟨Nat.le_refl _, Nat.le_refl _⟩ (fun H locs hP hS => ?_)
    refine lv_aload_n hx hb dX5_stallOf_12 rfl (lv_at hl 0 rfl) ?_
    refine cs_g0 hx hb hown htg hK hP fl_X5_10 dX5_stallOf_13 ?_
    refine cs_m0 (i := 0) (M := Ms 0) hx hb hown htg hK hP (by omega) (by first | rfl | (simp (disch := omega) only [vup_s, va_up_ne]; done)) fl_X5_85 dX5_stallOf_16 ?_
    refine lv_iload_n hx hb dX5_stallOf_19 rfl (lv_at hl 1 rfl) ?_
    refine cs_aMs (i := 0) (M := Ms 0) hx hb hK hP (by omega) (by first | rfl | (simp (disch := omega) only [vup_s, va_up_ne]; done)) (by omega) dX5_stallOf_20 ?_
    refine lv_astore_n (lv' := [(3, .ref (ad (8 + 19 * 0 + (5 + k)))), (0, .ref (ad 0)), (1, .int (nI k)), (2, .int (nI 1))]) hx hb dX5_stallOf_21 rfl hl (by decide) rfl (fun ls hl => ?_)
    refine lv_iload_n hx hb dX5_stallOf_22 rfl (lv_at hl 3 rfl) ?_
    refine lv_tableIn (tgt := 77) hx hb dX5_stallOf_23 (by decide) (by decide) rfl (by decide) ?_
    refine lv_aload_n hx hb dX5_stallOf_77 rfl (lv_at hl 0 rfl) ?_
    refine cs_s1 (k := k) (i := 0) (M := Ms 0) hx hb hown htg hK hP (by omega) (by first | rfl | (simp (disch := omega) only [vup_s, va_up_ne]; done)) (by omega) fl_X5_192 dX5_stallOf_78 ?_
    refine fr_iret hx hb hr hlocks hK hI hS rfl dX5_stallOf_81 ?_ ?_
    · first | rfl | (have h9 : Ms 0 (39 + 8 * k + 5) = 1 := (hbw.1 k (by omega)).resolve_left c101; show _ = Ms 0 (39 + 8 * k + 5); rw [h9]; rfl) | (show _ = Ms 0 (39 + 8 * k + 5); rw [c101]; rfl)
    · exact hP
  · refine lv_aload_n hx hb dX5_stallOf_0 rfl (lv_at hl 0 rfl) ?_
    refine lv_iload_n hx hb dX5_stallOf_1 rfl (lv_at hl 1 rfl) ?_
    refine cs_co0 (As := [.int (nI k)]) (rest := []) hx hb hown htg hK hI hS hP hml hl.1 (mX5_checkStall l D ct ad Ms kp nx sz B A tn p9 kd k n hw (by omega)) cw_X5_67 rfl rfl ⟨Nat.le_of_ble_eq_true rfl, Nat.le_of_ble_eq_true rfl⟩ (Nat.le_of_ble_eq_true rfl) dX5_stallOf_2 ⟨Nat.le_refl _, Nat.le_refl _⟩ (fun H locs hP hS => ?_)
    refine lv_iload_n hx hb dX5_stallOf_5 rfl (lv_at hl 2 rfl) ?_
    refine lv_iconst (v := nI 0) hx hb dX5_stallOf_6 (by decide) ?_
    refine lv_bipush (v := nI 9) hx hb dX5_stallOf_7 (by decide) ?_
    refine cs_cS0 (As := [.int (nI 2), .int (nI 0), .int (nI 9)]) (rest := []) hx hb hown htg hK hI hS hP hml hl.1 (mX5_checkArgument l D ct ad Ms kp nx sz B A tn p9 kd (nI 2) (nI 0) (nI 9) (by decide) (by decide)) cw_X5_71 rfl rfl ⟨Nat.le_of_ble_eq_true rfl, Nat.le_of_ble_eq_true rfl⟩ (Nat.le_of_ble_eq_true rfl) dX5_stallOf_9 ⟨Nat.le_refl _, Nat.le_refl _⟩ (fun H locs hP hS => ?_)
    refine lv_aload_n hx hb dX5_stallOf_12 rfl (lv_at hl 0 rfl) ?_
    refine cs_g0 hx hb hown htg hK hP fl_X5_10 dX5_stallOf_13 ?_
    refine cs_m0 (i := 0) (M := Ms 0) hx hb hown htg hK hP (by omega) (by first | rfl | (simp (disch := omega) only [vup_s, va_up_ne]; done)) fl_X5_85 dX5_stallOf_16 ?_
    refine lv_iload_n hx hb dX5_stallOf_19 rfl (lv_at hl 1 rfl) ?_
    refine cs_aMs (i := 0) (M := Ms 0) hx hb hK hP (by omega) (by first | rfl | (simp (disch := omega) only [vup_s, va_up_ne]; done)) (by omega) dX5_stallOf_20 ?_
    refine lv_astore_n (lv' := [(3, .ref (ad (8 + 19 * 0 + (5 + k)))), (0, .ref (ad 0)), (1, .int (nI k)), (2, .int (nI 2))]) hx hb dX5_stallOf_21 rfl hl (by decide) rfl (fun ls hl => ?_)
    refine lv_iload_n hx hb dX5_stallOf_22 rfl (lv_at hl 3 rfl) ?_
    refine lv_tableIn (tgt := 82) hx hb dX5_stallOf_23 (by decide) (by decide) rfl (by decide) ?_
    refine lv_aload_n hx hb dX5_stallOf_82 rfl (lv_at hl 0 rfl) ?_
    refine cs_s2 (k := k) (i := 0) (M := Ms 0) hx hb hown htg hK hP (by omega) (by first | rfl | (simp (disch := omega) only [vup_s, va_up_ne]; done)) (by omega) fl_X5_195 dX5_stallOf_83 ?_
    refine fr_iret hx hb hr hlocks hK hI hS rfl dX5_stallOf_86 ?_ ?_
    · first | rfl | (have h9 : Ms 0 (39 + 8 * k + 5) = 1 := (hbw.1 k (by omega)).resolve_left c101; show _ = Ms 0 (39 + 8 * k + 5); rw [h9]; rfl) | (show _ = Ms 0 (39 + 8 * k + 5); rw [c101]; rfl)
    · exact hP
  · refine lv_aload_n hx hb dX5_stallOf_0 rfl (lv_at hl 0 rfl) ?_
    refine lv_iload_n hx hb dX5_stallOf_1 rfl (lv_at hl 1 rfl) ?_
    refine cs_co0 (As := [.int (nI k)]) (rest := []) hx hb hown htg hK hI hS hP hml hl.1 (mX5_checkStall l D ct ad Ms kp nx sz B A tn p9 kd k n hw (by omega)) cw_X5_67 rfl rfl ⟨Nat.le_of_ble_eq_true rfl, Nat.le_of_ble_eq_true rfl⟩ (Nat.le_of_ble_eq_true rfl) dX5_stallOf_2 ⟨Nat.le_refl _, Nat.le_refl _⟩ (fun H locs hP hS => ?_)
    refine lv_iload_n hx hb dX5_stallOf_5 rfl (lv_at hl 2 rfl) ?_
    refine lv_iconst (v := nI 0) hx hb dX5_stallOf_6 (by decide) ?_
    refine lv_bipush (v := nI 9) hx hb dX5_stallOf_7 (by decide) ?_
    refine cs_cS0 (As := [.int (nI 3), .int (nI 0), .int (nI 9)]) (rest := []) hx hb hown htg hK hI hS hP hml hl.1 (mX5_checkArgument l D ct ad Ms kp nx sz B A tn p9 kd (nI 3) (nI 0) (nI 9) (by decide) (by decide)) cw_X5_71 rfl rfl ⟨Nat.le_of_ble_eq_true rfl, Nat.le_of_ble_eq_true rfl⟩ (Nat.le_of_ble_eq_true rfl) dX5_stallOf_9 ⟨Nat.le_refl _, Nat.le_refl _⟩ (fun H locs hP hS => ?_)
    refine lv_aload_n hx hb dX5_stallOf_12 rfl (lv_at hl 0 rfl) ?_
    refine cs_g0 hx hb hown htg hK hP fl_X5_10 dX5_stallOf_13 ?_
    refine cs_m0 (i := 0) (M := Ms 0) hx hb hown htg hK hP (by omega) (by first | rfl | (simp (disch := omega) only [vup_s, va_up_ne]; done)) fl_X5_85 dX5_stallOf_16 ?_
    refine lv_iload_n hx hb dX5_stallOf_19 rfl (lv_at hl 1 rfl) ?_
    refine cs_aMs (i := 0) (M := Ms 0) hx hb hK hP (by omega) (by first | rfl | (simp (disch := omega) only [vup_s, va_up_ne]; done)) (by omega) dX5_stallOf_20 ?_
    refine lv_astore_n (lv' := [(3, .ref (ad (8 + 19 * 0 + (5 + k)))), (0, .ref (ad 0)), (1, .int (nI k)), (2, .int (nI 3))]) hx hb dX5_stallOf_21 rfl hl (by decide) rfl (fun ls hl => ?_)
    refine lv_iload_n hx hb dX5_stallOf_22 rfl (lv_at hl 3 rfl) ?_
    refine lv_tableIn (tgt := 87) hx hb dX5_stallOf_23 (by decide) (by decide) rfl (by decide) ?_
    refine lv_aload_n hx hb dX5_stallOf_87 rfl (lv_at hl 0 rfl) ?_
    refine cs_s3 (k := k) (i := 0) (M := Ms 0) hx hb hown htg hK hP (by omega) (by first | rfl | (simp (disch := omega) only [vup_s, va_up_ne]; done)) (by omega) fl_X5_198 dX5_stallOf_88 ?_
    refine fr_iret hx hb hr hlocks hK hI hS rfl dX5_stallOf_91 ?_ ?_
    · first | rfl | (have h9 : Ms 0 (39 + 8 * k + 5) = 1 := (hbw.1 k (by omega)).resolve_left c101; show _ = Ms 0 (39 + 8 * k + 5); rw [h9]; rfl) | (show _ = Ms 0 (39 + 8 * k + 5); rw [c101]; rfl)
    · exact hP
  · refine lv_aload_n hx hb dX5_stallOf_0 rfl (lv_at hl 0 rfl) ?_
    refine lv_iload_n hx hb dX5_stallOf_1 rfl (lv_at hl 1 rfl) ?_
    refine cs_co0 (As := [.int (nI k)]) (rest := []) hx hb hown htg hK hI hS hP hml hl.1 (mX5_checkStall l D ct ad Ms kp nx sz B A tn p9 kd k n hw (by omega)) cw_X5_67 rfl rfl ⟨Nat.le_of_ble_eq_true rfl, Nat.le_of_ble_eq_true rfl⟩ (Nat.le_of_ble_eq_true rfl) dX5_stallOf_2 ⟨Nat.le_refl _, Nat.le_refl _⟩ (fun H locs hP hS => ?_)
    refine lv_iload_n hx hb dX5_stallOf_5 rfl (lv_at hl 2 rfl) ?_
    refine lv_iconst (v := nI 0) hx hb dX5_stallOf_6 (by decide) ?_
    refine lv_bipush (v := nI 9) hx hb dX5_stallOf_7 (by decide) ?_
    refine cs_cS0 (As := [.int (nI 4), .int (nI 0), .int (nI 9)]) (rest := []) hx hb hown htg hK hI hS hP hml hl.1 (mX5_checkArgument l D ct ad Ms kp nx sz B A tn p9 kd (nI 4) (nI 0) (nI 9) (by decide) (by decide)) cw_X5_71 rfl rfl ⟨Nat.le_of_ble_eq_true rfl, Nat.le_of_ble_eq_true rfl⟩ (Nat.le_of_ble_eq_true rfl) dX5_stallOf_9 ⟨Nat.le_refl _, Nat.le_refl _⟩ (fun H locs hP hS => ?_)
    refine lv_aload_n hx hb dX5_stallOf_12 rfl (lv_at hl 0 rfl) ?_
    refine cs_g0 hx hb hown htg hK hP fl_X5_10 dX5_stallOf_13 ?_
    refine cs_m0 (i := 0) (M := Ms 0) hx hb hown htg hK hP (by omega) (by first | rfl | (simp (disch := omega) only [vup_s, va_up_ne]; done)) fl_X5_85 dX5_stallOf_16 ?_
    refine lv_iload_n hx hb dX5_stallOf_19 rfl (lv_at hl 1 rfl) ?_
    refine cs_aMs (i := 0) (M := Ms 0) hx hb hK hP (by omega) (by first | rfl | (simp (disch := omega) only [vup_s, va_up_ne]; done)) (by omega) dX5_stallOf_20 ?_
    refine lv_astore_n (lv' := [(3, .ref (ad (8 + 19 * 0 + (5 + k)))), (0, .ref (ad 0)), (1, .int (nI k)), (2, .int (nI 4))]) hx hb dX5_stallOf_21 rfl hl (by decide) rfl (fun ls hl => ?_)
    refine lv_iload_n hx hb dX5_stallOf_22 rfl (lv_at hl 3 rfl) ?_
    refine lv_tableIn (tgt := 92) hx hb dX5_stallOf_23 (by decide) (by decide) rfl (by decide) ?_
    refine lv_aload_n hx hb dX5_stallOf_92 rfl (lv_at hl 0 rfl) ?_
    refine cs_s4 (k := k) (i := 0) (M := Ms 0) hx hb hown htg hK hP (by omega) (by first | rfl | (simp (disch := omega) only [vup_s, va_up_ne]; done)) (by omega) fl_X5_89 dX5_stallOf_93 ?_
    refine fr_iret hx hb hr hlocks hK hI hS rfl dX5_stallOf_96 ?_ ?_
    · first | rfl | (have h9 : Ms 0 (39 + 8 * k + 5) = 1 := (hbw.1 k (by omega)).resolve_left c101; show _ = Ms 0 (39 + 8 * k + 5); rw [h9]; rfl) | (show _ = Ms 0 (39 + 8 * k + 5); rw [c101]; rfl)
    · exact hP
  · refine lv_aload_n hx hb dX5_stallOf_0 rfl (lv_at hl 0 rfl) ?_
    refine lv_iload_n hx hb dX5_stallOf_1 rfl (lv_at hl 1 rfl) ?_
    refine cs_co0 (As := [.int (nI k)]) (rest := []) hx hb hown htg hK hI hS hP hml hl.1 (mX5_checkStall l D ct ad Ms kp nx sz B A tn p9 kd k n hw (by omega)) cw_X5_67 rfl rfl ⟨Nat.le_of_ble_eq_true rfl, Nat.le_of_ble_eq_true rfl⟩ (Nat.le_of_ble_eq_true rfl) dX5_stallOf_2 ⟨Nat.le_refl _, Nat.le_refl _⟩ (fun H locs hP hS => ?_)
    refine lv_iload_n hx hb dX5_stallOf_5 rfl (lv_at hl 2 rfl) ?_
    refine lv_iconst (v := nI 0) hx hb dX5_stallOf_6 (by decide) ?_
    refine lv_bipush (v := nI 9) hx hb dX5_stallOf_7 (by decide) ?_
    refine cs_cS0 (As := [.int (nI 5), .int (nI 0), .int (nI 9)]) (rest := []) hx hb hown htg hK hI hS hP hml hl.1 (mX5_checkArgument l D ct ad Ms kp nx sz B A tn p9 kd (nI 5) (nI 0) (nI 9) (by decide) (by decide)) cw_X5_71 rfl rfl ⟨Nat.le_of_ble_eq_true rfl, Nat.le_of_ble_eq_true rfl⟩ (Nat.le_of_ble_eq_true rfl) dX5_stallOf_9 ⟨Nat.le_refl _, Nat.le_refl _⟩ (fun H locs hP hS => ?_)
    refine lv_aload_n hx hb dX5_stallOf_12 rfl (lv_at hl 0 rfl) ?_
    refine cs_g0 hx hb hown htg hK hP fl_X5_10 dX5_stallOf_13 ?_
    refine cs_m0 (i := 0) (M := Ms 0) hx hb hown htg hK hP (by omega) (by first | rfl | (simp (disch := omega) only [vup_s, va_up_ne]; done)) fl_X5_85 dX5_stallOf_16 ?_
    refine lv_iload_n hx hb dX5_stallOf_19 rfl (lv_at hl 1 rfl) ?_
    refine cs_aMs (i := 0) (M := Ms 0) hx hb hK hP (by omega) (by first | rfl | (simp (disch := omega) only [vup_s, va_up_ne]; done)) (by omega) dX5_stallOf_20 ?_
    refine lv_astore_n (lv' := [(3, .ref (ad (8 + 19 * 0 + (5 + k)))), (0, .ref (ad 0)), (1, .int (nI k)), (2, .int (nI 5))]) hx hb dX5_stallOf_21 rfl hl (by decide) rfl (fun ls hl => ?_)
    refine lv_iload_n hx hb dX5_stallOf_22 rfl (lv_at hl 3 rfl) ?_
    refine lv_tableIn (tgt := 97) hx hb dX5_stallOf_23 (by decide) (by decide) rfl (by decide) ?_
    refine lv_aload_n hx hb dX5_stallOf_97 rfl (lv_at hl 0 rfl) ?_
    refine cs_s5 (k := k) (i := 0) (M := Ms 0) hx hb hown htg hK hP (by omega) (by first | rfl | (simp (disch := omega) only [vup_s, va_up_ne]; done)) (by omega) fl_X5_97 dX5_stallOf_98 ?_
    refine lv_if_eq (tgt := 108) hx hb dX5_stallOf_101 (by decide) (fun c101 => ?_) (fun c101 => ?_)
    · refine lv_iconst (v := nI 0) hx hb dX5_stallOf_108 (by decide) ?_
      refine fr_iret hx hb hr hlocks hK hI hS rfl dX5_stallOf_109 ?_ ?_
      · first | rfl | (have h9 : Ms 0 (39 + 8 * k + 5) = 1 := (hbw.1 k (by omega)).resolve_left c101; show _ = Ms 0 (39 + 8 * k + 5); rw [h9]; rfl) | (show _ = Ms 0 (39 + 8 * k + 5); rw [c101]; rfl)
      · exact hP
    · refine lv_iconst (v := nI 1) hx hb dX5_stallOf_104 (by decide) ?_
      refine lv_goto (tgt := 109) hx hb dX5_stallOf_105 (by decide) ?_
      refine fr_iret hx hb hr hlocks hK hI hS rfl dX5_stallOf_109 ?_ ?_
      · first | rfl | (have h9 : Ms 0 (39 + 8 * k + 5) = 1 := (hbw.1 k (by omega)).resolve_left c101; show _ = Ms 0 (39 + 8 * k + 5); rw [h9]; rfl) | (show _ = Ms 0 (39 + 8 * k + 5); rw [c101]; rfl)
      · exact hP
  · refine lv_aload_n hx hb dX5_stallOf_0 rfl (lv_at hl 0 rfl) ?_
    refine lv_iload_n hx hb dX5_stallOf_1 rfl (lv_at hl 1 rfl) ?_
    refine cs_co0 (As := [.int (nI k)]) (rest := []) hx hb hown htg hK hI hS hP hml hl.1 (mX5_checkStall l D ct ad Ms kp nx sz B A tn p9 kd k n hw (by omega)) cw_X5_67 rfl rfl ⟨Nat.le_of_ble_eq_true rfl, Nat.le_of_ble_eq_true rfl⟩ (Nat.le_of_ble_eq_true rfl) dX5_stallOf_2 ⟨Nat.le_refl _, Nat.le_refl _⟩ (fun H locs hP hS => ?_)
    refine lv_iload_n hx hb dX5_stallOf_5 rfl (lv_at hl 2 rfl) ?_
    refine lv_iconst (v := nI 0) hx hb dX5_stallOf_6 (by decide) ?_
    refine lv_bipush (v := nI 9) hx hb dX5_stallOf_7 (by decide) ?_
    refine cs_cS0 (As := [.int (nI 6), .int (nI 0), .int (nI 9)]) (rest := []) hx hb hown htg hK hI hS hP hml hl.1 (mX5_checkArgument l D ct ad Ms kp nx sz B A tn p9 kd (nI 6) (nI 0) (nI 9) (by decide) (by decide)) cw_X5_71 rfl rfl ⟨Nat.le_of_ble_eq_true rfl, Nat.le_of_ble_eq_true rfl⟩ (Nat.le_of_ble_eq_true rfl) dX5_stallOf_9 ⟨Nat.le_refl _, Nat.le_refl _⟩ (fun H locs hP hS => ?_)
    refine lv_aload_n hx hb dX5_stallOf_12 rfl (lv_at hl 0 rfl) ?_
    refine cs_g0 hx hb hown htg hK hP fl_X5_10 dX5_stallOf_13 ?_
    refine cs_m0 (i := 0) (M := Ms 0) hx hb hown htg hK hP (by omega) (by first | rfl | (simp (disch := omega) only [vup_s, va_up_ne]; done)) fl_X5_85 dX5_stallOf_16 ?_
    refine lv_iload_n hx hb dX5_stallOf_19 rfl (lv_at hl 1 rfl) ?_
    refine cs_aMs (i := 0) (M := Ms 0) hx hb hK hP (by omega) (by first | rfl | (simp (disch := omega) only [vup_s, va_up_ne]; done)) (by omega) dX5_stallOf_20 ?_
    refine lv_astore_n (lv' := [(3, .ref (ad (8 + 19 * 0 + (5 + k)))), (0, .ref (ad 0)), (1, .int (nI k)), (2, .int (nI 6))]) hx hb dX5_stallOf_21 rfl hl (by decide) rfl (fun ls hl => ?_)
    refine lv_iload_n hx hb dX5_stallOf_22 rfl (lv_at hl 3 rfl) ?_
    refine lv_tableIn (tgt := 110) hx hb dX5_stallOf_23 (by decide) (by decide) rfl (by decide) ?_
    refine lv_aload_n hx hb dX5_stallOf_110 rfl (lv_at hl 0 rfl) ?_
    refine cs_s6 (k := k) (i := 0) (M := Ms 0) hx hb hown htg hK hP (by omega) (by first | rfl | (simp (disch := omega) only [vup_s, va_up_ne]; done)) (by omega) fl_X5_201 dX5_stallOf_111 ?_
    refine fr_iret hx hb hr hlocks hK hI hS rfl dX5_stallOf_114 ?_ ?_
    · first | rfl | (have h9 : Ms 0 (39 + 8 * k + 5) = 1 := (hbw.1 k (by omega)).resolve_left c101; show _ = Ms 0 (39 + 8 * k + 5); rw [h9]; rfl) | (show _ = Ms 0 (39 + 8 * k + 5); rw [c101]; rfl)
    · exact hP
  · refine lv_aload_n hx hb dX5_stallOf_0 rfl (lv_at hl 0 rfl) ?_
    refine lv_iload_n hx hb dX5_stallOf_1 rfl (lv_at hl 1 rfl) ?_
    refine cs_co0 (As := [.int (nI k)]) (rest := []) hx hb hown htg hK hI hS hP hml hl.1 (mX5_checkStall l D ct ad Ms kp nx sz B A tn p9 kd k n hw (by omega)) cw_X5_67 rfl rfl ⟨Nat.le_of_ble_eq_true rfl, Nat.le_of_ble_eq_true rfl⟩ (Nat.le_of_ble_eq_true rfl) dX5_stallOf_2 ⟨Nat.le_refl _, Nat.le_refl _⟩ (fun H locs hP hS => ?_)
    refine lv_iload_n hx hb dX5_stallOf_5 rfl (lv_at hl 2 rfl) ?_
    refine lv_iconst (v := nI 0) hx hb dX5_stallOf_6 (by decide) ?_
    refine lv_bipush (v := nI 9) hx hb dX5_stallOf_7 (by decide) ?_
    refine cs_cS0 (As := [.int (nI 7), .int (nI 0), .int (nI 9)]) (rest := []) hx hb hown htg hK hI hS hP hml hl.1 (mX5_checkArgument l D ct ad Ms kp nx sz B A tn p9 kd (nI 7) (nI 0) (nI 9) (by decide) (by decide)) cw_X5_71 rfl rfl ⟨Nat.le_of_ble_eq_true rfl, Nat.le_of_ble_eq_true rfl⟩ (Nat.le_of_ble_eq_true rfl) dX5_stallOf_9 ⟨Nat.le_refl _, Nat.le_refl _⟩ (fun H locs hP hS => ?_)
    refine lv_aload_n hx hb dX5_stallOf_12 rfl (lv_at hl 0 rfl) ?_
    refine cs_g0 hx hb hown htg hK hP fl_X5_10 dX5_stallOf_13 ?_
    refine cs_m0 (i := 0) (M := Ms 0) hx hb hown htg hK hP (by omega) (by first | rfl | (simp (disch := omega) only [vup_s, va_up_ne]; done)) fl_X5_85 dX5_stallOf_16 ?_
    refine lv_iload_n hx hb dX5_stallOf_19 rfl (lv_at hl 1 rfl) ?_
    refine cs_aMs (i := 0) (M := Ms 0) hx hb hK hP (by omega) (by first | rfl | (simp (disch := omega) only [vup_s, va_up_ne]; done)) (by omega) dX5_stallOf_20 ?_
    refine lv_astore_n (lv' := [(3, .ref (ad (8 + 19 * 0 + (5 + k)))), (0, .ref (ad 0)), (1, .int (nI k)), (2, .int (nI 7))]) hx hb dX5_stallOf_21 rfl hl (by decide) rfl (fun ls hl => ?_)
    refine lv_iload_n hx hb dX5_stallOf_22 rfl (lv_at hl 3 rfl) ?_
    refine lv_tableIn (tgt := 115) hx hb dX5_stallOf_23 (by decide) (by decide) rfl (by decide) ?_
    refine lv_aload_n hx hb dX5_stallOf_115 rfl (lv_at hl 0 rfl) ?_
    refine cs_s7 (k := k) (i := 0) (M := Ms 0) hx hb hown htg hK hP (by omega) (by first | rfl | (simp (disch := omega) only [vup_s, va_up_ne]; done)) (by omega) fl_X5_204 dX5_stallOf_116 ?_
    refine fr_iret hx hb hr hlocks hK hI hS rfl dX5_stallOf_119 ?_ ?_
    · first | rfl | (have h9 : Ms 0 (39 + 8 * k + 5) = 1 := (hbw.1 k (by omega)).resolve_left c101; show _ = Ms 0 (39 + 8 * k + 5); rw [h9]; rfl) | (show _ = Ms 0 (39 + 8 * k + 5); rw [c101]; rfl)
    · exact hP
  · refine lv_aload_n hx hb dX5_stallOf_0 rfl (lv_at hl 0 rfl) ?_
    refine lv_iload_n hx hb dX5_stallOf_1 rfl (lv_at hl 1 rfl) ?_
    refine cs_co0 (As := [.int (nI k)]) (rest := []) hx hb hown htg hK hI hS hP hml hl.1 (mX5_checkStall l D ct ad Ms kp nx sz B A tn p9 kd k n hw (by omega)) cw_X5_67 rfl rfl ⟨Nat.le_of_ble_eq_true rfl, Nat.le_of_ble_eq_true rfl⟩ (Nat.le_of_ble_eq_true rfl) dX5_stallOf_2 ⟨Nat.le_refl _, Nat.le_refl _⟩ (fun H locs hP hS => ?_)
    refine lv_iload_n hx hb dX5_stallOf_5 rfl (lv_at hl 2 rfl) ?_
    refine lv_iconst (v := nI 0) hx hb dX5_stallOf_6 (by decide) ?_
    refine lv_bipush (v := nI 9) hx hb dX5_stallOf_7 (by decide) ?_
    refine cs_cS0 (As := [.int (nI 8), .int (nI 0), .int (nI 9)]) (rest := []) hx hb hown htg hK hI hS hP hml hl.1 (mX5_checkArgument l D ct ad Ms kp nx sz B A tn p9 kd (nI 8) (nI 0) (nI 9) (by decide) (by decide)) cw_X5_71 rfl rfl ⟨Nat.le_of_ble_eq_true rfl, Nat.le_of_ble_eq_true rfl⟩ (Nat.le_of_ble_eq_true rfl) dX5_stallOf_9 ⟨Nat.le_refl _, Nat.le_refl _⟩ (fun H locs hP hS => ?_)
    refine lv_aload_n hx hb dX5_stallOf_12 rfl (lv_at hl 0 rfl) ?_
    refine cs_g0 hx hb hown htg hK hP fl_X5_10 dX5_stallOf_13 ?_
    refine cs_m0 (i := 0) (M := Ms 0) hx hb hown htg hK hP (by omega) (by first | rfl | (simp (disch := omega) only [vup_s, va_up_ne]; done)) fl_X5_85 dX5_stallOf_16 ?_
    refine lv_iload_n hx hb dX5_stallOf_19 rfl (lv_at hl 1 rfl) ?_
    refine cs_aMs (i := 0) (M := Ms 0) hx hb hK hP (by omega) (by first | rfl | (simp (disch := omega) only [vup_s, va_up_ne]; done)) (by omega) dX5_stallOf_20 ?_
    refine lv_astore_n (lv' := [(3, .ref (ad (8 + 19 * 0 + (5 + k)))), (0, .ref (ad 0)), (1, .int (nI k)), (2, .int (nI 8))]) hx hb dX5_stallOf_21 rfl hl (by decide) rfl (fun ls hl => ?_)
    refine lv_iload_n hx hb dX5_stallOf_22 rfl (lv_at hl 3 rfl) ?_
    refine lv_tableIn (tgt := 120) hx hb dX5_stallOf_23 (by decide) (by decide) rfl (by decide) ?_
    refine lv_aload_n hx hb dX5_stallOf_120 rfl (lv_at hl 1 rfl) ?_
    refine cs_g0 hx hb hown htg hK hP fl_X5_10 dX5_stallOf_121 ?_
    refine lv_aload_n hx hb dX5_stallOf_124 rfl (lv_at hl 0 rfl) ?_
    refine cs_cmr (i := 0) (M := Ms 0) (M' := Ms 0) (As := [.ref (ad (8 + 19 * 0 + (5 + k)))]) (rest := []) hx hb hown htg hK hI hS hP hml hl.1 (by omega) (by first | rfl | (simp (disch := omega) only [vup_s, va_up_ne]; done)) (mX2_reasonOf l D ct (fun z => ad (8 + 19 * 0 + z)) (Ms 0) k (by omega)) cw_X5_207 rfl rfl ⟨Nat.le_of_ble_eq_true rfl, Nat.le_of_ble_eq_true rfl⟩ (Nat.le_of_ble_eq_true rfl) dX5_stallOf_125 ⟨Nat.le_refl _, Nat.le_refl _⟩ (fun H locs hP hS => ?_)
    have hP := fP.eqc (congrArg (fun v9 => csc ct ad v9 kp (nI nx) (nI sz) B A (nI tn) (nI p9) kd) (show (va_up Ms 0 (Ms 0)) = Ms from by first | exact vup_id _ _ (by first | rfl | (simp (disch := omega) only [vup_s, va_up_ne]; done)))) hP
    refine fr_iret hx hb hr hlocks hK hI hS rfl dX5_stallOf_128 ?_ ?_
    · first | rfl | (have h9 : Ms 0 (39 + 8 * k + 5) = 1 := (hbw.1 k (by omega)).resolve_left c101; show _ = Ms 0 (39 + 8 * k + 5); rw [h9]; rfl) | (show _ = Ms 0 (39 + 8 * k + 5); rw [c101]; rfl)
    · exact hP
  · refine lv_aload_n hx hb dX5_stallOf_0 rfl (lv_at hl 0 rfl) ?_
    refine lv_iload_n hx hb dX5_stallOf_1 rfl (lv_at hl 1 rfl) ?_
    refine cs_co0 (As := [.int (nI k)]) (rest := []) hx hb hown htg hK hI hS hP hml hl.1 (mX5_checkStall l D ct ad Ms kp nx sz B A tn p9 kd k n hw (by omega)) cw_X5_67 rfl rfl ⟨Nat.le_of_ble_eq_true rfl, Nat.le_of_ble_eq_true rfl⟩ (Nat.le_of_ble_eq_true rfl) dX5_stallOf_2 ⟨Nat.le_refl _, Nat.le_refl _⟩ (fun H locs hP hS => ?_)
    refine lv_iload_n hx hb dX5_stallOf_5 rfl (lv_at hl 2 rfl) ?_
    refine lv_iconst (v := nI 0) hx hb dX5_stallOf_6 (by decide) ?_
    refine lv_bipush (v := nI 9) hx hb dX5_stallOf_7 (by decide) ?_
    refine cs_cS0 (As := [.int (nI 9), .int (nI 0), .int (nI 9)]) (rest := []) hx hb hown htg hK hI hS hP hml hl.1 (mX5_checkArgument l D ct ad Ms kp nx sz B A tn p9 kd (nI 9) (nI 0) (nI 9) (by decide) (by decide)) cw_X5_71 rfl rfl ⟨Nat.le_of_ble_eq_true rfl, Nat.le_of_ble_eq_true rfl⟩ (Nat.le_of_ble_eq_true rfl) dX5_stallOf_9 ⟨Nat.le_refl _, Nat.le_refl _⟩ (fun H locs hP hS => ?_)
    refine lv_aload_n hx hb dX5_stallOf_12 rfl (lv_at hl 0 rfl) ?_
    refine cs_g0 hx hb hown htg hK hP fl_X5_10 dX5_stallOf_13 ?_
    refine cs_m0 (i := 0) (M := Ms 0) hx hb hown htg hK hP (by omega) (by first | rfl | (simp (disch := omega) only [vup_s, va_up_ne]; done)) fl_X5_85 dX5_stallOf_16 ?_
    refine lv_iload_n hx hb dX5_stallOf_19 rfl (lv_at hl 1 rfl) ?_
    refine cs_aMs (i := 0) (M := Ms 0) hx hb hK hP (by omega) (by first | rfl | (simp (disch := omega) only [vup_s, va_up_ne]; done)) (by omega) dX5_stallOf_20 ?_
    refine lv_astore_n (lv' := [(3, .ref (ad (8 + 19 * 0 + (5 + k)))), (0, .ref (ad 0)), (1, .int (nI k)), (2, .int (nI 9))]) hx hb dX5_stallOf_21 rfl hl (by decide) rfl (fun ls hl => ?_)
    refine lv_iload_n hx hb dX5_stallOf_22 rfl (lv_at hl 3 rfl) ?_
    refine lv_tableOut (tgt := 129) hx hb dX5_stallOf_23 (by decide) (by decide) ?_
    refine lv_aload_n hx hb dX5_stallOf_129 rfl (lv_at hl 1 rfl) ?_
    refine cs_g0 hx hb hown htg hK hP fl_X5_10 dX5_stallOf_130 ?_
    refine lv_aload_n hx hb dX5_stallOf_133 rfl (lv_at hl 0 rfl) ?_
    refine cs_cmr (i := 0) (M := Ms 0) (M' := Ms 0) (As := [.ref (ad (8 + 19 * 0 + (5 + k)))]) (rest := []) hx hb hown htg hK hI hS hP hml hl.1 (by omega) (by first | rfl | (simp (disch := omega) only [vup_s, va_up_ne]; done)) (mX2_feeOf l D ct (fun z => ad (8 + 19 * 0 + z)) (Ms 0) k (by omega)) cw_X5_211 rfl rfl ⟨Nat.le_of_ble_eq_true rfl, Nat.le_of_ble_eq_true rfl⟩ (Nat.le_of_ble_eq_true rfl) dX5_stallOf_134 ⟨Nat.le_refl _, Nat.le_refl _⟩ (fun H locs hP hS => ?_)
    have hP := fP.eqc (congrArg (fun v9 => csc ct ad v9 kp (nI nx) (nI sz) B A (nI tn) (nI p9) kd) (show (va_up Ms 0 (Ms 0)) = Ms from by first | exact vup_id _ _ (by first | rfl | (simp (disch := omega) only [vup_s, va_up_ne]; done)))) hP
    refine fr_iret hx hb hr hlocks hK hI hS rfl dX5_stallOf_137 ?_ ?_
    · first | rfl | (have h9 : Ms 0 (39 + 8 * k + 5) = 1 := (hbw.1 k (by omega)).resolve_left c101; show _ = Ms 0 (39 + 8 * k + 5); rw [h9]; rfl) | (show _ = Ms 0 (39 + 8 * k + 5); rw [c101]; rfl)
    · exact hP
set_option maxRecDepth 100000 in
set_option maxHeartbeats 4000000 in
theorem mX5_breaker (l : Launch) (D : va_G) (ct : Nat → ClassId) (ad : Nat → Nat) (Ms : Nat → Nat → Int32) (kp : Nat → Int32) (nx sz : Nat) (B A : Nat → Int32) (tn p9 : Nat) (kd : Int32) (b : Nat) (w : Nat) (n : Nat)  (hw : mW (Ms 0) n) (hbw : bW (Ms 0) n) (hb4 : b < 4) (hw7 : w < 7) : FMet l yX5_breaker cX5_breaker 4 (some .int) 3 66 D ct 198 ad [.ref (ad 0), .int (nI b), .int (nI w)] (csc ct ad Ms kp (nI nx) (nI sz) B A (nI tn) (nI p9) kd) (some (.int (cBre (Ms 0) n b w))) (csc ct ad Ms kp (nI nx) (nI sz) B A (nI tn) (nI p9) kd) := by
  refine FMet.of (by decide +kernel) (Nat.le_of_ble_eq_true rfl) ?_
  intro p e s m args below meth c ls hx hb hr hml hown hlocks htg hK hI hP hS hl
  have hl : lv_has ls 4 [(0, .ref (ad 0)), (1, .int (nI b)), (2, .int (nI w))] := hl
  have hn10 := hw.2
  rcases (show w = 0 ∨ w = 1 ∨ w = 2 ∨ w = 3 ∨ w = 4 ∨ w = 5 ∨ w = 6 from by omega) with rfl | rfl | rfl | rfl | rfl | rfl | rfl
  · refine lv_iload_n hx hb dX5_breaker_0 rfl (lv_at hl 1 rfl) ?_
    refine lv_iconst (v := nI 0) hx hb dX5_breaker_1 (by decide) ?_
    refine lv_iconst (v := nI 3) hx hb dX5_breaker_2 (by decide) ?_
    refine cs_cS0 (As := [.int (nI b), .int (nI 0), .int (nI 3)]) (rest := []) hx hb hown htg hK hI hS hP hml hl.1 (mX5_checkArgument l D ct ad Ms kp nx sz B A tn p9 kd (nI b) (nI 0) (nI 3) (Int32.not_lt.mpr ((n_le (by omega) (by omega)).mpr (by omega))) (Int32.not_lt.mpr ((n_le (by omega) (by omega)).mpr (by omega)))) cw_X5_71 rfl rfl ⟨Nat.le_of_ble_eq_true rfl, Nat.le_of_ble_eq_true rfl⟩ (Nat.le_of_ble_eq_true rfl) dX5_breaker_3 ⟨Nat.le_refl _, Nat.le_refl _⟩ (fun H locs hP hS => ?_)
    refine lv_iload_n hx hb dX5_breaker_6 rfl (lv_at hl 2 rfl) ?_
    refine lv_iconst (v := nI 0) hx hb dX5_breaker_7 (by decide) ?_
    refine lv_bipush (v := nI 6) hx hb dX5_breaker_8 (by decide) ?_
    refine cs_cS0 (As := [.int (nI 0), .int (nI 0), .int (nI 6)]) (rest := []) hx hb hown htg hK hI hS hP hml hl.1 (mX5_checkArgument l D ct ad Ms kp nx sz B A tn p9 kd (nI 0) (nI 0) (nI 6) (by decide) (by decide)) cw_X5_71 rfl rfl ⟨Nat.le_of_ble_eq_true rfl, Nat.le_of_ble_eq_true rfl⟩ (Nat.le_of_ble_eq_true rfl) dX5_breaker_10 ⟨Nat.le_refl _, Nat.le_refl _⟩ (fun H locs hP hS => ?_)
    refine lv_aload_n hx hb dX5_breaker_13 rfl (lv_at hl 0 rfl) ?_
    refine cs_g0 hx hb hown htg hK hP fl_X5_10 dX5_breaker_14 ?_
    refine cs_m2 (i := 0) (M := Ms 0) hx hb hown htg hK hP (by omega) (by first | rfl | (simp (disch := omega) only [vup_s, va_up_ne]; done)) fl_X5_101 dX5_breaker_17 ?_
    refine lv_iload_n hx hb dX5_breaker_20 rfl (lv_at hl 1 rfl) ?_
    refine cs_aMb (i := 0) (M := Ms 0) hx hb hK hP (by omega) (by first | rfl | (simp (disch := omega) only [vup_s, va_up_ne]; done)) (by omega) dX5_breaker_21 ?_
    refine lv_astore_n (lv' := [(3, .ref (ad (8 + 19 * 0 + (15 + b)))), (0, .ref (ad 0)), (1, .int (nI b)), (2, .int (nI 0))]) hx hb dX5_breaker_22 rfl hl (by decide) rfl (fun ls hl => ?_)
    refine lv_iload_n hx hb dX5_breaker_23 rfl (lv_at hl 3 rfl) ?_
    refine lv_tableIn (tgt := 64) hx hb dX5_breaker_24 (by decide) (by decide) rfl (by decide) ?_
    refine lv_aload_n hx hb dX5_breaker_64 rfl (lv_at hl 0 rfl) ?_
    refine cs_b0 (k := b) (i := 0) (M := Ms 0) hx hb hown htg hK hP (by omega) (by first | rfl | (simp (disch := omega) only [vup_s, va_up_ne]; done)) (by omega) fl_X5_105 dX5_breaker_65 ?_
    refine fr_iret hx hb hr hlocks hK hI hS rfl dX5_breaker_68 ?_ ?_
    · first | rfl | (have h9 : Ms 0 (7 + 5 * b + 1) = 1 := (hbw.2.1 b (by omega)).resolve_left c73; show _ = Ms 0 (7 + 5 * b + 1); rw [h9]; rfl) | (show _ = Ms 0 (7 + 5 * b + 1); rw [c73]; rfl)
    · exact hP
  · refine lv_iload_n hx hb dX5_breaker_0 rfl (lv_at hl 1 rfl) ?_
    refine lv_iconst (v := nI 0) hx hb dX5_breaker_1 (by decide) ?_
    refine lv_iconst (v := nI 3) hx hb dX5_breaker_2 (by decide) ?_
    refine cs_cS0 (As := [.int (nI b), .int (nI 0), .int (nI 3)]) (rest := []) hx hb hown htg hK hI hS hP hml hl.1 (mX5_checkArgument l D ct ad Ms kp nx sz B A tn p9 kd (nI b) (nI 0) (nI 3) (Int32.not_lt.mpr ((n_le (by omega) (by omega)).mpr (by omega))) (Int32.not_lt.mpr ((n_le (by omega) (by omega)).mpr (by omega)))) cw_X5_71 rfl rfl ⟨Nat.le_of_ble_eq_true rfl, Nat.le_of_ble_eq_true rfl⟩ (Nat.le_of_ble_eq_true rfl) dX5_breaker_3 ⟨Nat.le_refl _, Nat.le_refl _⟩ (fun H locs hP hS => ?_)
    refine lv_iload_n hx hb dX5_breaker_6 rfl (lv_at hl 2 rfl) ?_
    refine lv_iconst (v := nI 0) hx hb dX5_breaker_7 (by decide) ?_
    refine lv_bipush (v := nI 6) hx hb dX5_breaker_8 (by decide) ?_
    refine cs_cS0 (As := [.int (nI 1), .int (nI 0), .int (nI 6)]) (rest := []) hx hb hown htg hK hI hS hP hml hl.1 (mX5_checkArgument l D ct ad Ms kp nx sz B A tn p9 kd (nI 1) (nI 0) (nI 6) (by decide) (by decide)) cw_X5_71 rfl rfl ⟨Nat.le_of_ble_eq_true rfl, Nat.le_of_ble_eq_true rfl⟩ (Nat.le_of_ble_eq_true rfl) dX5_breaker_10 ⟨Nat.le_refl _, Nat.le_refl _⟩ (fun H locs hP hS => ?_)
    refine lv_aload_n hx hb dX5_breaker_13 rfl (lv_at hl 0 rfl) ?_
    refine cs_g0 hx hb hown htg hK hP fl_X5_10 dX5_breaker_14 ?_
    refine cs_m2 (i := 0) (M := Ms 0) hx hb hown htg hK hP (by omega) (by first | rfl | (simp (disch := omega) only [vup_s, va_up_ne]; done)) fl_X5_101 dX5_breaker_17 ?_
    refine lv_iload_n hx hb dX5_breaker_20 rfl (lv_at hl 1 rfl) ?_
    refine cs_aMb (i := 0) (M := Ms 0) hx hb hK hP (by omega) (by first | rfl | (simp (disch := omega) only [vup_s, va_up_ne]; done)) (by omega) dX5_breaker_21 ?_
    refine lv_astore_n (lv' := [(3, .ref (ad (8 + 19 * 0 + (15 + b)))), (0, .ref (ad 0)), (1, .int (nI b)), (2, .int (nI 1))]) hx hb dX5_breaker_22 rfl hl (by decide) rfl (fun ls hl => ?_)
    refine lv_iload_n hx hb dX5_breaker_23 rfl (lv_at hl 3 rfl) ?_
    refine lv_tableIn (tgt := 69) hx hb dX5_breaker_24 (by decide) (by decide) rfl (by decide) ?_
    refine lv_aload_n hx hb dX5_breaker_69 rfl (lv_at hl 0 rfl) ?_
    refine cs_b1 (k := b) (i := 0) (M := Ms 0) hx hb hown htg hK hP (by omega) (by first | rfl | (simp (disch := omega) only [vup_s, va_up_ne]; done)) (by omega) fl_X5_110 dX5_breaker_70 ?_
    refine lv_if_eq (tgt := 80) hx hb dX5_breaker_73 (by decide) (fun c73 => ?_) (fun c73 => ?_)
    · refine lv_iconst (v := nI 0) hx hb dX5_breaker_80 (by decide) ?_
      refine fr_iret hx hb hr hlocks hK hI hS rfl dX5_breaker_81 ?_ ?_
      · first | rfl | (have h9 : Ms 0 (7 + 5 * b + 1) = 1 := (hbw.2.1 b (by omega)).resolve_left c73; show _ = Ms 0 (7 + 5 * b + 1); rw [h9]; rfl) | (show _ = Ms 0 (7 + 5 * b + 1); rw [c73]; rfl)
      · exact hP
    · refine lv_iconst (v := nI 1) hx hb dX5_breaker_76 (by decide) ?_
      refine lv_goto (tgt := 81) hx hb dX5_breaker_77 (by decide) ?_
      refine fr_iret hx hb hr hlocks hK hI hS rfl dX5_breaker_81 ?_ ?_
      · first | rfl | (have h9 : Ms 0 (7 + 5 * b + 1) = 1 := (hbw.2.1 b (by omega)).resolve_left c73; show _ = Ms 0 (7 + 5 * b + 1); rw [h9]; rfl) | (show _ = Ms 0 (7 + 5 * b + 1); rw [c73]; rfl)
      · exact hP
  · refine lv_iload_n hx hb dX5_breaker_0 rfl (lv_at hl 1 rfl) ?_
    refine lv_iconst (v := nI 0) hx hb dX5_breaker_1 (by decide) ?_
    refine lv_iconst (v := nI 3) hx hb dX5_breaker_2 (by decide) ?_
    refine cs_cS0 (As := [.int (nI b), .int (nI 0), .int (nI 3)]) (rest := []) hx hb hown htg hK hI hS hP hml hl.1 (mX5_checkArgument l D ct ad Ms kp nx sz B A tn p9 kd (nI b) (nI 0) (nI 3) (Int32.not_lt.mpr ((n_le (by omega) (by omega)).mpr (by omega))) (Int32.not_lt.mpr ((n_le (by omega) (by omega)).mpr (by omega)))) cw_X5_71 rfl rfl ⟨Nat.le_of_ble_eq_true rfl, Nat.le_of_ble_eq_true rfl⟩ (Nat.le_of_ble_eq_true rfl) dX5_breaker_3 ⟨Nat.le_refl _, Nat.le_refl _⟩ (fun H locs hP hS => ?_)
    refine lv_iload_n hx hb dX5_breaker_6 rfl (lv_at hl 2 rfl) ?_
    refine lv_iconst (v := nI 0) hx hb dX5_breaker_7 (by decide) ?_
    refine lv_bipush (v := nI 6) hx hb dX5_breaker_8 (by decide) ?_
    refine cs_cS0 (As := [.int (nI 2), .int (nI 0), .int (nI 6)]) (rest := []) hx hb hown htg hK hI hS hP hml hl.1 (mX5_checkArgument l D ct ad Ms kp nx sz B A tn p9 kd (nI 2) (nI 0) (nI 6) (by decide) (by decide)) cw_X5_71 rfl rfl ⟨Nat.le_of_ble_eq_true rfl, Nat.le_of_ble_eq_true rfl⟩ (Nat.le_of_ble_eq_true rfl) dX5_breaker_10 ⟨Nat.le_refl _, Nat.le_refl _⟩ (fun H locs hP hS => ?_)
    refine lv_aload_n hx hb dX5_breaker_13 rfl (lv_at hl 0 rfl) ?_
    refine cs_g0 hx hb hown htg hK hP fl_X5_10 dX5_breaker_14 ?_
    refine cs_m2 (i := 0) (M := Ms 0) hx hb hown htg hK hP (by omega) (by first | rfl | (simp (disch := omega) only [vup_s, va_up_ne]; done)) fl_X5_101 dX5_breaker_17 ?_
    refine lv_iload_n hx hb dX5_breaker_20 rfl (lv_at hl 1 rfl) ?_
    refine cs_aMb (i := 0) (M := Ms 0) hx hb hK hP (by omega) (by first | rfl | (simp (disch := omega) only [vup_s, va_up_ne]; done)) (by omega) dX5_breaker_21 ?_
    refine lv_astore_n (lv' := [(3, .ref (ad (8 + 19 * 0 + (15 + b)))), (0, .ref (ad 0)), (1, .int (nI b)), (2, .int (nI 2))]) hx hb dX5_breaker_22 rfl hl (by decide) rfl (fun ls hl => ?_)
    refine lv_iload_n hx hb dX5_breaker_23 rfl (lv_at hl 3 rfl) ?_
    refine lv_tableIn (tgt := 82) hx hb dX5_breaker_24 (by decide) (by decide) rfl (by decide) ?_
    refine lv_aload_n hx hb dX5_breaker_82 rfl (lv_at hl 0 rfl) ?_
    refine cs_b2 (k := b) (i := 0) (M := Ms 0) hx hb hown htg hK hP (by omega) (by first | rfl | (simp (disch := omega) only [vup_s, va_up_ne]; done)) (by omega) fl_X5_214 dX5_breaker_83 ?_
    refine fr_iret hx hb hr hlocks hK hI hS rfl dX5_breaker_86 ?_ ?_
    · first | rfl | (have h9 : Ms 0 (7 + 5 * b + 1) = 1 := (hbw.2.1 b (by omega)).resolve_left c73; show _ = Ms 0 (7 + 5 * b + 1); rw [h9]; rfl) | (show _ = Ms 0 (7 + 5 * b + 1); rw [c73]; rfl)
    · exact hP
  · refine lv_iload_n hx hb dX5_breaker_0 rfl (lv_at hl 1 rfl) ?_
    refine lv_iconst (v := nI 0) hx hb dX5_breaker_1 (by decide) ?_
    refine lv_iconst (v := nI 3) hx hb dX5_breaker_2 (by decide) ?_
    refine cs_cS0 (As := [.int (nI b), .int (nI 0), .int (nI 3)]) (rest := []) hx hb hown htg hK hI hS hP hml hl.1 (mX5_checkArgument l D ct ad Ms kp nx sz B A tn p9 kd (nI b) (nI 0) (nI 3) (Int32.not_lt.mpr ((n_le (by omega) (by omega)).mpr (by omega))) (Int32.not_lt.mpr ((n_le (by omega) (by omega)).mpr (by omega)))) cw_X5_71 rfl rfl ⟨Nat.le_of_ble_eq_true rfl, Nat.le_of_ble_eq_true rfl⟩ (Nat.le_of_ble_eq_true rfl) dX5_breaker_3 ⟨Nat.le_refl _, Nat.le_refl _⟩ (fun H locs hP hS => ?_)
    refine lv_iload_n hx hb dX5_breaker_6 rfl (lv_at hl 2 rfl) ?_
    refine lv_iconst (v := nI 0) hx hb dX5_breaker_7 (by decide) ?_
    refine lv_bipush (v := nI 6) hx hb dX5_breaker_8 (by decide) ?_
    refine cs_cS0 (As := [.int (nI 3), .int (nI 0), .int (nI 6)]) (rest := []) hx hb hown htg hK hI hS hP hml hl.1 (mX5_checkArgument l D ct ad Ms kp nx sz B A tn p9 kd (nI 3) (nI 0) (nI 6) (by decide) (by decide)) cw_X5_71 rfl rfl ⟨Nat.le_of_ble_eq_true rfl, Nat.le_of_ble_eq_true rfl⟩ (Nat.le_of_ble_eq_true rfl) dX5_breaker_10 ⟨Nat.le_refl _, Nat.le_refl _⟩ (fun H locs hP hS => ?_)
    refine lv_aload_n hx hb dX5_breaker_13 rfl (lv_at hl 0 rfl) ?_
    refine cs_g0 hx hb hown htg hK hP fl_X5_10 dX5_breaker_14 ?_
    refine cs_m2 (i := 0) (M := Ms 0) hx hb hown htg hK hP (by omega) (by first | rfl | (simp (disch := omega) only [vup_s, va_up_ne]; done)) fl_X5_101 dX5_breaker_17 ?_
    refine lv_iload_n hx hb dX5_breaker_20 rfl (lv_at hl 1 rfl) ?_
    refine cs_aMb (i := 0) (M := Ms 0) hx hb hK hP (by omega) (by first | rfl | (simp (disch := omega) only [vup_s, va_up_ne]; done)) (by omega) dX5_breaker_21 ?_
    refine lv_astore_n (lv' := [(3, .ref (ad (8 + 19 * 0 + (15 + b)))), (0, .ref (ad 0)), (1, .int (nI b)), (2, .int (nI 3))]) hx hb dX5_breaker_22 rfl hl (by decide) rfl (fun ls hl => ?_)
    refine lv_iload_n hx hb dX5_breaker_23 rfl (lv_at hl 3 rfl) ?_
    refine lv_tableIn (tgt := 87) hx hb dX5_breaker_24 (by decide) (by decide) rfl (by decide) ?_
    refine lv_aload_n hx hb dX5_breaker_87 rfl (lv_at hl 1 rfl) ?_
    refine cs_g0 hx hb hown htg hK hP fl_X5_10 dX5_breaker_88 ?_
    refine lv_iload_n hx hb dX5_breaker_91 rfl (lv_at hl 2 rfl) ?_
    refine cs_cmr (i := 0) (M := Ms 0) (M' := Ms 0) (As := [.int (nI b)]) (rest := []) hx hb hown htg hK hI hS hP hml hl.1 (by omega) (by first | rfl | (simp (disch := omega) only [vup_s, va_up_ne]; done)) (mX2_loadOn l D ct (fun z => ad (8 + 19 * 0 + z)) (Ms 0) (nI b) n hw) cw_X5_217 rfl rfl ⟨Nat.le_of_ble_eq_true rfl, Nat.le_of_ble_eq_true rfl⟩ (Nat.le_of_ble_eq_true rfl) dX5_breaker_92 ⟨Nat.le_refl _, Nat.le_refl _⟩ (fun H locs hP hS => ?_)
    have hP := fP.eqc (congrArg (fun v9 => csc ct ad v9 kp (nI nx) (nI sz) B A (nI tn) (nI p9) kd) (show (va_up Ms 0 (Ms 0)) = Ms from by first | exact vup_id _ _ (by first | rfl | (simp (disch := omega) only [vup_s, va_up_ne]; done)))) hP
    refine fr_iret hx hb hr hlocks hK hI hS rfl dX5_breaker_95 ?_ ?_
    · first | rfl | (have h9 : Ms 0 (7 + 5 * b + 1) = 1 := (hbw.2.1 b (by omega)).resolve_left c73; show _ = Ms 0 (7 + 5 * b + 1); rw [h9]; rfl) | (show _ = Ms 0 (7 + 5 * b + 1); rw [c73]; rfl)
    · exact hP
  · refine lv_iload_n hx hb dX5_breaker_0 rfl (lv_at hl 1 rfl) ?_
    refine lv_iconst (v := nI 0) hx hb dX5_breaker_1 (by decide) ?_
    refine lv_iconst (v := nI 3) hx hb dX5_breaker_2 (by decide) ?_
    refine cs_cS0 (As := [.int (nI b), .int (nI 0), .int (nI 3)]) (rest := []) hx hb hown htg hK hI hS hP hml hl.1 (mX5_checkArgument l D ct ad Ms kp nx sz B A tn p9 kd (nI b) (nI 0) (nI 3) (Int32.not_lt.mpr ((n_le (by omega) (by omega)).mpr (by omega))) (Int32.not_lt.mpr ((n_le (by omega) (by omega)).mpr (by omega)))) cw_X5_71 rfl rfl ⟨Nat.le_of_ble_eq_true rfl, Nat.le_of_ble_eq_true rfl⟩ (Nat.le_of_ble_eq_true rfl) dX5_breaker_3 ⟨Nat.le_refl _, Nat.le_refl _⟩ (fun H locs hP hS => ?_)
    refine lv_iload_n hx hb dX5_breaker_6 rfl (lv_at hl 2 rfl) ?_
    refine lv_iconst (v := nI 0) hx hb dX5_breaker_7 (by decide) ?_
    refine lv_bipush (v := nI 6) hx hb dX5_breaker_8 (by decide) ?_
    refine cs_cS0 (As := [.int (nI 4), .int (nI 0), .int (nI 6)]) (rest := []) hx hb hown htg hK hI hS hP hml hl.1 (mX5_checkArgument l D ct ad Ms kp nx sz B A tn p9 kd (nI 4) (nI 0) (nI 6) (by decide) (by decide)) cw_X5_71 rfl rfl ⟨Nat.le_of_ble_eq_true rfl, Nat.le_of_ble_eq_true rfl⟩ (Nat.le_of_ble_eq_true rfl) dX5_breaker_10 ⟨Nat.le_refl _, Nat.le_refl _⟩ (fun H locs hP hS => ?_)
    refine lv_aload_n hx hb dX5_breaker_13 rfl (lv_at hl 0 rfl) ?_
    refine cs_g0 hx hb hown htg hK hP fl_X5_10 dX5_breaker_14 ?_
    refine cs_m2 (i := 0) (M := Ms 0) hx hb hown htg hK hP (by omega) (by first | rfl | (simp (disch := omega) only [vup_s, va_up_ne]; done)) fl_X5_101 dX5_breaker_17 ?_
    refine lv_iload_n hx hb dX5_breaker_20 rfl (lv_at hl 1 rfl) ?_
    refine cs_aMb (i := 0) (M := Ms 0) hx hb hK hP (by omega) (by first | rfl | (simp (disch := omega) only [vup_s, va_up_ne]; done)) (by omega) dX5_breaker_21 ?_
    refine lv_astore_n (lv' := [(3, .ref (ad (8 + 19 * 0 + (15 + b)))), (0, .ref (ad 0)), (1, .int (nI b)), (2, .int (nI 4))]) hx hb dX5_breaker_22 rfl hl (by decide) rfl (fun ls hl => ?_)
    refine lv_iload_n hx hb dX5_breaker_23 rfl (lv_at hl 3 rfl) ?_
    refine lv_tableIn (tgt := 96) hx hb dX5_breaker_24 (by decide) (by decide) rfl (by decide) ?_
    refine lv_aload_n hx hb dX5_breaker_96 rfl (lv_at hl 1 rfl) ?_
    refine cs_g0 hx hb hown htg hK hP fl_X5_10 dX5_breaker_97 ?_
    refine lv_iload_n hx hb dX5_breaker_100 rfl (lv_at hl 2 rfl) ?_
    refine cs_cmr (i := 0) (M := Ms 0) (M' := Ms 0) (As := [.int (nI b)]) (rest := []) hx hb hown htg hK hI hS hP hml hl.1 (by omega) (by first | rfl | (simp (disch := omega) only [vup_s, va_up_ne]; done)) (mX2_loadPluggedInto l D ct (fun z => ad (8 + 19 * 0 + z)) (Ms 0) (nI b) n hw) cw_X5_220 rfl rfl ⟨Nat.le_of_ble_eq_true rfl, Nat.le_of_ble_eq_true rfl⟩ (Nat.le_of_ble_eq_true rfl) dX5_breaker_101 ⟨Nat.le_refl _, Nat.le_refl _⟩ (fun H locs hP hS => ?_)
    have hP := fP.eqc (congrArg (fun v9 => csc ct ad v9 kp (nI nx) (nI sz) B A (nI tn) (nI p9) kd) (show (va_up Ms 0 (Ms 0)) = Ms from by first | exact vup_id _ _ (by first | rfl | (simp (disch := omega) only [vup_s, va_up_ne]; done)))) hP
    refine fr_iret hx hb hr hlocks hK hI hS rfl dX5_breaker_104 ?_ ?_
    · first | rfl | (have h9 : Ms 0 (7 + 5 * b + 1) = 1 := (hbw.2.1 b (by omega)).resolve_left c73; show _ = Ms 0 (7 + 5 * b + 1); rw [h9]; rfl) | (show _ = Ms 0 (7 + 5 * b + 1); rw [c73]; rfl)
    · exact hP
  · refine lv_iload_n hx hb dX5_breaker_0 rfl (lv_at hl 1 rfl) ?_
    refine lv_iconst (v := nI 0) hx hb dX5_breaker_1 (by decide) ?_
    refine lv_iconst (v := nI 3) hx hb dX5_breaker_2 (by decide) ?_
    refine cs_cS0 (As := [.int (nI b), .int (nI 0), .int (nI 3)]) (rest := []) hx hb hown htg hK hI hS hP hml hl.1 (mX5_checkArgument l D ct ad Ms kp nx sz B A tn p9 kd (nI b) (nI 0) (nI 3) (Int32.not_lt.mpr ((n_le (by omega) (by omega)).mpr (by omega))) (Int32.not_lt.mpr ((n_le (by omega) (by omega)).mpr (by omega)))) cw_X5_71 rfl rfl ⟨Nat.le_of_ble_eq_true rfl, Nat.le_of_ble_eq_true rfl⟩ (Nat.le_of_ble_eq_true rfl) dX5_breaker_3 ⟨Nat.le_refl _, Nat.le_refl _⟩ (fun H locs hP hS => ?_)
    refine lv_iload_n hx hb dX5_breaker_6 rfl (lv_at hl 2 rfl) ?_
    refine lv_iconst (v := nI 0) hx hb dX5_breaker_7 (by decide) ?_
    refine lv_bipush (v := nI 6) hx hb dX5_breaker_8 (by decide) ?_
    refine cs_cS0 (As := [.int (nI 5), .int (nI 0), .int (nI 6)]) (rest := []) hx hb hown htg hK hI hS hP hml hl.1 (mX5_checkArgument l D ct ad Ms kp nx sz B A tn p9 kd (nI 5) (nI 0) (nI 6) (by decide) (by decide)) cw_X5_71 rfl rfl ⟨Nat.le_of_ble_eq_true rfl, Nat.le_of_ble_eq_true rfl⟩ (Nat.le_of_ble_eq_true rfl) dX5_breaker_10 ⟨Nat.le_refl _, Nat.le_refl _⟩ (fun H locs hP hS => ?_)
    refine lv_aload_n hx hb dX5_breaker_13 rfl (lv_at hl 0 rfl) ?_
    refine cs_g0 hx hb hown htg hK hP fl_X5_10 dX5_breaker_14 ?_
    refine cs_m2 (i := 0) (M := Ms 0) hx hb hown htg hK hP (by omega) (by first | rfl | (simp (disch := omega) only [vup_s, va_up_ne]; done)) fl_X5_101 dX5_breaker_17 ?_
    refine lv_iload_n hx hb dX5_breaker_20 rfl (lv_at hl 1 rfl) ?_
    refine cs_aMb (i := 0) (M := Ms 0) hx hb hK hP (by omega) (by first | rfl | (simp (disch := omega) only [vup_s, va_up_ne]; done)) (by omega) dX5_breaker_21 ?_
    refine lv_astore_n (lv' := [(3, .ref (ad (8 + 19 * 0 + (15 + b)))), (0, .ref (ad 0)), (1, .int (nI b)), (2, .int (nI 5))]) hx hb dX5_breaker_22 rfl hl (by decide) rfl (fun ls hl => ?_)
    refine lv_iload_n hx hb dX5_breaker_23 rfl (lv_at hl 3 rfl) ?_
    refine lv_tableIn (tgt := 105) hx hb dX5_breaker_24 (by decide) (by decide) rfl (by decide) ?_
    refine lv_aload_n hx hb dX5_breaker_105 rfl (lv_at hl 0 rfl) ?_
    refine cs_b3 (k := b) (i := 0) (M := Ms 0) hx hb hown htg hK hP (by omega) (by first | rfl | (simp (disch := omega) only [vup_s, va_up_ne]; done)) (by omega) fl_X5_223 dX5_breaker_106 ?_
    refine fr_iret hx hb hr hlocks hK hI hS rfl dX5_breaker_109 ?_ ?_
    · first | rfl | (have h9 : Ms 0 (7 + 5 * b + 1) = 1 := (hbw.2.1 b (by omega)).resolve_left c73; show _ = Ms 0 (7 + 5 * b + 1); rw [h9]; rfl) | (show _ = Ms 0 (7 + 5 * b + 1); rw [c73]; rfl)
    · exact hP
  · refine lv_iload_n hx hb dX5_breaker_0 rfl (lv_at hl 1 rfl) ?_
    refine lv_iconst (v := nI 0) hx hb dX5_breaker_1 (by decide) ?_
    refine lv_iconst (v := nI 3) hx hb dX5_breaker_2 (by decide) ?_
    refine cs_cS0 (As := [.int (nI b), .int (nI 0), .int (nI 3)]) (rest := []) hx hb hown htg hK hI hS hP hml hl.1 (mX5_checkArgument l D ct ad Ms kp nx sz B A tn p9 kd (nI b) (nI 0) (nI 3) (Int32.not_lt.mpr ((n_le (by omega) (by omega)).mpr (by omega))) (Int32.not_lt.mpr ((n_le (by omega) (by omega)).mpr (by omega)))) cw_X5_71 rfl rfl ⟨Nat.le_of_ble_eq_true rfl, Nat.le_of_ble_eq_true rfl⟩ (Nat.le_of_ble_eq_true rfl) dX5_breaker_3 ⟨Nat.le_refl _, Nat.le_refl _⟩ (fun H locs hP hS => ?_)
    refine lv_iload_n hx hb dX5_breaker_6 rfl (lv_at hl 2 rfl) ?_
    refine lv_iconst (v := nI 0) hx hb dX5_breaker_7 (by decide) ?_
    refine lv_bipush (v := nI 6) hx hb dX5_breaker_8 (by decide) ?_
    refine cs_cS0 (As := [.int (nI 6), .int (nI 0), .int (nI 6)]) (rest := []) hx hb hown htg hK hI hS hP hml hl.1 (mX5_checkArgument l D ct ad Ms kp nx sz B A tn p9 kd (nI 6) (nI 0) (nI 6) (by decide) (by decide)) cw_X5_71 rfl rfl ⟨Nat.le_of_ble_eq_true rfl, Nat.le_of_ble_eq_true rfl⟩ (Nat.le_of_ble_eq_true rfl) dX5_breaker_10 ⟨Nat.le_refl _, Nat.le_refl _⟩ (fun H locs hP hS => ?_)
    refine lv_aload_n hx hb dX5_breaker_13 rfl (lv_at hl 0 rfl) ?_
    refine cs_g0 hx hb hown htg hK hP fl_X5_10 dX5_breaker_14 ?_
    refine cs_m2 (i := 0) (M := Ms 0) hx hb hown htg hK hP (by omega) (by first | rfl | (simp (disch := omega) only [vup_s, va_up_ne]; done)) fl_X5_101 dX5_breaker_17 ?_
    refine lv_iload_n hx hb dX5_breaker_20 rfl (lv_at hl 1 rfl) ?_
    refine cs_aMb (i := 0) (M := Ms 0) hx hb hK hP (by omega) (by first | rfl | (simp (disch := omega) only [vup_s, va_up_ne]; done)) (by omega) dX5_breaker_21 ?_
    refine lv_astore_n (lv' := [(3, .ref (ad (8 + 19 * 0 + (15 + b)))), (0, .ref (ad 0)), (1, .int (nI b)), (2, .int (nI 6))]) hx hb dX5_breaker_22 rfl hl (by decide) rfl (fun ls hl => ?_)
    refine lv_iload_n hx hb dX5_breaker_23 rfl (lv_at hl 3 rfl) ?_
    refine lv_tableOut (tgt := 110) hx hb dX5_breaker_24 (by decide) (by decide) ?_
    refine lv_aload_n hx hb dX5_breaker_110 rfl (lv_at hl 0 rfl) ?_
    refine cs_b4 (k := b) (i := 0) (M := Ms 0) hx hb hown htg hK hP (by omega) (by first | rfl | (simp (disch := omega) only [vup_s, va_up_ne]; done)) (by omega) fl_X5_225 dX5_breaker_111 ?_
    refine fr_iret hx hb hr hlocks hK hI hS rfl dX5_breaker_114 ?_ ?_
    · first | rfl | (have h9 : Ms 0 (7 + 5 * b + 1) = 1 := (hbw.2.1 b (by omega)).resolve_left c73; show _ = Ms 0 (7 + 5 * b + 1); rw [h9]; rfl) | (show _ = Ms 0 (7 + 5 * b + 1); rw [c73]; rfl)
    · exact hP
set_option maxRecDepth 100000 in
set_option maxHeartbeats 4000000 in
theorem mX5_socket (l : Launch) (D : va_G) (ct : Nat → ClassId) (ad : Nat → Nat) (Ms : Nat → Nat → Int32) (kp : Nat → Int32) (nx sz : Nat) (B A : Nat → Int32) (tn p9 : Nat) (kd : Int32) (q : Nat) (w : Nat) (n : Nat)  (hw : mW (Ms 0) n) (hq12 : q < 12) (hw2 : w < 2) : FMet l yX5_socket cX5_socket 3 (some .int) 1 22 D ct 198 ad [.ref (ad 0), .int (nI q), .int (nI w)] (csc ct ad Ms kp (nI nx) (nI sz) B A (nI tn) (nI p9) kd) (some (.int (if w = 0 then cBrk (Ms 0) (nI q) else cAt (Ms 0) (nI q) n 11 0))) (csc ct ad Ms kp (nI nx) (nI sz) B A (nI tn) (nI p9) kd) := by
  refine FMet.of (by decide +kernel) (Nat.le_of_ble_eq_true rfl) ?_
  intro p e s m args below meth c ls hx hb hr hml hown hlocks htg hK hI hP hS hl
  have hl : lv_has ls 3 [(0, .ref (ad 0)), (1, .int (nI q)), (2, .int (nI w))] := hl
  have hn10 := hw.2
  rcases (show w = 0 ∨ w = 1 from by omega) with rfl | rfl
  · refine lv_iload_n hx hb dX5_socket_0 rfl (lv_at hl 1 rfl) ?_
    refine lv_iconst (v := nI 0) hx hb dX5_socket_1 (by decide) ?_
    refine lv_bipush (v := nI 11) hx hb dX5_socket_2 (by decide) ?_
    refine cs_cS0 (As := [.int (nI q), .int (nI 0), .int (nI 11)]) (rest := []) hx hb hown htg hK hI hS hP hml hl.1 (mX5_checkArgument l D ct ad Ms kp nx sz B A tn p9 kd (nI q) (nI 0) (nI 11) (Int32.not_lt.mpr ((n_le (by omega) (by omega)).mpr (by omega))) (Int32.not_lt.mpr ((n_le (by omega) (by omega)).mpr (by omega)))) cw_X5_71 rfl rfl ⟨Nat.le_of_ble_eq_true rfl, Nat.le_of_ble_eq_true rfl⟩ (Nat.le_of_ble_eq_true rfl) dX5_socket_4 ⟨Nat.le_refl _, Nat.le_refl _⟩ (fun H locs hP hS => ?_)
    refine lv_iload_n hx hb dX5_socket_7 rfl (lv_at hl 2 rfl) ?_
    refine lv_iconst (v := nI 0) hx hb dX5_socket_8 (by decide) ?_
    refine lv_iconst (v := nI 1) hx hb dX5_socket_9 (by decide) ?_
    refine cs_cS0 (As := [.int (nI 0), .int (nI 0), .int (nI 1)]) (rest := []) hx hb hown htg hK hI hS hP hml hl.1 (mX5_checkArgument l D ct ad Ms kp nx sz B A tn p9 kd (nI 0) (nI 0) (nI 1) (by decide) (by decide)) cw_X5_71 rfl rfl ⟨Nat.le_of_ble_eq_true rfl, Nat.le_of_ble_eq_true rfl⟩ (Nat.le_of_ble_eq_true rfl) dX5_socket_10 ⟨Nat.le_refl _, Nat.le_refl _⟩ (fun H locs hP hS => ?_)
    refine lv_iload_n hx hb dX5_socket_13 rfl (lv_at hl 2 rfl) ?_
    refine lv_if_ne (tgt := 28) hx hb dX5_socket_14 (by decide) (fun h => absurd (by decide) h) (fun _ => ?_)
    refine lv_aload_n hx hb dX5_socket_17 rfl (lv_at hl 0 rfl) ?_
    refine cs_g0 hx hb hown htg hK hP fl_X5_10 dX5_socket_18 ?_
    refine lv_iload_n hx hb dX5_socket_21 rfl (lv_at hl 1 rfl) ?_
    refine cs_cmr (i := 0) (M := Ms 0) (M' := Ms 0) (As := [.int (nI q)]) (rest := []) hx hb hown htg hK hI hS hP hml hl.1 (by omega) (by first | rfl | (simp (disch := omega) only [vup_s, va_up_ne]; done)) (mX2_breakerOf l D ct (fun z => ad (8 + 19 * 0 + z)) (Ms 0) (nI q)) cw_X5_124 rfl rfl ⟨Nat.le_of_ble_eq_true rfl, Nat.le_of_ble_eq_true rfl⟩ (Nat.le_of_ble_eq_true rfl) dX5_socket_22 ⟨Nat.le_refl _, Nat.le_refl _⟩ (fun H locs hP hS => ?_)
    have hP := fP.eqc (congrArg (fun v9 => csc ct ad v9 kp (nI nx) (nI sz) B A (nI tn) (nI p9) kd) (show (va_up Ms 0 (Ms 0)) = Ms from by first | exact vup_id _ _ (by first | rfl | (simp (disch := omega) only [vup_s, va_up_ne]; done)))) hP
    refine lv_goto (tgt := 36) hx hb dX5_socket_25 (by decide) ?_
    refine fr_iret hx hb hr hlocks hK hI hS rfl dX5_socket_36 ?_ ?_
    · rfl
    · exact hP
  · refine lv_iload_n hx hb dX5_socket_0 rfl (lv_at hl 1 rfl) ?_
    refine lv_iconst (v := nI 0) hx hb dX5_socket_1 (by decide) ?_
    refine lv_bipush (v := nI 11) hx hb dX5_socket_2 (by decide) ?_
    refine cs_cS0 (As := [.int (nI q), .int (nI 0), .int (nI 11)]) (rest := []) hx hb hown htg hK hI hS hP hml hl.1 (mX5_checkArgument l D ct ad Ms kp nx sz B A tn p9 kd (nI q) (nI 0) (nI 11) (Int32.not_lt.mpr ((n_le (by omega) (by omega)).mpr (by omega))) (Int32.not_lt.mpr ((n_le (by omega) (by omega)).mpr (by omega)))) cw_X5_71 rfl rfl ⟨Nat.le_of_ble_eq_true rfl, Nat.le_of_ble_eq_true rfl⟩ (Nat.le_of_ble_eq_true rfl) dX5_socket_4 ⟨Nat.le_refl _, Nat.le_refl _⟩ (fun H locs hP hS => ?_)
    refine lv_iload_n hx hb dX5_socket_7 rfl (lv_at hl 2 rfl) ?_
    refine lv_iconst (v := nI 0) hx hb dX5_socket_8 (by decide) ?_
    refine lv_iconst (v := nI 1) hx hb dX5_socket_9 (by decide) ?_
    refine cs_cS0 (As := [.int (nI 1), .int (nI 0), .int (nI 1)]) (rest := []) hx hb hown htg hK hI hS hP hml hl.1 (mX5_checkArgument l D ct ad Ms kp nx sz B A tn p9 kd (nI 1) (nI 0) (nI 1) (by decide) (by decide)) cw_X5_71 rfl rfl ⟨Nat.le_of_ble_eq_true rfl, Nat.le_of_ble_eq_true rfl⟩ (Nat.le_of_ble_eq_true rfl) dX5_socket_10 ⟨Nat.le_refl _, Nat.le_refl _⟩ (fun H locs hP hS => ?_)
    refine lv_iload_n hx hb dX5_socket_13 rfl (lv_at hl 2 rfl) ?_
    refine lv_if_ne (tgt := 28) hx hb dX5_socket_14 (by decide) (fun _ => ?_) (fun h => absurd h (by decide))
    refine lv_aload_n hx hb dX5_socket_28 rfl (lv_at hl 0 rfl) ?_
    refine cs_g0 hx hb hown htg hK hP fl_X5_10 dX5_socket_29 ?_
    refine lv_iload_n hx hb dX5_socket_32 rfl (lv_at hl 1 rfl) ?_
    refine cs_cmr (i := 0) (M := Ms 0) (M' := Ms 0) (As := [.int (nI q)]) (rest := []) hx hb hown htg hK hI hS hP hml hl.1 (by omega) (by first | rfl | (simp (disch := omega) only [vup_s, va_up_ne]; done)) (mX2_stallAt l D ct (fun z => ad (8 + 19 * 0 + z)) (Ms 0) (nI q) n hw) cw_X5_75 rfl rfl ⟨Nat.le_of_ble_eq_true rfl, Nat.le_of_ble_eq_true rfl⟩ (Nat.le_of_ble_eq_true rfl) dX5_socket_33 ⟨Nat.le_refl _, Nat.le_refl _⟩ (fun H locs hP hS => ?_)
    have hP := fP.eqc (congrArg (fun v9 => csc ct ad v9 kp (nI nx) (nI sz) B A (nI tn) (nI p9) kd) (show (va_up Ms 0 (Ms 0)) = Ms from by first | exact vup_id _ _ (by first | rfl | (simp (disch := omega) only [vup_s, va_up_ne]; done)))) hP
    refine fr_iret hx hb hr hlocks hK hI hS rfl dX5_socket_36 ?_ ?_
    · rfl
    · exact hP
set_option maxRecDepth 100000 in
set_option maxHeartbeats 4000000 in
theorem mX5_setting (l : Launch) (D : va_G) (ct : Nat → ClassId) (ad : Nat → Nat) (Ms : Nat → Nat → Int32) (kp : Nat → Int32) (nx sz : Nat) (B A : Nat → Int32) (tn p9 : Nat) (kd : Int32) (w : Nat)   (hw3 : w < 3) : FMet l yX5_setting cX5_setting 2 (some .int) 1 20 D ct 198 ad [.ref (ad 0), .int (nI w)] (csc ct ad Ms kp (nI nx) (nI sz) B A (nI tn) (nI p9) kd) (some (.int (Ms 0 (0 + w)))) (csc ct ad Ms kp (nI nx) (nI sz) B A (nI tn) (nI p9) kd) := by
  refine FMet.of (by decide +kernel) (Nat.le_of_ble_eq_true rfl) ?_
  intro p e s m args below meth c ls hx hb hr hml hown hlocks htg hK hI hP hS hl
  have hl : lv_has ls 2 [(0, .ref (ad 0)), (1, .int (nI w))] := hl
  refine lv_iload_n hx hb dX5_setting_0 rfl (lv_at hl 1 rfl) ?_
  refine cs_cS0 (As := [.int (nI w)]) (rest := []) hx hb hown htg hK hI hS hP hml hl.1 (mX5_checkSetting l D ct ad Ms kp nx sz B A tn p9 kd (nI w) (Int32.not_lt.mpr ((n_le (a := 0) (by omega) (by omega)).mpr (by omega))) ((n_lt (by omega) (by omega)).mpr hw3)) cw_X5_140 rfl rfl ⟨Nat.le_of_ble_eq_true rfl, Nat.le_of_ble_eq_true rfl⟩ (Nat.le_of_ble_eq_true rfl) dX5_setting_1 ⟨Nat.le_refl _, Nat.le_refl _⟩ (fun H locs hP hS => ?_)
  refine lv_aload_n hx hb dX5_setting_4 rfl (lv_at hl 0 rfl) ?_
  refine cs_g0 hx hb hown htg hK hP fl_X5_10 dX5_setting_5 ?_
  refine cs_m4 (i := 0) (M := Ms 0) hx hb hown htg hK hP (by omega) (by first | rfl | (simp (disch := omega) only [vup_s, va_up_ne]; done)) fl_X5_150 dX5_setting_8 ?_
  refine lv_iload_n hx hb dX5_setting_11 rfl (lv_at hl 1 rfl) ?_
  refine cs_lMt (i := 0) (M := Ms 0) hx hb hK hP (by omega) (by first | rfl | (simp (disch := omega) only [vup_s, va_up_ne]; done)) (by omega) dX5_setting_12 ?_
  refine fr_iret hx hb hr hlocks hK hI hS rfl dX5_setting_13 ?_ ?_
  · rfl
  · exact hP
set_option maxRecDepth 100000 in
set_option maxHeartbeats 4000000 in
theorem mX5_ifPlugged (l : Launch) (D : va_G) (ct : Nat → ClassId) (ad : Nat → Nat) (Ms : Nat → Nat → Int32) (kp : Nat → Int32) (nx sz : Nat) (B A : Nat → Int32) (tn p9 : Nat) (kd : Int32) (k : Nat) (q : Nat) (tm : Nat) (w : Nat) (n : Nat)  (hw : mW (Ms 0) n) (hbw : bW (Ms 0) n) (hkn : k < n) (hq12 : q < 12) (ht1 : 1 ≤ tm) (ht48 : tm ≤ 48) (hw3 : w < 3) : FMet l yX5_ifPlugged cX5_ifPlugged 5 (some .int) 6 131 D ct 198 ad [.ref (ad 0), .int (nI k), .int (nI q), .int (nI tm), .int (nI w)] (csc ct ad Ms kp (nI nx) (nI sz) B A (nI tn) (nI p9) kd) (some (.int (cIfR Ms n k (nI q) tm w))) (csc ct ad (if cTk (Ms 0) n (nI k) (nI q) = true then Ms else va_up Ms 1 (cIfM Ms n k (nI q) tm)) kp (nI nx) (nI sz) B A (nI tn) (nI p9) kd) := by
  refine FMet.of (by decide +kernel) (Nat.le_of_ble_eq_true rfl) ?_
  intro p e s m args below meth c ls hx hb hr hml hown hlocks htg hK hI hP hS hl
  have hl : lv_has ls 5 [(0, .ref (ad 0)), (1, .int (nI k)), (2, .int (nI q)), (3, .int (nI tm)), (4, .int (nI w))] := hl
  have hn10 := hw.2
  rcases (show w = 0 ∨ w = 1 ∨ w = 2 from by omega) with rfl | rfl | rfl
  · refine lv_aload_n hx hb dX5_ifPlugged_0 rfl (lv_at hl 0 rfl) ?_
    refine lv_iload_n hx hb dX5_ifPlugged_1 rfl (lv_at hl 1 rfl) ?_
    refine cs_co0 (As := [.int (nI k)]) (rest := []) hx hb hown htg hK hI hS hP hml hl.1 (mX5_checkStall l D ct ad Ms kp nx sz B A tn p9 kd k n hw (by omega)) cw_X5_67 rfl rfl ⟨Nat.le_of_ble_eq_true rfl, Nat.le_of_ble_eq_true rfl⟩ (Nat.le_of_ble_eq_true rfl) dX5_ifPlugged_2 ⟨Nat.le_refl _, Nat.le_refl _⟩ (fun H locs hP hS => ?_)
    refine lv_iload_n hx hb dX5_ifPlugged_5 rfl (lv_at hl 2 rfl) ?_
    refine lv_iconst (v := nI 0) hx hb dX5_ifPlugged_6 (by decide) ?_
    refine lv_bipush (v := nI 11) hx hb dX5_ifPlugged_7 (by decide) ?_
    refine cs_cS0 (As := [.int (nI q), .int (nI 0), .int (nI 11)]) (rest := []) hx hb hown htg hK hI hS hP hml hl.1 (mX5_checkArgument l D ct ad Ms kp nx sz B A tn p9 kd (nI q) (nI 0) (nI 11) (Int32.not_lt.mpr ((n_le (by omega) (by omega)).mpr (by omega))) (Int32.not_lt.mpr ((n_le (by omega) (by omega)).mpr (by omega)))) cw_X5_71 rfl rfl ⟨Nat.le_of_ble_eq_true rfl, Nat.le_of_ble_eq_true rfl⟩ (Nat.le_of_ble_eq_true rfl) dX5_ifPlugged_9 ⟨Nat.le_refl _, Nat.le_refl _⟩ (fun H locs hP hS => ?_)
    refine lv_iload_n hx hb dX5_ifPlugged_12 rfl (lv_at hl 3 rfl) ?_
    refine lv_iconst (v := nI 1) hx hb dX5_ifPlugged_13 (by decide) ?_
    refine lv_bipush (v := nI 48) hx hb dX5_ifPlugged_14 (by decide) ?_
    refine cs_cS0 (As := [.int (nI tm), .int (nI 1), .int (nI 48)]) (rest := []) hx hb hown htg hK hI hS hP hml hl.1 (mX5_checkArgument l D ct ad Ms kp nx sz B A tn p9 kd (nI tm) (nI 1) (nI 48) (Int32.not_lt.mpr ((n_le (by omega) (by omega)).mpr (by omega))) (Int32.not_lt.mpr ((n_le (by omega) (by omega)).mpr (by omega)))) cw_X5_71 rfl rfl ⟨Nat.le_of_ble_eq_true rfl, Nat.le_of_ble_eq_true rfl⟩ (Nat.le_of_ble_eq_true rfl) dX5_ifPlugged_16 ⟨Nat.le_refl _, Nat.le_refl _⟩ (fun H locs hP hS => ?_)
    refine lv_iload hx hb dX5_ifPlugged_19 (lv_at hl 4 rfl) ?_
    refine lv_iconst (v := nI 0) hx hb dX5_ifPlugged_21 (by decide) ?_
    refine lv_iconst (v := nI 2) hx hb dX5_ifPlugged_22 (by decide) ?_
    refine cs_cS0 (As := [.int (nI 0), .int (nI 0), .int (nI 2)]) (rest := []) hx hb hown htg hK hI hS hP hml hl.1 (mX5_checkArgument l D ct ad Ms kp nx sz B A tn p9 kd (nI 0) (nI 0) (nI 2) (by decide) (by decide)) cw_X5_71 rfl rfl ⟨Nat.le_of_ble_eq_true rfl, Nat.le_of_ble_eq_true rfl⟩ (Nat.le_of_ble_eq_true rfl) dX5_ifPlugged_23 ⟨Nat.le_refl _, Nat.le_refl _⟩ (fun H locs hP hS => ?_)
    refine lv_aload_n hx hb dX5_ifPlugged_26 rfl (lv_at hl 0 rfl) ?_
    refine lv_iload_n hx hb dX5_ifPlugged_27 rfl (lv_at hl 1 rfl) ?_
    refine lv_iload_n hx hb dX5_ifPlugged_28 rfl (lv_at hl 2 rfl) ?_
    refine cs_cor (As := [.int (nI k), .int (nI q)]) (rest := []) hx hb hown htg hK hI hS hP hml hl.1 (mX5_isTakenFor l D ct ad Ms kp nx sz B A tn p9 kd (nI k) (nI q) n hw) cw_X5_253 rfl rfl ⟨Nat.le_of_ble_eq_true rfl, Nat.le_of_ble_eq_true rfl⟩ (Nat.le_of_ble_eq_true rfl) dX5_ifPlugged_29 ⟨Nat.le_refl _, Nat.le_refl _⟩ (fun H locs hP hS => ?_)
    refine lv_ifeqB (tgt := 37) hx hb dX5_ifPlugged_32 (by decide) (fun c32 => ?_) (fun c32 => ?_)
    · refine lv_aload_n hx hb dX5_ifPlugged_37 rfl (lv_at hl 0 rfl) ?_
      refine lv_iload_n hx hb dX5_ifPlugged_38 rfl (lv_at hl 1 rfl) ?_
      refine lv_iload_n hx hb dX5_ifPlugged_39 rfl (lv_at hl 2 rfl) ?_
      refine lv_iload_n hx hb dX5_ifPlugged_40 rfl (lv_at hl 3 rfl) ?_
      refine cs_co0 (As := [.int (nI k), .int (nI q), .int (nI tm)]) (rest := []) hx hb hown htg hK hI hS hP hml hl.1 (mX5_tryAt l D ct ad Ms kp nx sz B A tn p9 kd k (nI q) tm n hw hbw (by omega) (by omega)) cw_X5_257 rfl rfl ⟨Nat.le_of_ble_eq_true rfl, Nat.le_of_ble_eq_true rfl⟩ (Nat.le_of_ble_eq_true rfl) dX5_ifPlugged_41 ⟨Nat.le_refl _, Nat.le_refl _⟩ (fun H locs hP hS => ?_)
      refine lv_iload hx hb dX5_ifPlugged_44 (lv_at hl 4 rfl) ?_
      refine lv_lookup (tgt := 72) hx hb dX5_ifPlugged_46 (by decide) rfl (by decide) ?_
      refine lv_aload_n hx hb dX5_ifPlugged_72 rfl (lv_at hl 0 rfl) ?_
      refine cs_g1 hx hb hown htg hK hP fl_X5_16 dX5_ifPlugged_73 ?_
      refine cs_cmr (i := 1) (M := cHs (upd (cCp (Ms 1) (Ms 0) n) (39 + 8 * k + 4) (nI q)) n tm) (M' := cHs (upd (cCp (Ms 1) (Ms 0) n) (39 + 8 * k + 4) (nI q)) n tm) (As := []) (rest := []) hx hb hown htg hK hI hS hP hml hl.1 (by omega) (by first | rfl | (simp (disch := omega) only [vup_s, va_up_ne]; done)) (mX2_trips l D ct (fun z => ad (8 + 19 * 1 + z)) (cHs (upd (cCp (Ms 1) (Ms 0) n) (39 + 8 * k + 4) (nI q)) n tm) ) cw_X5_133 rfl rfl ⟨Nat.le_of_ble_eq_true rfl, Nat.le_of_ble_eq_true rfl⟩ (Nat.le_of_ble_eq_true rfl) dX5_ifPlugged_76 ⟨Nat.le_refl _, Nat.le_refl _⟩ (fun H locs hP hS => ?_)
      have hP := fP.eqc (congrArg (fun v9 => csc ct ad v9 kp (nI nx) (nI sz) B A (nI tn) (nI p9) kd) (show (va_up (va_up Ms 1 (cHs (upd (cCp (Ms 1) (Ms 0) n) (39 + 8 * k + 4) (nI q)) n tm)) 1 (cHs (upd (cCp (Ms 1) (Ms 0) n) (39 + 8 * k + 4) (nI q)) n tm)) = (va_up Ms 1 (cHs (upd (cCp (Ms 1) (Ms 0) n) (39 + 8 * k + 4) (nI q)) n tm)) from by first | exact vup_id _ _ (by first | rfl | (simp (disch := omega) only [vup_s, va_up_ne]; done)))) hP
      refine lv_aload_n hx hb dX5_ifPlugged_79 rfl (lv_at hl 0 rfl) ?_
      refine cs_g0 hx hb hown htg hK hP fl_X5_10 dX5_ifPlugged_80 ?_
      refine cs_cmr (i := 0) (M := Ms 0) (M' := Ms 0) (As := []) (rest := [.int (cSb (cHs (upd (cCp (Ms 1) (Ms 0) n) (39 + 8 * k + 4) (nI q)) n tm) 3 4)]) hx hb hown htg hK hI hS hP hml hl.1 (by omega) (by first | rfl | (simp (disch := omega) only [vup_s, va_up_ne]; done)) (mX2_trips l D ct (fun z => ad (8 + 19 * 0 + z)) (Ms 0) ) cw_X5_133 rfl rfl ⟨Nat.le_of_ble_eq_true rfl, Nat.le_of_ble_eq_true rfl⟩ (Nat.le_of_ble_eq_true rfl) dX5_ifPlugged_83 ⟨Nat.le_refl _, Nat.le_refl _⟩ (fun H locs hP hS => ?_)
      have hP := fP.eqc (congrArg (fun v9 => csc ct ad v9 kp (nI nx) (nI sz) B A (nI tn) (nI p9) kd) (show (va_up (va_up Ms 1 (cHs (upd (cCp (Ms 1) (Ms 0) n) (39 + 8 * k + 4) (nI q)) n tm)) 0 (Ms 0)) = (va_up Ms 1 (cHs (upd (cCp (Ms 1) (Ms 0) n) (39 + 8 * k + 4) (nI q)) n tm)) from by first | exact vup_id _ _ (by first | rfl | (simp (disch := omega) only [vup_s, va_up_ne]; done)))) hP
      refine lv_isub hx hb dX5_ifPlugged_86 ?_
      refine fr_iret hx hb hr hlocks hK hI hS rfl dX5_ifPlugged_87 ?_ ?_
      · first | (simp only [cIfR, c32, if_true]; done) | (simp only [cIfR, c32, if_true, if_false, Bool.false_eq_true]; rfl)
      · refine fP.eqc (congrArg (fun v9 => csc ct ad v9 kp (nI nx) (nI sz) B A (nI tn) (nI p9) kd) (show (if cTk (Ms 0) n (nI k) (nI q) = true then Ms else va_up Ms 1 (cIfM Ms n k (nI q) tm)) = (va_up Ms 1 (cHs (upd (cCp (Ms 1) (Ms 0) n) (39 + 8 * k + 4) (nI q)) n tm)) from by first | (rw [if_pos c32]; done) | (rw [if_neg (by rw [c32]; exact Bool.false_ne_true)]; rfl)).symm) ?_
        exact hP
    · refine lv_iconst (v := -1) hx hb dX5_ifPlugged_35 (by decide) ?_
      refine fr_iret hx hb hr hlocks hK hI hS rfl dX5_ifPlugged_36 ?_ ?_
      · first | (simp only [cIfR, c32, if_true]; done) | (simp only [cIfR, c32, if_true, if_false, Bool.false_eq_true]; rfl)
      · refine fP.eqc (congrArg (fun v9 => csc ct ad v9 kp (nI nx) (nI sz) B A (nI tn) (nI p9) kd) (show (if cTk (Ms 0) n (nI k) (nI q) = true then Ms else va_up Ms 1 (cIfM Ms n k (nI q) tm)) = Ms from by first | (rw [if_pos c32]; done) | (rw [if_neg (by rw [c32]; exact Bool.false_ne_true)]; rfl)).symm) ?_
        exact hP
  · refine lv_aload_n hx hb dX5_ifPlugged_0 rfl (lv_at hl 0 rfl) ?_
    refine lv_iload_n hx hb dX5_ifPlugged_1 rfl (lv_at hl 1 rfl) ?_
    refine cs_co0 (As := [.int (nI k)]) (rest := []) hx hb hown htg hK hI hS hP hml hl.1 (mX5_checkStall l D ct ad Ms kp nx sz B A tn p9 kd k n hw (by omega)) cw_X5_67 rfl rfl ⟨Nat.le_of_ble_eq_true rfl, Nat.le_of_ble_eq_true rfl⟩ (Nat.le_of_ble_eq_true rfl) dX5_ifPlugged_2 ⟨Nat.le_refl _, Nat.le_refl _⟩ (fun H locs hP hS => ?_)
    refine lv_iload_n hx hb dX5_ifPlugged_5 rfl (lv_at hl 2 rfl) ?_
    refine lv_iconst (v := nI 0) hx hb dX5_ifPlugged_6 (by decide) ?_
    refine lv_bipush (v := nI 11) hx hb dX5_ifPlugged_7 (by decide) ?_
    refine cs_cS0 (As := [.int (nI q), .int (nI 0), .int (nI 11)]) (rest := []) hx hb hown htg hK hI hS hP hml hl.1 (mX5_checkArgument l D ct ad Ms kp nx sz B A tn p9 kd (nI q) (nI 0) (nI 11) (Int32.not_lt.mpr ((n_le (by omega) (by omega)).mpr (by omega))) (Int32.not_lt.mpr ((n_le (by omega) (by omega)).mpr (by omega)))) cw_X5_71 rfl rfl ⟨Nat.le_of_ble_eq_true rfl, Nat.le_of_ble_eq_true rfl⟩ (Nat.le_of_ble_eq_true rfl) dX5_ifPlugged_9 ⟨Nat.le_refl _, Nat.le_refl _⟩ (fun H locs hP hS => ?_)
    refine lv_iload_n hx hb dX5_ifPlugged_12 rfl (lv_at hl 3 rfl) ?_
    refine lv_iconst (v := nI 1) hx hb dX5_ifPlugged_13 (by decide) ?_
    refine lv_bipush (v := nI 48) hx hb dX5_ifPlugged_14 (by decide) ?_
    refine cs_cS0 (As := [.int (nI tm), .int (nI 1), .int (nI 48)]) (rest := []) hx hb hown htg hK hI hS hP hml hl.1 (mX5_checkArgument l D ct ad Ms kp nx sz B A tn p9 kd (nI tm) (nI 1) (nI 48) (Int32.not_lt.mpr ((n_le (by omega) (by omega)).mpr (by omega))) (Int32.not_lt.mpr ((n_le (by omega) (by omega)).mpr (by omega)))) cw_X5_71 rfl rfl ⟨Nat.le_of_ble_eq_true rfl, Nat.le_of_ble_eq_true rfl⟩ (Nat.le_of_ble_eq_true rfl) dX5_ifPlugged_16 ⟨Nat.le_refl _, Nat.le_refl _⟩ (fun H locs hP hS => ?_)
    refine lv_iload hx hb dX5_ifPlugged_19 (lv_at hl 4 rfl) ?_
    refine lv_iconst (v := nI 0) hx hb dX5_ifPlugged_21 (by decide) ?_
    refine lv_iconst (v := nI 2) hx hb dX5_ifPlugged_22 (by decide) ?_
    refine cs_cS0 (As := [.int (nI 1), .int (nI 0), .int (nI 2)]) (rest := []) hx hb hown htg hK hI hS hP hml hl.1 (mX5_checkArgument l D ct ad Ms kp nx sz B A tn p9 kd (nI 1) (nI 0) (nI 2) (by decide) (by decide)) cw_X5_71 rfl rfl ⟨Nat.le_of_ble_eq_true rfl, Nat.le_of_ble_eq_true rfl⟩ (Nat.le_of_ble_eq_true rfl) dX5_ifPlugged_23 ⟨Nat.le_refl _, Nat.le_refl _⟩ (fun H locs hP hS => ?_)
    refine lv_aload_n hx hb dX5_ifPlugged_26 rfl (lv_at hl 0 rfl) ?_
    refine lv_iload_n hx hb dX5_ifPlugged_27 rfl (lv_at hl 1 rfl) ?_
    refine lv_iload_n hx hb dX5_ifPlugged_28 rfl (lv_at hl 2 rfl) ?_
    refine cs_cor (As := [.int (nI k), .int (nI q)]) (rest := []) hx hb hown htg hK hI hS hP hml hl.1 (mX5_isTakenFor l D ct ad Ms kp nx sz B A tn p9 kd (nI k) (nI q) n hw) cw_X5_253 rfl rfl ⟨Nat.le_of_ble_eq_true rfl, Nat.le_of_ble_eq_true rfl⟩ (Nat.le_of_ble_eq_true rfl) dX5_ifPlugged_29 ⟨Nat.le_refl _, Nat.le_refl _⟩ (fun H locs hP hS => ?_)
    refine lv_ifeqB (tgt := 37) hx hb dX5_ifPlugged_32 (by decide) (fun c32 => ?_) (fun c32 => ?_)
    · refine lv_aload_n hx hb dX5_ifPlugged_37 rfl (lv_at hl 0 rfl) ?_
      refine lv_iload_n hx hb dX5_ifPlugged_38 rfl (lv_at hl 1 rfl) ?_
      refine lv_iload_n hx hb dX5_ifPlugged_39 rfl (lv_at hl 2 rfl) ?_
      refine lv_iload_n hx hb dX5_ifPlugged_40 rfl (lv_at hl 3 rfl) ?_
      refine cs_co0 (As := [.int (nI k), .int (nI q), .int (nI tm)]) (rest := []) hx hb hown htg hK hI hS hP hml hl.1 (mX5_tryAt l D ct ad Ms kp nx sz B A tn p9 kd k (nI q) tm n hw hbw (by omega) (by omega)) cw_X5_257 rfl rfl ⟨Nat.le_of_ble_eq_true rfl, Nat.le_of_ble_eq_true rfl⟩ (Nat.le_of_ble_eq_true rfl) dX5_ifPlugged_41 ⟨Nat.le_refl _, Nat.le_refl _⟩ (fun H locs hP hS => ?_)
      refine lv_iload hx hb dX5_ifPlugged_44 (lv_at hl 4 rfl) ?_
      refine lv_lookup (tgt := 88) hx hb dX5_ifPlugged_46 (by decide) rfl (by decide) ?_
      refine lv_aload_n hx hb dX5_ifPlugged_88 rfl (lv_at hl 0 rfl) ?_
      refine cs_g1 hx hb hown htg hK hP fl_X5_16 dX5_ifPlugged_89 ?_
      refine cs_cmr (i := 1) (M := cHs (upd (cCp (Ms 1) (Ms 0) n) (39 + 8 * k + 4) (nI q)) n tm) (M' := cHs (upd (cCp (Ms 1) (Ms 0) n) (39 + 8 * k + 4) (nI q)) n tm) (As := []) (rest := []) hx hb hown htg hK hI hS hP hml hl.1 (by omega) (by first | rfl | (simp (disch := omega) only [vup_s, va_up_ne]; done)) (mX2_darkHours l D ct (fun z => ad (8 + 19 * 1 + z)) (cHs (upd (cCp (Ms 1) (Ms 0) n) (39 + 8 * k + 4) (nI q)) n tm) n (cHs_mW (mW_upd (cCp_mW hw) (by omega)) tm)) cw_X5_245 rfl rfl ⟨Nat.le_of_ble_eq_true rfl, Nat.le_of_ble_eq_true rfl⟩ (Nat.le_of_ble_eq_true rfl) dX5_ifPlugged_92 ⟨Nat.le_refl _, Nat.le_refl _⟩ (fun H locs hP hS => ?_)
      have hP := fP.eqc (congrArg (fun v9 => csc ct ad v9 kp (nI nx) (nI sz) B A (nI tn) (nI p9) kd) (show (va_up (va_up Ms 1 (cHs (upd (cCp (Ms 1) (Ms 0) n) (39 + 8 * k + 4) (nI q)) n tm)) 1 (cHs (upd (cCp (Ms 1) (Ms 0) n) (39 + 8 * k + 4) (nI q)) n tm)) = (va_up Ms 1 (cHs (upd (cCp (Ms 1) (Ms 0) n) (39 + 8 * k + 4) (nI q)) n tm)) from by first | exact vup_id _ _ (by first | rfl | (simp (disch := omega) only [vup_s, va_up_ne]; done)))) hP
      refine lv_aload_n hx hb dX5_ifPlugged_95 rfl (lv_at hl 0 rfl) ?_
      refine cs_g0 hx hb hown htg hK hP fl_X5_10 dX5_ifPlugged_96 ?_
      refine cs_cmr (i := 0) (M := Ms 0) (M' := Ms 0) (As := []) (rest := [.int (cSs (cHs (upd (cCp (Ms 1) (Ms 0) n) (39 + 8 * k + 4) (nI q)) n tm) 7 n)]) hx hb hown htg hK hI hS hP hml hl.1 (by omega) (by first | rfl | (simp (disch := omega) only [vup_s, va_up_ne]; done)) (mX2_darkHours l D ct (fun z => ad (8 + 19 * 0 + z)) (Ms 0) n hw) cw_X5_245 rfl rfl ⟨Nat.le_of_ble_eq_true rfl, Nat.le_of_ble_eq_true rfl⟩ (Nat.le_of_ble_eq_true rfl) dX5_ifPlugged_99 ⟨Nat.le_refl _, Nat.le_refl _⟩ (fun H locs hP hS => ?_)
      have hP := fP.eqc (congrArg (fun v9 => csc ct ad v9 kp (nI nx) (nI sz) B A (nI tn) (nI p9) kd) (show (va_up (va_up Ms 1 (cHs (upd (cCp (Ms 1) (Ms 0) n) (39 + 8 * k + 4) (nI q)) n tm)) 0 (Ms 0)) = (va_up Ms 1 (cHs (upd (cCp (Ms 1) (Ms 0) n) (39 + 8 * k + 4) (nI q)) n tm)) from by first | exact vup_id _ _ (by first | rfl | (simp (disch := omega) only [vup_s, va_up_ne]; done)))) hP
      refine lv_isub hx hb dX5_ifPlugged_102 ?_
      refine fr_iret hx hb hr hlocks hK hI hS rfl dX5_ifPlugged_103 ?_ ?_
      · first | (simp only [cIfR, c32, if_true]; done) | (simp only [cIfR, c32, if_true, if_false, Bool.false_eq_true]; rfl)
      · refine fP.eqc (congrArg (fun v9 => csc ct ad v9 kp (nI nx) (nI sz) B A (nI tn) (nI p9) kd) (show (if cTk (Ms 0) n (nI k) (nI q) = true then Ms else va_up Ms 1 (cIfM Ms n k (nI q) tm)) = (va_up Ms 1 (cHs (upd (cCp (Ms 1) (Ms 0) n) (39 + 8 * k + 4) (nI q)) n tm)) from by first | (rw [if_pos c32]; done) | (rw [if_neg (by rw [c32]; exact Bool.false_ne_true)]; rfl)).symm) ?_
        exact hP
    · refine lv_iconst (v := -1) hx hb dX5_ifPlugged_35 (by decide) ?_
      refine fr_iret hx hb hr hlocks hK hI hS rfl dX5_ifPlugged_36 ?_ ?_
      · first | (simp only [cIfR, c32, if_true]; done) | (simp only [cIfR, c32, if_true, if_false, Bool.false_eq_true]; rfl)
      · refine fP.eqc (congrArg (fun v9 => csc ct ad v9 kp (nI nx) (nI sz) B A (nI tn) (nI p9) kd) (show (if cTk (Ms 0) n (nI k) (nI q) = true then Ms else va_up Ms 1 (cIfM Ms n k (nI q) tm)) = Ms from by first | (rw [if_pos c32]; done) | (rw [if_neg (by rw [c32]; exact Bool.false_ne_true)]; rfl)).symm) ?_
        exact hP
  · refine lv_aload_n hx hb dX5_ifPlugged_0 rfl (lv_at hl 0 rfl) ?_
    refine lv_iload_n hx hb dX5_ifPlugged_1 rfl (lv_at hl 1 rfl) ?_
    refine cs_co0 (As := [.int (nI k)]) (rest := []) hx hb hown htg hK hI hS hP hml hl.1 (mX5_checkStall l D ct ad Ms kp nx sz B A tn p9 kd k n hw (by omega)) cw_X5_67 rfl rfl ⟨Nat.le_of_ble_eq_true rfl, Nat.le_of_ble_eq_true rfl⟩ (Nat.le_of_ble_eq_true rfl) dX5_ifPlugged_2 ⟨Nat.le_refl _, Nat.le_refl _⟩ (fun H locs hP hS => ?_)
    refine lv_iload_n hx hb dX5_ifPlugged_5 rfl (lv_at hl 2 rfl) ?_
    refine lv_iconst (v := nI 0) hx hb dX5_ifPlugged_6 (by decide) ?_
    refine lv_bipush (v := nI 11) hx hb dX5_ifPlugged_7 (by decide) ?_
    refine cs_cS0 (As := [.int (nI q), .int (nI 0), .int (nI 11)]) (rest := []) hx hb hown htg hK hI hS hP hml hl.1 (mX5_checkArgument l D ct ad Ms kp nx sz B A tn p9 kd (nI q) (nI 0) (nI 11) (Int32.not_lt.mpr ((n_le (by omega) (by omega)).mpr (by omega))) (Int32.not_lt.mpr ((n_le (by omega) (by omega)).mpr (by omega)))) cw_X5_71 rfl rfl ⟨Nat.le_of_ble_eq_true rfl, Nat.le_of_ble_eq_true rfl⟩ (Nat.le_of_ble_eq_true rfl) dX5_ifPlugged_9 ⟨Nat.le_refl _, Nat.le_refl _⟩ (fun H locs hP hS => ?_)
    refine lv_iload_n hx hb dX5_ifPlugged_12 rfl (lv_at hl 3 rfl) ?_
    refine lv_iconst (v := nI 1) hx hb dX5_ifPlugged_13 (by decide) ?_
    refine lv_bipush (v := nI 48) hx hb dX5_ifPlugged_14 (by decide) ?_
    refine cs_cS0 (As := [.int (nI tm), .int (nI 1), .int (nI 48)]) (rest := []) hx hb hown htg hK hI hS hP hml hl.1 (mX5_checkArgument l D ct ad Ms kp nx sz B A tn p9 kd (nI tm) (nI 1) (nI 48) (Int32.not_lt.mpr ((n_le (by omega) (by omega)).mpr (by omega))) (Int32.not_lt.mpr ((n_le (by omega) (by omega)).mpr (by omega)))) cw_X5_71 rfl rfl ⟨Nat.le_of_ble_eq_true rfl, Nat.le_of_ble_eq_true rfl⟩ (Nat.le_of_ble_eq_true rfl) dX5_ifPlugged_16 ⟨Nat.le_refl _, Nat.le_refl _⟩ (fun H locs hP hS => ?_)
    refine lv_iload hx hb dX5_ifPlugged_19 (lv_at hl 4 rfl) ?_
    refine lv_iconst (v := nI 0) hx hb dX5_ifPlugged_21 (by decide) ?_
    refine lv_iconst (v := nI 2) hx hb dX5_ifPlugged_22 (by decide) ?_
    refine cs_cS0 (As := [.int (nI 2), .int (nI 0), .int (nI 2)]) (rest := []) hx hb hown htg hK hI hS hP hml hl.1 (mX5_checkArgument l D ct ad Ms kp nx sz B A tn p9 kd (nI 2) (nI 0) (nI 2) (by decide) (by decide)) cw_X5_71 rfl rfl ⟨Nat.le_of_ble_eq_true rfl, Nat.le_of_ble_eq_true rfl⟩ (Nat.le_of_ble_eq_true rfl) dX5_ifPlugged_23 ⟨Nat.le_refl _, Nat.le_refl _⟩ (fun H locs hP hS => ?_)
    refine lv_aload_n hx hb dX5_ifPlugged_26 rfl (lv_at hl 0 rfl) ?_
    refine lv_iload_n hx hb dX5_ifPlugged_27 rfl (lv_at hl 1 rfl) ?_
    refine lv_iload_n hx hb dX5_ifPlugged_28 rfl (lv_at hl 2 rfl) ?_
    refine cs_cor (As := [.int (nI k), .int (nI q)]) (rest := []) hx hb hown htg hK hI hS hP hml hl.1 (mX5_isTakenFor l D ct ad Ms kp nx sz B A tn p9 kd (nI k) (nI q) n hw) cw_X5_253 rfl rfl ⟨Nat.le_of_ble_eq_true rfl, Nat.le_of_ble_eq_true rfl⟩ (Nat.le_of_ble_eq_true rfl) dX5_ifPlugged_29 ⟨Nat.le_refl _, Nat.le_refl _⟩ (fun H locs hP hS => ?_)
    refine lv_ifeqB (tgt := 37) hx hb dX5_ifPlugged_32 (by decide) (fun c32 => ?_) (fun c32 => ?_)
    · refine lv_aload_n hx hb dX5_ifPlugged_37 rfl (lv_at hl 0 rfl) ?_
      refine lv_iload_n hx hb dX5_ifPlugged_38 rfl (lv_at hl 1 rfl) ?_
      refine lv_iload_n hx hb dX5_ifPlugged_39 rfl (lv_at hl 2 rfl) ?_
      refine lv_iload_n hx hb dX5_ifPlugged_40 rfl (lv_at hl 3 rfl) ?_
      refine cs_co0 (As := [.int (nI k), .int (nI q), .int (nI tm)]) (rest := []) hx hb hown htg hK hI hS hP hml hl.1 (mX5_tryAt l D ct ad Ms kp nx sz B A tn p9 kd k (nI q) tm n hw hbw (by omega) (by omega)) cw_X5_257 rfl rfl ⟨Nat.le_of_ble_eq_true rfl, Nat.le_of_ble_eq_true rfl⟩ (Nat.le_of_ble_eq_true rfl) dX5_ifPlugged_41 ⟨Nat.le_refl _, Nat.le_refl _⟩ (fun H locs hP hS => ?_)
      refine lv_iload hx hb dX5_ifPlugged_44 (lv_at hl 4 rfl) ?_
      refine lv_lookup (tgt := 104) hx hb dX5_ifPlugged_46 (by decide) rfl (by decide) ?_
      refine lv_aload_n hx hb dX5_ifPlugged_104 rfl (lv_at hl 0 rfl) ?_
      refine cs_g1 hx hb hown htg hK hP fl_X5_16 dX5_ifPlugged_105 ?_
      refine cs_m0 (i := 1) (M := cHs (upd (cCp (Ms 1) (Ms 0) n) (39 + 8 * k + 4) (nI q)) n tm) hx hb hown htg hK hP (by omega) (by first | rfl | (simp (disch := omega) only [vup_s, va_up_ne]; done)) fl_X5_85 dX5_ifPlugged_108 ?_
      refine lv_iload_n hx hb dX5_ifPlugged_111 rfl (lv_at hl 1 rfl) ?_
      refine cs_aMs (i := 1) (M := cHs (upd (cCp (Ms 1) (Ms 0) n) (39 + 8 * k + 4) (nI q)) n tm) hx hb hK hP (by omega) (by first | rfl | (simp (disch := omega) only [vup_s, va_up_ne]; done)) (by omega) dX5_ifPlugged_112 ?_
      refine cs_s6 (k := k) (i := 1) (M := cHs (upd (cCp (Ms 1) (Ms 0) n) (39 + 8 * k + 4) (nI q)) n tm) hx hb hown htg hK hP (by omega) (by first | rfl | (simp (disch := omega) only [vup_s, va_up_ne]; done)) (by omega) fl_X5_201 dX5_ifPlugged_113 ?_
      refine lv_aload_n hx hb dX5_ifPlugged_116 rfl (lv_at hl 0 rfl) ?_
      refine cs_g0 hx hb hown htg hK hP fl_X5_10 dX5_ifPlugged_117 ?_
      refine cs_m0 (i := 0) (M := Ms 0) hx hb hown htg hK hP (by omega) (by first | rfl | (simp (disch := omega) only [vup_s, va_up_ne]; done)) fl_X5_85 dX5_ifPlugged_120 ?_
      refine lv_iload_n hx hb dX5_ifPlugged_123 rfl (lv_at hl 1 rfl) ?_
      refine cs_aMs (i := 0) (M := Ms 0) hx hb hK hP (by omega) (by first | rfl | (simp (disch := omega) only [vup_s, va_up_ne]; done)) (by omega) dX5_ifPlugged_124 ?_
      refine cs_s6 (k := k) (i := 0) (M := Ms 0) hx hb hown htg hK hP (by omega) (by first | rfl | (simp (disch := omega) only [vup_s, va_up_ne]; done)) (by omega) fl_X5_201 dX5_ifPlugged_125 ?_
      refine lv_isub hx hb dX5_ifPlugged_128 ?_
      refine fr_iret hx hb hr hlocks hK hI hS rfl dX5_ifPlugged_129 ?_ ?_
      · first | (simp only [cIfR, c32, if_true]; done) | (simp only [cIfR, c32, if_true, if_false, Bool.false_eq_true]; rfl)
      · refine fP.eqc (congrArg (fun v9 => csc ct ad v9 kp (nI nx) (nI sz) B A (nI tn) (nI p9) kd) (show (if cTk (Ms 0) n (nI k) (nI q) = true then Ms else va_up Ms 1 (cIfM Ms n k (nI q) tm)) = (va_up Ms 1 (cHs (upd (cCp (Ms 1) (Ms 0) n) (39 + 8 * k + 4) (nI q)) n tm)) from by first | (rw [if_pos c32]; done) | (rw [if_neg (by rw [c32]; exact Bool.false_ne_true)]; rfl)).symm) ?_
        exact hP
    · refine lv_iconst (v := -1) hx hb dX5_ifPlugged_35 (by decide) ?_
      refine fr_iret hx hb hr hlocks hK hI hS rfl dX5_ifPlugged_36 ?_ ?_
      · first | (simp only [cIfR, c32, if_true]; done) | (simp only [cIfR, c32, if_true, if_false, Bool.false_eq_true]; rfl)
      · refine fP.eqc (congrArg (fun v9 => csc ct ad v9 kp (nI nx) (nI sz) B A (nI tn) (nI p9) kd) (show (if cTk (Ms 0) n (nI k) (nI q) = true then Ms else va_up Ms 1 (cIfM Ms n k (nI q) tm)) = Ms from by first | (rw [if_pos c32]; done) | (rw [if_neg (by rw [c32]; exact Bool.false_ne_true)]; rfl)).symm) ?_
        exact hP
set_option maxRecDepth 100000 in
set_option maxHeartbeats 4000000 in
theorem mX5_tripsIn (l : Launch) (D : va_G) (ct : Nat → ClassId) (ad : Nat → Nat) (Ms : Nat → Nat → Int32) (kp : Nat → Int32) (nx sz : Nat) (B A : Nat → Int32) (tn p9 : Nat) (kd : Int32) (b : Nat) (n : Nat)  (hw : mW (Ms 0) n) (hbw : bW (Ms 0) n) (hb4 : b < 4) : FMet l yX5_tripsIn cX5_tripsIn 3 (some .int) 4 86 D ct 198 ad [.ref (ad 0), .int (nI b)] (csc ct ad Ms kp (nI nx) (nI sz) B A (nI tn) (nI p9) kd) (some (.int ((cTi (cCp (Ms 1) (Ms 0) n) n b 98 0).1))) (csc ct ad (va_up Ms 1 (cHs (cCp (Ms 1) (Ms 0) n) n (cTi (cCp (Ms 1) (Ms 0) n) n b 98 0).2)) kp (nI nx) (nI sz) B A (nI tn) (nI p9) kd) := by
  refine FMet.of (by decide +kernel) (Nat.le_of_ble_eq_true rfl) ?_
  intro p e s m args below meth c ls hx hb hr hml hown hlocks htg hK hI hP hS hl
  have hl : lv_has ls 3 [(0, .ref (ad 0)), (1, .int (nI b))] := hl
  have hn10 := hw.2
  refine lv_iload_n hx hb dX5_tripsIn_0 rfl (lv_at hl 1 rfl) ?_
  refine lv_iconst (v := nI 0) hx hb dX5_tripsIn_1 (by decide) ?_
  refine lv_iconst (v := nI 3) hx hb dX5_tripsIn_2 (by decide) ?_
  refine cs_cS0 (As := [.int (nI b), .int (nI 0), .int (nI 3)]) (rest := []) hx hb hown htg hK hI hS hP hml hl.1 (mX5_checkArgument l D ct ad Ms kp nx sz B A tn p9 kd (nI b) (nI 0) (nI 3) (Int32.not_lt.mpr ((n_le (by omega) (by omega)).mpr (by omega))) (Int32.not_lt.mpr ((n_le (by omega) (by omega)).mpr (by omega)))) cw_X5_71 rfl rfl ⟨Nat.le_of_ble_eq_true rfl, Nat.le_of_ble_eq_true rfl⟩ (Nat.le_of_ble_eq_true rfl) dX5_tripsIn_3 ⟨Nat.le_refl _, Nat.le_refl _⟩ (fun H locs hP hS => ?_)
  refine lv_aload_n hx hb dX5_tripsIn_6 rfl (lv_at hl 0 rfl) ?_
  refine cs_g1 hx hb hown htg hK hP fl_X5_16 dX5_tripsIn_7 ?_
  refine lv_aload_n hx hb dX5_tripsIn_10 rfl (lv_at hl 0 rfl) ?_
  refine cs_g0 hx hb hown htg hK hP fl_X5_10 dX5_tripsIn_11 ?_
  refine cs_cc (i := 1) (j := 0) (M := Ms 1) (P := Ms 0) (rest := []) hx hb hown htg hK hI hS hP hml hl.1 (by omega) (by omega) (by omega) (by first | rfl | (simp (disch := omega) only [vup_s, va_up_ne]; done)) (by first | rfl | (simp (disch := omega) only [vup_s, va_up_ne]; done)) (mX2_copyFrom l D ct (fun z => ad (cf2 1 0 z)) (Ms 1) (Ms 0) n hw hbw) cw_X5_173 ⟨Nat.le_of_ble_eq_true rfl, Nat.le_of_ble_eq_true rfl⟩ (Nat.le_of_ble_eq_true rfl) dX5_tripsIn_14 ⟨Nat.le_refl _, Nat.le_refl _⟩ (fun H locs hP hS => ?_)
  refine lv_iconst (v := nI 0) hx hb dX5_tripsIn_17 (by decide) ?_
  refine lv_istore_n (lv' := [(2, .int (nI 0)), (0, .ref (ad 0)), (1, .int (nI b))]) hx hb dX5_tripsIn_18 rfl hl (by decide) rfl (fun ls hl => ?_)
  have lp19 : ∀ (fu19 : Nat) (f : Nat) (i : Nat), f + i = 98 → i ≤ 97 → cTi (cCp (Ms 1) (Ms 0) n) n b f i = cTi (cCp (Ms 1) (Ms 0) n) n b 98 0 → f < fu19 → ∀ (H : Heap) (locs : List Loc), fP D 198 ad (csc ct ad (va_up Ms 1 (cHs (cCp (Ms 1) (Ms 0) n) n i)) kp (nI nx) (nI sz) B A (nI tn) (nI p9) kd) H → va_S (fA 198 ad) s.heap H locs → ∀ (ls : Array Slot), lv_has ls 3 [(2, .int (nI i)), (0, .ref (ad 0)), (1, .int (nI b))] → W p l e ({ frames := 4, cells := 0, slots := 0, locals := 86 }) s m args below meth c H locs 0 0 (MQ below (fQ D ct 198 ad (some (.int ((cTi (cCp (Ms 1) (Ms 0) n) n b 98 0).1))) (csc ct ad (va_up Ms 1 (cHs (cCp (Ms 1) (Ms 0) n) n (cTi (cCp (Ms 1) (Ms 0) n) n b 98 0).2)) kp (nI nx) (nI sz) B A (nI tn) (nI p9) kd)) args s 0 0 (fA 198 ad)) (F0 m 19 ls []) := by
    intro fu19
    induction fu19 with
    | zero => intro f i hfi hi hres hfu19; exact absurd hfu19 (Nat.not_lt_zero _)
    | succ fu19 ih19 =>
      intro f i hfi hi hres hfu19 H locs hP hS ls hl
      refine lv_iload_n hx hb dX5_tripsIn_19 rfl (lv_at hl 0 rfl) ?_
      refine lv_bipush (v := nI 96) hx hb dX5_tripsIn_20 (by decide) ?_
      refine lv_icmp_gtN (tgt := 55) hx hb (by omega) (by omega) dX5_tripsIn_22 (by decide) (fun c22 => ?_) (fun c22 => ?_)
      · have hW9 : cTi (cCp (Ms 1) (Ms 0) n) n b 98 0 = (-1, i) := hres.symm.trans (cTi_end c22)
        refine lv_iconst (v := -1) hx hb dX5_tripsIn_55 (by decide) ?_
        refine fr_iret hx hb hr hlocks hK hI hS rfl dX5_tripsIn_56 ?_ ?_
        · rw [hW9]
        · refine fP.eqc (congrArg (fun v9 => csc ct ad v9 kp (nI nx) (nI sz) B A (nI tn) (nI p9) kd) (show (va_up Ms 1 (cHs (cCp (Ms 1) (Ms 0) n) n (cTi (cCp (Ms 1) (Ms 0) n) n b 98 0).2)) = (va_up Ms 1 (cHs (cCp (Ms 1) (Ms 0) n) n i)) from by rw [hW9]).symm) ?_
          exact hP
      · refine lv_aload_n hx hb dX5_tripsIn_25 rfl (lv_at hl 1 rfl) ?_
        refine cs_g1 hx hb hown htg hK hP fl_X5_16 dX5_tripsIn_26 ?_
        refine cs_m2 (i := 1) (M := cHs (cCp (Ms 1) (Ms 0) n) n i) hx hb hown htg hK hP (by omega) (by first | rfl | (simp (disch := omega) only [vup_s, va_up_ne]; done)) fl_X5_101 dX5_tripsIn_29 ?_
        refine lv_iload_n hx hb dX5_tripsIn_32 rfl (lv_at hl 2 rfl) ?_
        refine cs_aMb (i := 1) (M := cHs (cCp (Ms 1) (Ms 0) n) n i) hx hb hK hP (by omega) (by first | rfl | (simp (disch := omega) only [vup_s, va_up_ne]; done)) (by omega) dX5_tripsIn_33 ?_
        refine cs_b1 (k := b) (i := 1) (M := cHs (cCp (Ms 1) (Ms 0) n) n i) hx hb hown htg hK hP (by omega) (by first | rfl | (simp (disch := omega) only [vup_s, va_up_ne]; done)) (by omega) fl_X5_110 dX5_tripsIn_34 ?_
        refine lv_if_ne (tgt := 42) hx hb dX5_tripsIn_37 (by decide) (fun c37 => ?_) (fun c37 => ?_)
        · refine lv_aload_n hx hb dX5_tripsIn_42 rfl (lv_at hl 1 rfl) ?_
          refine cs_g1 hx hb hown htg hK hP fl_X5_16 dX5_tripsIn_43 ?_
          refine cs_cm0 (i := 1) (M := cHs (cCp (Ms 1) (Ms 0) n) n i) (M' := cHr (cHs (cCp (Ms 1) (Ms 0) n) n i) n) (As := []) (rest := []) hx hb hown htg hK hI hS hP hml hl.1 (by omega) (by first | rfl | (simp (disch := omega) only [vup_s, va_up_ne]; done)) (mX2_goOneHour l D ct (fun z => ad (8 + 19 * 1 + z)) (cHs (cCp (Ms 1) (Ms 0) n) n i) n (cHs_mW (cCp_mW hw) i)) cw_X5_260 rfl rfl ⟨Nat.le_of_ble_eq_true rfl, Nat.le_of_ble_eq_true rfl⟩ (Nat.le_of_ble_eq_true rfl) dX5_tripsIn_46 ⟨Nat.le_refl _, Nat.le_refl _⟩ (fun H locs hP hS => ?_)
          refine lv_iinc (v := nI (i + 1)) (lv' := [(2, .int (nI (i + 1))), (0, .ref (ad 0)), (1, .int (nI b))]) hx hb dX5_tripsIn_49 hl (k := 0) rfl (nI_add i 1) (by decide) rfl (fun ls hl => ?_)
          refine lv_goto (tgt := 19) hx hb dX5_tripsIn_52 (by decide) ?_
          have hl := lv_sub (l' := [(2, .int (nI (i + 1))), (0, .ref (ad 0)), (1, .int (nI b))]) hl [0, 1, 2] rfl
          have hP := fP.eqc (congrArg (fun v9 => csc ct ad v9 kp (nI nx) (nI sz) B A (nI tn) (nI p9) kd) (show (va_up (va_up Ms 1 (cHs (cCp (Ms 1) (Ms 0) n) n i)) 1 (cHr (cHs (cCp (Ms 1) (Ms 0) n) n i) n)) = (va_up Ms 1 (cHs (cCp (Ms 1) (Ms 0) n) n (i + 1))) from by first | rfl | (simp only [va_up_up]; rfl))) hP
          exact ih19 (f - 1) (i + 1) (by omega) (by omega) ((cTi_go (by omega) c22 c37).symm.trans hres) (by omega) _ _ hP hS _ hl
        · have hW9 : cTi (cCp (Ms 1) (Ms 0) n) n b 98 0 = (nI i, i) := hres.symm.trans (cTi_hit (by omega) c22 c37)
          refine lv_iload_n hx hb dX5_tripsIn_40 rfl (lv_at hl 0 rfl) ?_
          refine fr_iret hx hb hr hlocks hK hI hS rfl dX5_tripsIn_41 ?_ ?_
          · rw [hW9]
          · refine fP.eqc (congrArg (fun v9 => csc ct ad v9 kp (nI nx) (nI sz) B A (nI tn) (nI p9) kd) (show (va_up Ms 1 (cHs (cCp (Ms 1) (Ms 0) n) n (cTi (cCp (Ms 1) (Ms 0) n) n b 98 0).2)) = (va_up Ms 1 (cHs (cCp (Ms 1) (Ms 0) n) n i)) from by rw [hW9]).symm) ?_
            exact hP
  have hl := lv_sub (l' := [(2, .int (nI 0)), (0, .ref (ad 0)), (1, .int (nI b))]) hl [0, 1, 2] rfl
  have hP := fP.eqc (congrArg (fun v9 => csc ct ad v9 kp (nI nx) (nI sz) B A (nI tn) (nI p9) kd) (show (va_up Ms 1 (cCp (Ms 1) (Ms 0) n)) = (va_up Ms 1 (cHs (cCp (Ms 1) (Ms 0) n) n 0)) from by first | rfl | (simp only [va_up_up]; rfl))) hP
  exact lp19 (98 + 1) 98 0 (rfl) (by omega) (rfl) (Nat.lt_succ_self _) _ _ hP hS _ hl

