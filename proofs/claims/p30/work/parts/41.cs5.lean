/-! THE CLASS: checks that pass, looks -/
def cCnt (M : Nat → Int32) (n sz w : Nat) : Int32 := if w = 0 then M 3 else if w = 1 then nI n else if w = 2 then nI (cPlg M n) else if w = 3 then nI (cDra M n 4) else if w = 4 then nI (cOns M 4) else if w = 5 then cSs M 6 n else if w = 6 then cSb M 4 4 else if w = 7 then cSb M 3 4 else if w = 8 then cSs M 7 n else if w = 9 then cFees M n else if w = 10 then M 5 else nI sz
def cSto (M : Nat → Int32) (k w : Nat) : Int32 := if w < 8 then M (39 + 8 * k + w) else if w = 8 then nI (cRsn M k) else cFee M k
def cBre (M : Nat → Int32) (n b w : Nat) : Int32 := if w = 3 then cLod M (nI b) n else if w = 4 then cLpl M (nI b) n else if w < 3 then M (7 + 5 * b + w) else M (7 + 5 * b + (w - 2))
def cTi (M : Nat → Int32) (n b : Nat) : Nat → Nat → Int32 × Nat
  | 0, i => (-1, i)
  | f + 1, i => if i ≤ 96 then (if cHs M n i (7 + 5 * b + 1) = 0 then (nI i, i) else cTi M n b f (i + 1)) else (-1, i)
set_option maxRecDepth 100000 in
set_option maxHeartbeats 4000000 in
theorem mX5_checkArgument (l : Launch) (D : va_G) (ct : Nat → ClassId) (ad : Nat → Nat) (Ms : Nat → Nat → Int32) (kp : Nat → Int32) (nx sz : Nat) (B A : Nat → Int32) (tn p9 : Nat) (kd : Int32) (v : Int32) (lo : Int32) (hi : Int32)   (hlo : ¬ v < lo) (hhi : ¬ hi < v) : FMet l yX5_checkArgument cX5_checkArgument 3 (none : Option Jvm.ClassFile.FieldType) 0 0 D ct 198 ad [.int (v), .int (lo), .int (hi)] (csc ct ad Ms kp (nI nx) (nI sz) B A (nI tn) (nI p9) kd) none (csc ct ad Ms kp (nI nx) (nI sz) B A (nI tn) (nI p9) kd) := by
  refine FMet.of (by decide +kernel) (Nat.le_of_ble_eq_true rfl) ?_
  intro p e s m args below meth c ls hx hb hr hml hown hlocks htg hK hI hP hS hl
  have hl : lv_has ls 3 [(0, .int (v)), (1, .int (lo)), (2, .int (hi))] := hl
  refine lv_iload_n hx hb dX5_checkArgument_0 rfl (lv_at hl 0 rfl) ?_
  refine lv_iload_n hx hb dX5_checkArgument_1 rfl (lv_at hl 1 rfl) ?_
  refine lv_icmp_ltR (tgt := 10) hx hb dX5_checkArgument_2 (by decide) (fun c2 => ?_) (fun c2 => ?_)
  · exact absurd c2 hlo
  · refine lv_iload_n hx hb dX5_checkArgument_5 rfl (lv_at hl 0 rfl) ?_
    refine lv_iload_n hx hb dX5_checkArgument_6 rfl (lv_at hl 2 rfl) ?_
    refine lv_icmp_leR (tgt := 21) hx hb dX5_checkArgument_7 (by decide) (fun c7 => ?_) (fun c7 => ?_)
    · refine fr_vret hx hb hr hlocks hK hI hS dX5_checkArgument_21 ?_
      exact hP
    · exact absurd c7 hhi
set_option maxRecDepth 100000 in
set_option maxHeartbeats 4000000 in
theorem mX5_checkSetting (l : Launch) (D : va_G) (ct : Nat → ClassId) (ad : Nat → Nat) (Ms : Nat → Nat → Int32) (kp : Nat → Int32) (nx sz : Nat) (B A : Nat → Int32) (tn p9 : Nat) (kd : Int32) (v : Int32)   (hlo : ¬ v < 0) (hhi : v < nI 3) : FMet l yX5_checkSetting cX5_checkSetting 1 (none : Option Jvm.ClassFile.FieldType) 0 0 D ct 198 ad [.int (v)] (csc ct ad Ms kp (nI nx) (nI sz) B A (nI tn) (nI p9) kd) none (csc ct ad Ms kp (nI nx) (nI sz) B A (nI tn) (nI p9) kd) := by
  refine FMet.of (by decide +kernel) (Nat.le_of_ble_eq_true rfl) ?_
  intro p e s m args below meth c ls hx hb hr hml hown hlocks htg hK hI hP hS hl
  have hl : lv_has ls 1 [(0, .int (v))] := hl
  refine lv_iload_n hx hb dX5_checkSetting_0 rfl (lv_at hl 0 rfl) ?_
  refine lv_ifltR (tgt := 9) hx hb dX5_checkSetting_1 (by decide) (fun c1 => ?_) (fun c1 => ?_)
  · exact absurd c1 hlo
  · refine lv_iload_n hx hb dX5_checkSetting_4 rfl (lv_at hl 0 rfl) ?_
    refine lv_iconst (v := nI 3) hx hb dX5_checkSetting_5 (by decide) ?_
    refine lv_icmp_ltR (tgt := 20) hx hb dX5_checkSetting_6 (by decide) (fun c6 => ?_) (fun c6 => ?_)
    · refine fr_vret hx hb hr hlocks hK hI hS dX5_checkSetting_20 ?_
      exact hP
    · exact absurd c6 (Int32.not_le.mpr hhi)
set_option maxRecDepth 100000 in
set_option maxHeartbeats 4000000 in
theorem mX5_checkStall (l : Launch) (D : va_G) (ct : Nat → ClassId) (ad : Nat → Nat) (Ms : Nat → Nat → Int32) (kp : Nat → Int32) (nx sz : Nat) (B A : Nat → Int32) (tn p9 : Nat) (kd : Int32) (k : Nat) (n : Nat)  (hw : mW (Ms 0) n) (hkn : k < n) : FMet l yX5_checkStall cX5_checkStall 2 (none : Option Jvm.ClassFile.FieldType) 0 0 D ct 198 ad [.ref (ad 0), .int (nI k)] (csc ct ad Ms kp (nI nx) (nI sz) B A (nI tn) (nI p9) kd) none (csc ct ad Ms kp (nI nx) (nI sz) B A (nI tn) (nI p9) kd) := by
  refine FMet.of (by decide +kernel) (Nat.le_of_ble_eq_true rfl) ?_
  intro p e s m args below meth c ls hx hb hr hml hown hlocks htg hK hI hP hS hl
  have hl : lv_has ls 2 [(0, .ref (ad 0)), (1, .int (nI k))] := hl
  have hn10 := hw.2
  refine lv_iload_n hx hb dX5_checkStall_0 rfl (lv_at hl 1 rfl) ?_
  refine lv_ifltN (tgt := 15) hx hb (by omega) dX5_checkStall_1 (by decide) ?_
  refine lv_iload_n hx hb dX5_checkStall_4 rfl (lv_at hl 1 rfl) ?_
  refine lv_aload_n hx hb dX5_checkStall_5 rfl (lv_at hl 0 rfl) ?_
  refine cs_g0 hx hb hown htg hK hP fl_X5_10 dX5_checkStall_6 ?_
  refine cs_m1 (i := 0) (M := Ms 0) hx hb hown htg hK hP (by omega) (by first | rfl | (simp (disch := omega) only [vup_s, va_up_ne]; done)) fl_X5_228 dX5_checkStall_9 ?_
  refine lv_teq (hw).1 ?_
  refine lv_icmp_ltN (tgt := 26) hx hb (by omega) (by omega) dX5_checkStall_12 (by decide) (fun c12 => ?_) (fun c12 => ?_)
  · refine fr_vret hx hb hr hlocks hK hI hS dX5_checkStall_26 ?_
    exact hP
  · omega
set_option maxRecDepth 100000 in
set_option maxHeartbeats 4000000 in
theorem mX5_count (l : Launch) (D : va_G) (ct : Nat → ClassId) (ad : Nat → Nat) (Ms : Nat → Nat → Int32) (kp : Nat → Int32) (nx sz : Nat) (B A : Nat → Int32) (tn p9 : Nat) (kd : Int32) (w : Nat) (n : Nat)  (hw : mW (Ms 0) n) (hw12 : w < 12) : FMet l yX5_count cX5_count 2 (some .int) 4 88 D ct 198 ad [.ref (ad 0), .int (nI w)] (csc ct ad Ms kp (nI nx) (nI sz) B A (nI tn) (nI p9) kd) (some (.int (cCnt (Ms 0) n sz w))) (csc ct ad Ms kp (nI nx) (nI sz) B A (nI tn) (nI p9) kd) := by
  refine FMet.of (by decide +kernel) (Nat.le_of_ble_eq_true rfl) ?_
  intro p e s m args below meth c ls hx hb hr hml hown hlocks htg hK hI hP hS hl
  have hl : lv_has ls 2 [(0, .ref (ad 0)), (1, .int (nI w))] := hl
  have hn10 := hw.2
  rcases (show w = 0 ∨ w = 1 ∨ w = 2 ∨ w = 3 ∨ w = 4 ∨ w = 5 ∨ w = 6 ∨ w = 7 ∨ w = 8 ∨ w = 9 ∨ w = 10 ∨ w = 11 from by omega) with rfl | rfl | rfl | rfl | rfl | rfl | rfl | rfl | rfl | rfl | rfl | rfl
  · refine lv_iload_n hx hb dX5_count_0 rfl (lv_at hl 1 rfl) ?_
    refine lv_iconst (v := nI 0) hx hb dX5_count_1 (by decide) ?_
    refine lv_bipush (v := nI 11) hx hb dX5_count_2 (by decide) ?_
    refine cs_cS0 (As := [.int (nI 0), .int (nI 0), .int (nI 11)]) (rest := []) hx hb hown htg hK hI hS hP hml hl.1 (mX5_checkArgument l D ct ad Ms kp nx sz B A tn p9 kd (nI 0) (nI 0) (nI 11) (by decide) (by decide)) cw_X5_71 rfl rfl ⟨Nat.le_of_ble_eq_true rfl, Nat.le_of_ble_eq_true rfl⟩ (Nat.le_of_ble_eq_true rfl) dX5_count_4 ⟨Nat.le_refl _, Nat.le_refl _⟩ (fun H locs hP hS => ?_)
    refine lv_iload_n hx hb dX5_count_7 rfl (lv_at hl 1 rfl) ?_
    refine lv_tableIn (tgt := 68) hx hb dX5_count_8 (by decide) (by decide) rfl (by decide) ?_
    refine lv_aload_n hx hb dX5_count_68 rfl (lv_at hl 0 rfl) ?_
    refine cs_g0 hx hb hown htg hK hP fl_X5_10 dX5_count_69 ?_
    refine cs_m5 (i := 0) (M := Ms 0) hx hb hown htg hK hP (by omega) (by first | rfl | (simp (disch := omega) only [vup_s, va_up_ne]; done)) fl_X5_176 dX5_count_72 ?_
    refine fr_iret hx hb hr hlocks hK hI hS rfl dX5_count_75 ?_ ?_
    · rfl
    · exact hP
  · refine lv_iload_n hx hb dX5_count_0 rfl (lv_at hl 1 rfl) ?_
    refine lv_iconst (v := nI 0) hx hb dX5_count_1 (by decide) ?_
    refine lv_bipush (v := nI 11) hx hb dX5_count_2 (by decide) ?_
    refine cs_cS0 (As := [.int (nI 1), .int (nI 0), .int (nI 11)]) (rest := []) hx hb hown htg hK hI hS hP hml hl.1 (mX5_checkArgument l D ct ad Ms kp nx sz B A tn p9 kd (nI 1) (nI 0) (nI 11) (by decide) (by decide)) cw_X5_71 rfl rfl ⟨Nat.le_of_ble_eq_true rfl, Nat.le_of_ble_eq_true rfl⟩ (Nat.le_of_ble_eq_true rfl) dX5_count_4 ⟨Nat.le_refl _, Nat.le_refl _⟩ (fun H locs hP hS => ?_)
    refine lv_iload_n hx hb dX5_count_7 rfl (lv_at hl 1 rfl) ?_
    refine lv_tableIn (tgt := 76) hx hb dX5_count_8 (by decide) (by decide) rfl (by decide) ?_
    refine lv_aload_n hx hb dX5_count_76 rfl (lv_at hl 0 rfl) ?_
    refine cs_g0 hx hb hown htg hK hP fl_X5_10 dX5_count_77 ?_
    refine cs_m1 (i := 0) (M := Ms 0) hx hb hown htg hK hP (by omega) (by first | rfl | (simp (disch := omega) only [vup_s, va_up_ne]; done)) fl_X5_228 dX5_count_80 ?_
    refine lv_teq (hw).1 ?_
    refine fr_iret hx hb hr hlocks hK hI hS rfl dX5_count_83 ?_ ?_
    · rfl
    · exact hP
  · refine lv_iload_n hx hb dX5_count_0 rfl (lv_at hl 1 rfl) ?_
    refine lv_iconst (v := nI 0) hx hb dX5_count_1 (by decide) ?_
    refine lv_bipush (v := nI 11) hx hb dX5_count_2 (by decide) ?_
    refine cs_cS0 (As := [.int (nI 2), .int (nI 0), .int (nI 11)]) (rest := []) hx hb hown htg hK hI hS hP hml hl.1 (mX5_checkArgument l D ct ad Ms kp nx sz B A tn p9 kd (nI 2) (nI 0) (nI 11) (by decide) (by decide)) cw_X5_71 rfl rfl ⟨Nat.le_of_ble_eq_true rfl, Nat.le_of_ble_eq_true rfl⟩ (Nat.le_of_ble_eq_true rfl) dX5_count_4 ⟨Nat.le_refl _, Nat.le_refl _⟩ (fun H locs hP hS => ?_)
    refine lv_iload_n hx hb dX5_count_7 rfl (lv_at hl 1 rfl) ?_
    refine lv_tableIn (tgt := 84) hx hb dX5_count_8 (by decide) (by decide) rfl (by decide) ?_
    refine lv_aload_n hx hb dX5_count_84 rfl (lv_at hl 0 rfl) ?_
    refine cs_g0 hx hb hown htg hK hP fl_X5_10 dX5_count_85 ?_
    refine cs_cmr (i := 0) (M := Ms 0) (M' := Ms 0) (As := []) (rest := []) hx hb hown htg hK hI hS hP hml hl.1 (by omega) (by first | rfl | (simp (disch := omega) only [vup_s, va_up_ne]; done)) (mX2_pluggedStalls l D ct (fun z => ad (8 + 19 * 0 + z)) (Ms 0) n hw) cw_X5_231 rfl rfl ⟨Nat.le_of_ble_eq_true rfl, Nat.le_of_ble_eq_true rfl⟩ (Nat.le_of_ble_eq_true rfl) dX5_count_88 ⟨Nat.le_refl _, Nat.le_refl _⟩ (fun H locs hP hS => ?_)
    have hP := fP.eqc (congrArg (fun v9 => csc ct ad v9 kp (nI nx) (nI sz) B A (nI tn) (nI p9) kd) (show (va_up Ms 0 (Ms 0)) = Ms from by first | exact vup_id _ _ (by first | rfl | (simp (disch := omega) only [vup_s, va_up_ne]; done)))) hP
    refine fr_iret hx hb hr hlocks hK hI hS rfl dX5_count_91 ?_ ?_
    · rfl
    · exact hP
  · refine lv_iload_n hx hb dX5_count_0 rfl (lv_at hl 1 rfl) ?_
    refine lv_iconst (v := nI 0) hx hb dX5_count_1 (by decide) ?_
    refine lv_bipush (v := nI 11) hx hb dX5_count_2 (by decide) ?_
    refine cs_cS0 (As := [.int (nI 3), .int (nI 0), .int (nI 11)]) (rest := []) hx hb hown htg hK hI hS hP hml hl.1 (mX5_checkArgument l D ct ad Ms kp nx sz B A tn p9 kd (nI 3) (nI 0) (nI 11) (by decide) (by decide)) cw_X5_71 rfl rfl ⟨Nat.le_of_ble_eq_true rfl, Nat.le_of_ble_eq_true rfl⟩ (Nat.le_of_ble_eq_true rfl) dX5_count_4 ⟨Nat.le_refl _, Nat.le_refl _⟩ (fun H locs hP hS => ?_)
    refine lv_iload_n hx hb dX5_count_7 rfl (lv_at hl 1 rfl) ?_
    refine lv_tableIn (tgt := 92) hx hb dX5_count_8 (by decide) (by decide) rfl (by decide) ?_
    refine lv_aload_n hx hb dX5_count_92 rfl (lv_at hl 0 rfl) ?_
    refine cs_g0 hx hb hown htg hK hP fl_X5_10 dX5_count_93 ?_
    refine cs_cmr (i := 0) (M := Ms 0) (M' := Ms 0) (As := []) (rest := []) hx hb hown htg hK hI hS hP hml hl.1 (by omega) (by first | rfl | (simp (disch := omega) only [vup_s, va_up_ne]; done)) (mX2_drawingStalls l D ct (fun z => ad (8 + 19 * 0 + z)) (Ms 0) n hw) cw_X5_234 rfl rfl ⟨Nat.le_of_ble_eq_true rfl, Nat.le_of_ble_eq_true rfl⟩ (Nat.le_of_ble_eq_true rfl) dX5_count_96 ⟨Nat.le_refl _, Nat.le_refl _⟩ (fun H locs hP hS => ?_)
    have hP := fP.eqc (congrArg (fun v9 => csc ct ad v9 kp (nI nx) (nI sz) B A (nI tn) (nI p9) kd) (show (va_up Ms 0 (Ms 0)) = Ms from by first | exact vup_id _ _ (by first | rfl | (simp (disch := omega) only [vup_s, va_up_ne]; done)))) hP
    refine fr_iret hx hb hr hlocks hK hI hS rfl dX5_count_99 ?_ ?_
    · rfl
    · exact hP
  · refine lv_iload_n hx hb dX5_count_0 rfl (lv_at hl 1 rfl) ?_
    refine lv_iconst (v := nI 0) hx hb dX5_count_1 (by decide) ?_
    refine lv_bipush (v := nI 11) hx hb dX5_count_2 (by decide) ?_
    refine cs_cS0 (As := [.int (nI 4), .int (nI 0), .int (nI 11)]) (rest := []) hx hb hown htg hK hI hS hP hml hl.1 (mX5_checkArgument l D ct ad Ms kp nx sz B A tn p9 kd (nI 4) (nI 0) (nI 11) (by decide) (by decide)) cw_X5_71 rfl rfl ⟨Nat.le_of_ble_eq_true rfl, Nat.le_of_ble_eq_true rfl⟩ (Nat.le_of_ble_eq_true rfl) dX5_count_4 ⟨Nat.le_refl _, Nat.le_refl _⟩ (fun H locs hP hS => ?_)
    refine lv_iload_n hx hb dX5_count_7 rfl (lv_at hl 1 rfl) ?_
    refine lv_tableIn (tgt := 100) hx hb dX5_count_8 (by decide) (by decide) rfl (by decide) ?_
    refine lv_aload_n hx hb dX5_count_100 rfl (lv_at hl 0 rfl) ?_
    refine cs_g0 hx hb hown htg hK hP fl_X5_10 dX5_count_101 ?_
    refine cs_cmr (i := 0) (M := Ms 0) (M' := Ms 0) (As := []) (rest := []) hx hb hown htg hK hI hS hP hml hl.1 (by omega) (by first | rfl | (simp (disch := omega) only [vup_s, va_up_ne]; done)) (mX2_breakersOn l D ct (fun z => ad (8 + 19 * 0 + z)) (Ms 0) ) cw_X5_237 rfl rfl ⟨Nat.le_of_ble_eq_true rfl, Nat.le_of_ble_eq_true rfl⟩ (Nat.le_of_ble_eq_true rfl) dX5_count_104 ⟨Nat.le_refl _, Nat.le_refl _⟩ (fun H locs hP hS => ?_)
    have hP := fP.eqc (congrArg (fun v9 => csc ct ad v9 kp (nI nx) (nI sz) B A (nI tn) (nI p9) kd) (show (va_up Ms 0 (Ms 0)) = Ms from by first | exact vup_id _ _ (by first | rfl | (simp (disch := omega) only [vup_s, va_up_ne]; done)))) hP
    refine fr_iret hx hb hr hlocks hK hI hS rfl dX5_count_107 ?_ ?_
    · rfl
    · exact hP
  · refine lv_iload_n hx hb dX5_count_0 rfl (lv_at hl 1 rfl) ?_
    refine lv_iconst (v := nI 0) hx hb dX5_count_1 (by decide) ?_
    refine lv_bipush (v := nI 11) hx hb dX5_count_2 (by decide) ?_
    refine cs_cS0 (As := [.int (nI 5), .int (nI 0), .int (nI 11)]) (rest := []) hx hb hown htg hK hI hS hP hml hl.1 (mX5_checkArgument l D ct ad Ms kp nx sz B A tn p9 kd (nI 5) (nI 0) (nI 11) (by decide) (by decide)) cw_X5_71 rfl rfl ⟨Nat.le_of_ble_eq_true rfl, Nat.le_of_ble_eq_true rfl⟩ (Nat.le_of_ble_eq_true rfl) dX5_count_4 ⟨Nat.le_refl _, Nat.le_refl _⟩ (fun H locs hP hS => ?_)
    refine lv_iload_n hx hb dX5_count_7 rfl (lv_at hl 1 rfl) ?_
    refine lv_tableIn (tgt := 108) hx hb dX5_count_8 (by decide) (by decide) rfl (by decide) ?_
    refine lv_aload_n hx hb dX5_count_108 rfl (lv_at hl 0 rfl) ?_
    refine cs_g0 hx hb hown htg hK hP fl_X5_10 dX5_count_109 ?_
    refine cs_cmr (i := 0) (M := Ms 0) (M' := Ms 0) (As := []) (rest := []) hx hb hown htg hK hI hS hP hml hl.1 (by omega) (by first | rfl | (simp (disch := omega) only [vup_s, va_up_ne]; done)) (mX2_meters l D ct (fun z => ad (8 + 19 * 0 + z)) (Ms 0) n hw) cw_X5_240 rfl rfl ⟨Nat.le_of_ble_eq_true rfl, Nat.le_of_ble_eq_true rfl⟩ (Nat.le_of_ble_eq_true rfl) dX5_count_112 ⟨Nat.le_refl _, Nat.le_refl _⟩ (fun H locs hP hS => ?_)
    have hP := fP.eqc (congrArg (fun v9 => csc ct ad v9 kp (nI nx) (nI sz) B A (nI tn) (nI p9) kd) (show (va_up Ms 0 (Ms 0)) = Ms from by first | exact vup_id _ _ (by first | rfl | (simp (disch := omega) only [vup_s, va_up_ne]; done)))) hP
    refine fr_iret hx hb hr hlocks hK hI hS rfl dX5_count_115 ?_ ?_
    · rfl
    · exact hP
  · refine lv_iload_n hx hb dX5_count_0 rfl (lv_at hl 1 rfl) ?_
    refine lv_iconst (v := nI 0) hx hb dX5_count_1 (by decide) ?_
    refine lv_bipush (v := nI 11) hx hb dX5_count_2 (by decide) ?_
    refine cs_cS0 (As := [.int (nI 6), .int (nI 0), .int (nI 11)]) (rest := []) hx hb hown htg hK hI hS hP hml hl.1 (mX5_checkArgument l D ct ad Ms kp nx sz B A tn p9 kd (nI 6) (nI 0) (nI 11) (by decide) (by decide)) cw_X5_71 rfl rfl ⟨Nat.le_of_ble_eq_true rfl, Nat.le_of_ble_eq_true rfl⟩ (Nat.le_of_ble_eq_true rfl) dX5_count_4 ⟨Nat.le_refl _, Nat.le_refl _⟩ (fun H locs hP hS => ?_)
    refine lv_iload_n hx hb dX5_count_7 rfl (lv_at hl 1 rfl) ?_
    refine lv_tableIn (tgt := 116) hx hb dX5_count_8 (by decide) (by decide) rfl (by decide) ?_
    refine lv_aload_n hx hb dX5_count_116 rfl (lv_at hl 0 rfl) ?_
    refine cs_g0 hx hb hown htg hK hP fl_X5_10 dX5_count_117 ?_
    refine cs_cmr (i := 0) (M := Ms 0) (M' := Ms 0) (As := []) (rest := []) hx hb hown htg hK hI hS hP hml hl.1 (by omega) (by first | rfl | (simp (disch := omega) only [vup_s, va_up_ne]; done)) (mX2_through l D ct (fun z => ad (8 + 19 * 0 + z)) (Ms 0) ) cw_X5_243 rfl rfl ⟨Nat.le_of_ble_eq_true rfl, Nat.le_of_ble_eq_true rfl⟩ (Nat.le_of_ble_eq_true rfl) dX5_count_120 ⟨Nat.le_refl _, Nat.le_refl _⟩ (fun H locs hP hS => ?_)
    have hP := fP.eqc (congrArg (fun v9 => csc ct ad v9 kp (nI nx) (nI sz) B A (nI tn) (nI p9) kd) (show (va_up Ms 0 (Ms 0)) = Ms from by first | exact vup_id _ _ (by first | rfl | (simp (disch := omega) only [vup_s, va_up_ne]; done)))) hP
    refine fr_iret hx hb hr hlocks hK hI hS rfl dX5_count_123 ?_ ?_
    · rfl
    · exact hP
  · refine lv_iload_n hx hb dX5_count_0 rfl (lv_at hl 1 rfl) ?_
    refine lv_iconst (v := nI 0) hx hb dX5_count_1 (by decide) ?_
    refine lv_bipush (v := nI 11) hx hb dX5_count_2 (by decide) ?_
    refine cs_cS0 (As := [.int (nI 7), .int (nI 0), .int (nI 11)]) (rest := []) hx hb hown htg hK hI hS hP hml hl.1 (mX5_checkArgument l D ct ad Ms kp nx sz B A tn p9 kd (nI 7) (nI 0) (nI 11) (by decide) (by decide)) cw_X5_71 rfl rfl ⟨Nat.le_of_ble_eq_true rfl, Nat.le_of_ble_eq_true rfl⟩ (Nat.le_of_ble_eq_true rfl) dX5_count_4 ⟨Nat.le_refl _, Nat.le_refl _⟩ (fun H locs hP hS => ?_)
    refine lv_iload_n hx hb dX5_count_7 rfl (lv_at hl 1 rfl) ?_
    refine lv_tableIn (tgt := 124) hx hb dX5_count_8 (by decide) (by decide) rfl (by decide) ?_
    refine lv_aload_n hx hb dX5_count_124 rfl (lv_at hl 0 rfl) ?_
    refine cs_g0 hx hb hown htg hK hP fl_X5_10 dX5_count_125 ?_
    refine cs_cmr (i := 0) (M := Ms 0) (M' := Ms 0) (As := []) (rest := []) hx hb hown htg hK hI hS hP hml hl.1 (by omega) (by first | rfl | (simp (disch := omega) only [vup_s, va_up_ne]; done)) (mX2_trips l D ct (fun z => ad (8 + 19 * 0 + z)) (Ms 0) ) cw_X5_133 rfl rfl ⟨Nat.le_of_ble_eq_true rfl, Nat.le_of_ble_eq_true rfl⟩ (Nat.le_of_ble_eq_true rfl) dX5_count_128 ⟨Nat.le_refl _, Nat.le_refl _⟩ (fun H locs hP hS => ?_)
    have hP := fP.eqc (congrArg (fun v9 => csc ct ad v9 kp (nI nx) (nI sz) B A (nI tn) (nI p9) kd) (show (va_up Ms 0 (Ms 0)) = Ms from by first | exact vup_id _ _ (by first | rfl | (simp (disch := omega) only [vup_s, va_up_ne]; done)))) hP
    refine fr_iret hx hb hr hlocks hK hI hS rfl dX5_count_131 ?_ ?_
    · rfl
    · exact hP
  · refine lv_iload_n hx hb dX5_count_0 rfl (lv_at hl 1 rfl) ?_
    refine lv_iconst (v := nI 0) hx hb dX5_count_1 (by decide) ?_
    refine lv_bipush (v := nI 11) hx hb dX5_count_2 (by decide) ?_
    refine cs_cS0 (As := [.int (nI 8), .int (nI 0), .int (nI 11)]) (rest := []) hx hb hown htg hK hI hS hP hml hl.1 (mX5_checkArgument l D ct ad Ms kp nx sz B A tn p9 kd (nI 8) (nI 0) (nI 11) (by decide) (by decide)) cw_X5_71 rfl rfl ⟨Nat.le_of_ble_eq_true rfl, Nat.le_of_ble_eq_true rfl⟩ (Nat.le_of_ble_eq_true rfl) dX5_count_4 ⟨Nat.le_refl _, Nat.le_refl _⟩ (fun H locs hP hS => ?_)
    refine lv_iload_n hx hb dX5_count_7 rfl (lv_at hl 1 rfl) ?_
    refine lv_tableIn (tgt := 132) hx hb dX5_count_8 (by decide) (by decide) rfl (by decide) ?_
    refine lv_aload_n hx hb dX5_count_132 rfl (lv_at hl 0 rfl) ?_
    refine cs_g0 hx hb hown htg hK hP fl_X5_10 dX5_count_133 ?_
    refine cs_cmr (i := 0) (M := Ms 0) (M' := Ms 0) (As := []) (rest := []) hx hb hown htg hK hI hS hP hml hl.1 (by omega) (by first | rfl | (simp (disch := omega) only [vup_s, va_up_ne]; done)) (mX2_darkHours l D ct (fun z => ad (8 + 19 * 0 + z)) (Ms 0) n hw) cw_X5_245 rfl rfl ⟨Nat.le_of_ble_eq_true rfl, Nat.le_of_ble_eq_true rfl⟩ (Nat.le_of_ble_eq_true rfl) dX5_count_136 ⟨Nat.le_refl _, Nat.le_refl _⟩ (fun H locs hP hS => ?_)
    have hP := fP.eqc (congrArg (fun v9 => csc ct ad v9 kp (nI nx) (nI sz) B A (nI tn) (nI p9) kd) (show (va_up Ms 0 (Ms 0)) = Ms from by first | exact vup_id _ _ (by first | rfl | (simp (disch := omega) only [vup_s, va_up_ne]; done)))) hP
    refine fr_iret hx hb hr hlocks hK hI hS rfl dX5_count_139 ?_ ?_
    · rfl
    · exact hP
  · refine lv_iload_n hx hb dX5_count_0 rfl (lv_at hl 1 rfl) ?_
    refine lv_iconst (v := nI 0) hx hb dX5_count_1 (by decide) ?_
    refine lv_bipush (v := nI 11) hx hb dX5_count_2 (by decide) ?_
    refine cs_cS0 (As := [.int (nI 9), .int (nI 0), .int (nI 11)]) (rest := []) hx hb hown htg hK hI hS hP hml hl.1 (mX5_checkArgument l D ct ad Ms kp nx sz B A tn p9 kd (nI 9) (nI 0) (nI 11) (by decide) (by decide)) cw_X5_71 rfl rfl ⟨Nat.le_of_ble_eq_true rfl, Nat.le_of_ble_eq_true rfl⟩ (Nat.le_of_ble_eq_true rfl) dX5_count_4 ⟨Nat.le_refl _, Nat.le_refl _⟩ (fun H locs hP hS => ?_)
    refine lv_iload_n hx hb dX5_count_7 rfl (lv_at hl 1 rfl) ?_
    refine lv_tableIn (tgt := 140) hx hb dX5_count_8 (by decide) (by decide) rfl (by decide) ?_
    refine lv_aload_n hx hb dX5_count_140 rfl (lv_at hl 0 rfl) ?_
    refine cs_g0 hx hb hown htg hK hP fl_X5_10 dX5_count_141 ?_
    refine cs_cmr (i := 0) (M := Ms 0) (M' := Ms 0) (As := []) (rest := []) hx hb hown htg hK hI hS hP hml hl.1 (by omega) (by first | rfl | (simp (disch := omega) only [vup_s, va_up_ne]; done)) (mX2_fees l D ct (fun z => ad (8 + 19 * 0 + z)) (Ms 0) n hw) cw_X5_247 rfl rfl ⟨Nat.le_of_ble_eq_true rfl, Nat.le_of_ble_eq_true rfl⟩ (Nat.le_of_ble_eq_true rfl) dX5_count_144 ⟨Nat.le_refl _, Nat.le_refl _⟩ (fun H locs hP hS => ?_)
    have hP := fP.eqc (congrArg (fun v9 => csc ct ad v9 kp (nI nx) (nI sz) B A (nI tn) (nI p9) kd) (show (va_up Ms 0 (Ms 0)) = Ms from by first | exact vup_id _ _ (by first | rfl | (simp (disch := omega) only [vup_s, va_up_ne]; done)))) hP
    refine fr_iret hx hb hr hlocks hK hI hS rfl dX5_count_147 ?_ ?_
    · rfl
    · exact hP
  · refine lv_iload_n hx hb dX5_count_0 rfl (lv_at hl 1 rfl) ?_
    refine lv_iconst (v := nI 0) hx hb dX5_count_1 (by decide) ?_
    refine lv_bipush (v := nI 11) hx hb dX5_count_2 (by decide) ?_
    refine cs_cS0 (As := [.int (nI 10), .int (nI 0), .int (nI 11)]) (rest := []) hx hb hown htg hK hI hS hP hml hl.1 (mX5_checkArgument l D ct ad Ms kp nx sz B A tn p9 kd (nI 10) (nI 0) (nI 11) (by decide) (by decide)) cw_X5_71 rfl rfl ⟨Nat.le_of_ble_eq_true rfl, Nat.le_of_ble_eq_true rfl⟩ (Nat.le_of_ble_eq_true rfl) dX5_count_4 ⟨Nat.le_refl _, Nat.le_refl _⟩ (fun H locs hP hS => ?_)
    refine lv_iload_n hx hb dX5_count_7 rfl (lv_at hl 1 rfl) ?_
    refine lv_tableIn (tgt := 148) hx hb dX5_count_8 (by decide) (by decide) rfl (by decide) ?_
    refine lv_aload_n hx hb dX5_count_148 rfl (lv_at hl 0 rfl) ?_
    refine cs_g0 hx hb hown htg hK hP fl_X5_10 dX5_count_149 ?_
    refine cs_m7 (i := 0) (M := Ms 0) hx hb hown htg hK hP (by omega) (by first | rfl | (simp (disch := omega) only [vup_s, va_up_ne]; done)) fl_X5_250 dX5_count_152 ?_
    refine fr_iret hx hb hr hlocks hK hI hS rfl dX5_count_155 ?_ ?_
    · rfl
    · exact hP
  · refine lv_iload_n hx hb dX5_count_0 rfl (lv_at hl 1 rfl) ?_
    refine lv_iconst (v := nI 0) hx hb dX5_count_1 (by decide) ?_
    refine lv_bipush (v := nI 11) hx hb dX5_count_2 (by decide) ?_
    refine cs_cS0 (As := [.int (nI 11), .int (nI 0), .int (nI 11)]) (rest := []) hx hb hown htg hK hI hS hP hml hl.1 (mX5_checkArgument l D ct ad Ms kp nx sz B A tn p9 kd (nI 11) (nI 0) (nI 11) (by decide) (by decide)) cw_X5_71 rfl rfl ⟨Nat.le_of_ble_eq_true rfl, Nat.le_of_ble_eq_true rfl⟩ (Nat.le_of_ble_eq_true rfl) dX5_count_4 ⟨Nat.le_refl _, Nat.le_refl _⟩ (fun H locs hP hS => ?_)
    refine lv_iload_n hx hb dX5_count_7 rfl (lv_at hl 1 rfl) ?_
    refine lv_tableOut (tgt := 156) hx hb dX5_count_8 (by decide) (by decide) ?_
    refine lv_aload_n hx hb dX5_count_156 rfl (lv_at hl 0 rfl) ?_
    refine cs_g4 hx hb hown htg hK hP fl_X5_30 dX5_count_157 ?_
    refine cs_h2 hx hb hown htg hK hP fl_X5_181 dX5_count_160 ?_
    refine fr_iret hx hb hr hlocks hK hI hS rfl dX5_count_163 ?_ ?_
    · rfl
    · exact hP

