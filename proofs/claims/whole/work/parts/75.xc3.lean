/-! EXCEPTIONS OF THE CLASS: its checks; the first argument wrong -/
set_option maxRecDepth 100000 in
set_option maxHeartbeats 4000000 in
theorem mX5_checkStall_t (l : Launch) (hlt : l.stackTraces = false) (D : va_G) (ct : Nat → ClassId) (ad : Nat → Nat) (Ms : Nat → Nat → Int32) (kp : Nat → Int32) (nx sz : Nat) (B A : Nat → Int32) (tn p9 : Nat) (kd : Int32) (v : Int32) (n : Nat)  (hw : mW (Ms 0) n) (hbad : v < 0 ∨ nI n ≤ v) : TMet l yX5_checkStall cX5_checkStall 2 (none : Option Jvm.ClassFile.FieldType) 6 82 D ct 198 ad [.ref (ad 0), .int (v)] (csc ct ad Ms kp (nI nx) (nI sz) B A (nI tn) (nI p9) kd) EI (csc ct ad Ms kp (nI nx) (nI sz) B A (nI tn) (nI p9) kd) := by
  refine TMet.of (by decide +kernel) (Nat.le_of_ble_eq_true rfl) ?_
  intro p e s m args below meth c ls hx hb hr hml hown hlocks htg hK hI hP hS hl htb hE
  have hl : lv_has ls 2 [(0, .ref (ad 0)), (1, .int (v))] := hl
  have hn10 := hw.2
  refine lv_iload_n hx hb dX5_checkStall_0 rfl (lv_at hl 1 rfl) ?_
  refine lv_ifltR (tgt := 15) hx hb dX5_checkStall_1 (by decide) (fun c1 => ?_) (fun c1 => ?_)
  · exact fx_throwW (E := EI) (text := "there is no such stall") (ik := 313) (is := 315) (ic := 317) hlt hx hb hml hown htg hlocks hK hI hP hS hl.1 htb hE (by decide) xl_I xm_I xn_I xo_I (by decide) (by decide) (List.mem_of_getElem? (i := 11) rfl) dX5_checkStall_15 dX5_checkStall_18 dX5_checkStall_19 dX5_checkStall_22 dX5_checkStall_25 ⟨Nat.le_of_ble_eq_true rfl, Nat.le_of_ble_eq_true rfl, Nat.le_refl _, Nat.le_refl _⟩
  · refine lv_iload_n hx hb dX5_checkStall_4 rfl (lv_at hl 1 rfl) ?_
    refine lv_aload_n hx hb dX5_checkStall_5 rfl (lv_at hl 0 rfl) ?_
    refine cs_g0 hx hb hown htg hK hP fl_X5_10 dX5_checkStall_6 ?_
    refine cs_m1 (i := 0) (M := Ms 0) hx hb hown htg hK hP (by omega) (by first | rfl | (simp (disch := omega) only [vup_s, va_up_ne]; done)) fl_X5_228 dX5_checkStall_9 ?_
    refine lv_teq (hw).1 ?_
    refine lv_icmp_ltR (tgt := 26) hx hb dX5_checkStall_12 (by decide) (fun c12 => ?_) (fun c12 => ?_)
    · exfalso; rcases hbad with q | q; exact absurd q (Int32.not_lt.mpr c1); exact absurd q (Int32.not_le.mpr c12)
    · exact fx_throwW (E := EI) (text := "there is no such stall") (ik := 313) (is := 315) (ic := 317) hlt hx hb hml hown htg hlocks hK hI hP hS hl.1 htb hE (by decide) xl_I xm_I xn_I xo_I (by decide) (by decide) (List.mem_of_getElem? (i := 11) rfl) dX5_checkStall_15 dX5_checkStall_18 dX5_checkStall_19 dX5_checkStall_22 dX5_checkStall_25 ⟨Nat.le_of_ble_eq_true rfl, Nat.le_of_ble_eq_true rfl, Nat.le_refl _, Nat.le_refl _⟩
set_option maxRecDepth 100000 in
set_option maxHeartbeats 4000000 in
theorem mX5_checkSetting_t (l : Launch) (hlt : l.stackTraces = false) (D : va_G) (ct : Nat → ClassId) (ad : Nat → Nat) (Ms : Nat → Nat → Int32) (kp : Nat → Int32) (nx sz : Nat) (B A : Nat → Int32) (tn p9 : Nat) (kd : Int32) (v : Int32)   (hbad : v < 0 ∨ nI 3 ≤ v) : TMet l yX5_checkSetting cX5_checkSetting 1 (none : Option Jvm.ClassFile.FieldType) 6 82 D ct 198 ad [.int (v)] (csc ct ad Ms kp (nI nx) (nI sz) B A (nI tn) (nI p9) kd) EI (csc ct ad Ms kp (nI nx) (nI sz) B A (nI tn) (nI p9) kd) := by
  refine TMet.of (by decide +kernel) (Nat.le_of_ble_eq_true rfl) ?_
  intro p e s m args below meth c ls hx hb hr hml hown hlocks htg hK hI hP hS hl htb hE
  have hl : lv_has ls 1 [(0, .int (v))] := hl
  refine lv_iload_n hx hb dX5_checkSetting_0 rfl (lv_at hl 0 rfl) ?_
  refine lv_ifltR (tgt := 9) hx hb dX5_checkSetting_1 (by decide) (fun c1 => ?_) (fun c1 => ?_)
  · exact fx_throwW (E := EI) (text := "there is no such setting") (ik := 313) (is := 318) (ic := 317) hlt hx hb hml hown htg hlocks hK hI hP hS hl.1 htb hE (by decide) xl_I xm_I xn_I xo_I (by decide) (by decide) (List.mem_of_getElem? (i := 12) rfl) dX5_checkSetting_9 dX5_checkSetting_12 dX5_checkSetting_13 dX5_checkSetting_16 dX5_checkSetting_19 ⟨Nat.le_of_ble_eq_true rfl, Nat.le_of_ble_eq_true rfl, Nat.le_refl _, Nat.le_refl _⟩
  · refine lv_iload_n hx hb dX5_checkSetting_4 rfl (lv_at hl 0 rfl) ?_
    refine lv_iconst (v := nI 3) hx hb dX5_checkSetting_5 (by decide) ?_
    refine lv_icmp_ltR (tgt := 20) hx hb dX5_checkSetting_6 (by decide) (fun c6 => ?_) (fun c6 => ?_)
    · exfalso; rcases hbad with q | q; exact absurd q (Int32.not_lt.mpr c1); exact absurd q (Int32.not_le.mpr c6)
    · exact fx_throwW (E := EI) (text := "there is no such setting") (ik := 313) (is := 318) (ic := 317) hlt hx hb hml hown htg hlocks hK hI hP hS hl.1 htb hE (by decide) xl_I xm_I xn_I xo_I (by decide) (by decide) (List.mem_of_getElem? (i := 12) rfl) dX5_checkSetting_9 dX5_checkSetting_12 dX5_checkSetting_13 dX5_checkSetting_16 dX5_checkSetting_19 ⟨Nat.le_of_ble_eq_true rfl, Nat.le_of_ble_eq_true rfl, Nat.le_refl _, Nat.le_refl _⟩
set_option maxRecDepth 100000 in
set_option maxHeartbeats 4000000 in
theorem mX5_checkArgument_t (l : Launch) (hlt : l.stackTraces = false) (D : va_G) (ct : Nat → ClassId) (ad : Nat → Nat) (Ms : Nat → Nat → Int32) (kp : Nat → Int32) (nx sz : Nat) (B A : Nat → Int32) (tn p9 : Nat) (kd : Int32) (v : Int32) (lo : Int32) (hi : Int32)   (hbad : v < lo ∨ hi < v) : TMet l yX5_checkArgument cX5_checkArgument 3 (none : Option Jvm.ClassFile.FieldType) 6 82 D ct 198 ad [.int (v), .int (lo), .int (hi)] (csc ct ad Ms kp (nI nx) (nI sz) B A (nI tn) (nI p9) kd) EA (csc ct ad Ms kp (nI nx) (nI sz) B A (nI tn) (nI p9) kd) := by
  refine TMet.of (by decide +kernel) (Nat.le_of_ble_eq_true rfl) ?_
  intro p e s m args below meth c ls hx hb hr hml hown hlocks htg hK hI hP hS hl htb hE
  have hl : lv_has ls 3 [(0, .int (v)), (1, .int (lo)), (2, .int (hi))] := hl
  refine lv_iload_n hx hb dX5_checkArgument_0 rfl (lv_at hl 0 rfl) ?_
  refine lv_iload_n hx hb dX5_checkArgument_1 rfl (lv_at hl 1 rfl) ?_
  refine lv_icmp_ltR (tgt := 10) hx hb dX5_checkArgument_2 (by decide) (fun c2 => ?_) (fun c2 => ?_)
  · exact fx_throwW (E := EA) (text := "an argument is out of range") (ik := 41) (is := 320) (ic := 45) hlt hx hb hml hown htg hlocks hK hI hP hS hl.1 htb hE (by decide) xl_A xm_A xn_A xo_A (by decide) (by decide) (List.mem_of_getElem? (i := 13) rfl) dX5_checkArgument_10 dX5_checkArgument_13 dX5_checkArgument_14 dX5_checkArgument_17 dX5_checkArgument_20 ⟨Nat.le_of_ble_eq_true rfl, Nat.le_of_ble_eq_true rfl, Nat.le_refl _, Nat.le_refl _⟩
  · refine lv_iload_n hx hb dX5_checkArgument_5 rfl (lv_at hl 0 rfl) ?_
    refine lv_iload_n hx hb dX5_checkArgument_6 rfl (lv_at hl 2 rfl) ?_
    refine lv_icmp_leR (tgt := 21) hx hb dX5_checkArgument_7 (by decide) (fun c7 => ?_) (fun c7 => ?_)
    · exfalso; rcases hbad with q | q; exact absurd q (Int32.not_lt.mpr c2); exact absurd q (Int32.not_lt.mpr c7)
    · exact fx_throwW (E := EA) (text := "an argument is out of range") (ik := 41) (is := 320) (ic := 45) hlt hx hb hml hown htg hlocks hK hI hP hS hl.1 htb hE (by decide) xl_A xm_A xn_A xo_A (by decide) (by decide) (List.mem_of_getElem? (i := 13) rfl) dX5_checkArgument_10 dX5_checkArgument_13 dX5_checkArgument_14 dX5_checkArgument_17 dX5_checkArgument_20 ⟨Nat.le_of_ble_eq_true rfl, Nat.le_of_ble_eq_true rfl, Nat.le_refl _, Nat.le_refl _⟩
set_option maxRecDepth 100000 in
set_option maxHeartbeats 4000000 in
theorem mX5_plug_tI (l : Launch) (hlt : l.stackTraces = false) (D : va_G) (ct : Nat → ClassId) (ad : Nat → Nat) (Ms : Nat → Nat → Int32) (kp : Nat → Int32) (nx sz : Nat) (B A : Nat → Int32) (tn p9 : Nat) (kd : Int32) (v : Int32) (b : Int32) (n : Nat)  (hw : mW (Ms 0) n) (hbad : v < 0 ∨ nI n ≤ v) : TMet l yX5_plug cX5_plug 3 (some .int) 7 103 D ct 198 ad [.ref (ad 0), .int (v), .int (b)] (csc ct ad Ms kp (nI nx) (nI sz) B A (nI tn) (nI p9) kd) EI (csc ct ad Ms kp (nI nx) (nI sz) B A (nI tn) (nI p9) kd) := by
  refine TMet.of (by decide +kernel) (Nat.le_of_ble_eq_true rfl) ?_
  intro p e s m args below meth c ls hx hb hr hml hown hlocks htg hK hI hP hS hl htb hE
  have hl : lv_has ls 3 [(0, .ref (ad 0)), (1, .int (v)), (2, .int (b))] := hl
  have hn10 := hw.2
  refine lv_aload_n hx hb dX5_plug_0 rfl (lv_at hl 0 rfl) ?_
  refine lv_iload_n hx hb dX5_plug_1 rfl (lv_at hl 1 rfl) ?_
  exact fx_Vo (k0 := 0) (ci := 5) (As := [.int (v)]) (rest := []) hx hb hml hown htg hlocks hK hI hP hS hl.1 htb hE (mX5_checkStall_t l hlt D ct ad Ms kp nx sz B A tn p9 kd v n hw hbad) cw_X5_67 (by decide) rfl rfl rfl rfl rfl ⟨Nat.le_of_ble_eq_true rfl, Nat.le_of_ble_eq_true rfl⟩ (Nat.le_of_ble_eq_true rfl) dX5_plug_2 ⟨Nat.le_refl _, Nat.le_refl _⟩
set_option maxRecDepth 100000 in
set_option maxHeartbeats 4000000 in
theorem mX5_pull_tI (l : Launch) (hlt : l.stackTraces = false) (D : va_G) (ct : Nat → ClassId) (ad : Nat → Nat) (Ms : Nat → Nat → Int32) (kp : Nat → Int32) (nx sz : Nat) (B A : Nat → Int32) (tn p9 : Nat) (kd : Int32) (v : Int32) (n : Nat)  (hw : mW (Ms 0) n) (hbad : v < 0 ∨ nI n ≤ v) : TMet l yX5_pull cX5_pull 2 (some .int) 7 103 D ct 198 ad [.ref (ad 0), .int (v)] (csc ct ad Ms kp (nI nx) (nI sz) B A (nI tn) (nI p9) kd) EI (csc ct ad Ms kp (nI nx) (nI sz) B A (nI tn) (nI p9) kd) := by
  refine TMet.of (by decide +kernel) (Nat.le_of_ble_eq_true rfl) ?_
  intro p e s m args below meth c ls hx hb hr hml hown hlocks htg hK hI hP hS hl htb hE
  have hl : lv_has ls 2 [(0, .ref (ad 0)), (1, .int (v))] := hl
  have hn10 := hw.2
  refine lv_aload_n hx hb dX5_pull_0 rfl (lv_at hl 0 rfl) ?_
  refine lv_iload_n hx hb dX5_pull_1 rfl (lv_at hl 1 rfl) ?_
  exact fx_Vo (k0 := 0) (ci := 5) (As := [.int (v)]) (rest := []) hx hb hml hown htg hlocks hK hI hP hS hl.1 htb hE (mX5_checkStall_t l hlt D ct ad Ms kp nx sz B A tn p9 kd v n hw hbad) cw_X5_67 (by decide) rfl rfl rfl rfl rfl ⟨Nat.le_of_ble_eq_true rfl, Nat.le_of_ble_eq_true rfl⟩ (Nat.le_of_ble_eq_true rfl) dX5_pull_2 ⟨Nat.le_refl _, Nat.le_refl _⟩
set_option maxRecDepth 100000 in
set_option maxHeartbeats 4000000 in
theorem mX5_shed_tI (l : Launch) (hlt : l.stackTraces = false) (D : va_G) (ct : Nat → ClassId) (ad : Nat → Nat) (Ms : Nat → Nat → Int32) (kp : Nat → Int32) (nx sz : Nat) (B A : Nat → Int32) (tn p9 : Nat) (kd : Int32) (v : Int32) (n : Nat)  (hw : mW (Ms 0) n) (hbad : v < 0 ∨ nI n ≤ v) : TMet l yX5_shed cX5_shed 3 (some .int) 7 103 D ct 198 ad [.ref (ad 0), .int (v)] (csc ct ad Ms kp (nI nx) (nI sz) B A (nI tn) (nI p9) kd) EI (csc ct ad Ms kp (nI nx) (nI sz) B A (nI tn) (nI p9) kd) := by
  refine TMet.of (by decide +kernel) (Nat.le_of_ble_eq_true rfl) ?_
  intro p e s m args below meth c ls hx hb hr hml hown hlocks htg hK hI hP hS hl htb hE
  have hl : lv_has ls 3 [(0, .ref (ad 0)), (1, .int (v))] := hl
  have hn10 := hw.2
  refine lv_aload_n hx hb dX5_shed_0 rfl (lv_at hl 0 rfl) ?_
  refine lv_iload_n hx hb dX5_shed_1 rfl (lv_at hl 1 rfl) ?_
  exact fx_Vo (k0 := 0) (ci := 5) (As := [.int (v)]) (rest := []) hx hb hml hown htg hlocks hK hI hP hS hl.1 htb hE (mX5_checkStall_t l hlt D ct ad Ms kp nx sz B A tn p9 kd v n hw hbad) cw_X5_67 (by decide) rfl rfl rfl rfl rfl ⟨Nat.le_of_ble_eq_true rfl, Nat.le_of_ble_eq_true rfl⟩ (Nat.le_of_ble_eq_true rfl) dX5_shed_2 ⟨Nat.le_refl _, Nat.le_refl _⟩
set_option maxRecDepth 100000 in
set_option maxHeartbeats 4000000 in
theorem mX5_stallOf_tI (l : Launch) (hlt : l.stackTraces = false) (D : va_G) (ct : Nat → ClassId) (ad : Nat → Nat) (Ms : Nat → Nat → Int32) (kp : Nat → Int32) (nx sz : Nat) (B A : Nat → Int32) (tn p9 : Nat) (kd : Int32) (v : Int32) (w : Int32) (n : Nat)  (hw : mW (Ms 0) n) (hbad : v < 0 ∨ nI n ≤ v) : TMet l yX5_stallOf cX5_stallOf 4 (some .int) 7 103 D ct 198 ad [.ref (ad 0), .int (v), .int (w)] (csc ct ad Ms kp (nI nx) (nI sz) B A (nI tn) (nI p9) kd) EI (csc ct ad Ms kp (nI nx) (nI sz) B A (nI tn) (nI p9) kd) := by
  refine TMet.of (by decide +kernel) (Nat.le_of_ble_eq_true rfl) ?_
  intro p e s m args below meth c ls hx hb hr hml hown hlocks htg hK hI hP hS hl htb hE
  have hl : lv_has ls 4 [(0, .ref (ad 0)), (1, .int (v)), (2, .int (w))] := hl
  have hn10 := hw.2
  refine lv_aload_n hx hb dX5_stallOf_0 rfl (lv_at hl 0 rfl) ?_
  refine lv_iload_n hx hb dX5_stallOf_1 rfl (lv_at hl 1 rfl) ?_
  exact fx_Vo (k0 := 0) (ci := 5) (As := [.int (v)]) (rest := []) hx hb hml hown htg hlocks hK hI hP hS hl.1 htb hE (mX5_checkStall_t l hlt D ct ad Ms kp nx sz B A tn p9 kd v n hw hbad) cw_X5_67 (by decide) rfl rfl rfl rfl rfl ⟨Nat.le_of_ble_eq_true rfl, Nat.le_of_ble_eq_true rfl⟩ (Nat.le_of_ble_eq_true rfl) dX5_stallOf_2 ⟨Nat.le_refl _, Nat.le_refl _⟩
set_option maxRecDepth 100000 in
set_option maxHeartbeats 4000000 in
theorem mX5_ifPlugged_tI (l : Launch) (hlt : l.stackTraces = false) (D : va_G) (ct : Nat → ClassId) (ad : Nat → Nat) (Ms : Nat → Nat → Int32) (kp : Nat → Int32) (nx sz : Nat) (B A : Nat → Int32) (tn p9 : Nat) (kd : Int32) (v : Int32) (b : Int32) (x : Int32) (w : Int32) (n : Nat)  (hw : mW (Ms 0) n) (hbad : v < 0 ∨ nI n ≤ v) : TMet l yX5_ifPlugged cX5_ifPlugged 5 (some .int) 7 103 D ct 198 ad [.ref (ad 0), .int (v), .int (b), .int (x), .int (w)] (csc ct ad Ms kp (nI nx) (nI sz) B A (nI tn) (nI p9) kd) EI (csc ct ad Ms kp (nI nx) (nI sz) B A (nI tn) (nI p9) kd) := by
  refine TMet.of (by decide +kernel) (Nat.le_of_ble_eq_true rfl) ?_
  intro p e s m args below meth c ls hx hb hr hml hown hlocks htg hK hI hP hS hl htb hE
  have hl : lv_has ls 5 [(0, .ref (ad 0)), (1, .int (v)), (2, .int (b)), (3, .int (x)), (4, .int (w))] := hl
  have hn10 := hw.2
  refine lv_aload_n hx hb dX5_ifPlugged_0 rfl (lv_at hl 0 rfl) ?_
  refine lv_iload_n hx hb dX5_ifPlugged_1 rfl (lv_at hl 1 rfl) ?_
  exact fx_Vo (k0 := 0) (ci := 5) (As := [.int (v)]) (rest := []) hx hb hml hown htg hlocks hK hI hP hS hl.1 htb hE (mX5_checkStall_t l hlt D ct ad Ms kp nx sz B A tn p9 kd v n hw hbad) cw_X5_67 (by decide) rfl rfl rfl rfl rfl ⟨Nat.le_of_ble_eq_true rfl, Nat.le_of_ble_eq_true rfl⟩ (Nat.le_of_ble_eq_true rfl) dX5_ifPlugged_2 ⟨Nat.le_refl _, Nat.le_refl _⟩
set_option maxRecDepth 100000 in
set_option maxHeartbeats 4000000 in
theorem mX5_bestSocket_tI (l : Launch) (hlt : l.stackTraces = false) (D : va_G) (ct : Nat → ClassId) (ad : Nat → Nat) (Ms : Nat → Nat → Int32) (kp : Nat → Int32) (nx sz : Nat) (B A : Nat → Int32) (tn p9 : Nat) (kd : Int32) (v : Int32) (n : Nat)  (hw : mW (Ms 0) n) (hbad : v < 0 ∨ nI n ≤ v) : TMet l yX5_bestSocket cX5_bestSocket 10 (some .int) 7 103 D ct 198 ad [.ref (ad 0), .int (v)] (csc ct ad Ms kp (nI nx) (nI sz) B A (nI tn) (nI p9) kd) EI (csc ct ad Ms kp (nI nx) (nI sz) B A (nI tn) (nI p9) kd) := by
  refine TMet.of (by decide +kernel) (Nat.le_of_ble_eq_true rfl) ?_
  intro p e s m args below meth c ls hx hb hr hml hown hlocks htg hK hI hP hS hl htb hE
  have hl : lv_has ls 10 [(0, .ref (ad 0)), (1, .int (v))] := hl
  have hn10 := hw.2
  refine lv_aload_n hx hb dX5_bestSocket_0 rfl (lv_at hl 0 rfl) ?_
  refine lv_iload_n hx hb dX5_bestSocket_1 rfl (lv_at hl 1 rfl) ?_
  exact fx_Vo (k0 := 0) (ci := 5) (As := [.int (v)]) (rest := []) hx hb hml hown htg hlocks hK hI hP hS hl.1 htb hE (mX5_checkStall_t l hlt D ct ad Ms kp nx sz B A tn p9 kd v n hw hbad) cw_X5_67 (by decide) rfl rfl rfl rfl rfl ⟨Nat.le_of_ble_eq_true rfl, Nat.le_of_ble_eq_true rfl⟩ (Nat.le_of_ble_eq_true rfl) dX5_bestSocket_2 ⟨Nat.le_refl _, Nat.le_refl _⟩
set_option maxRecDepth 100000 in
set_option maxHeartbeats 4000000 in
theorem mX5_setting_tI (l : Launch) (hlt : l.stackTraces = false) (D : va_G) (ct : Nat → ClassId) (ad : Nat → Nat) (Ms : Nat → Nat → Int32) (kp : Nat → Int32) (nx sz : Nat) (B A : Nat → Int32) (tn p9 : Nat) (kd : Int32) (v : Int32)   (hbad : v < 0 ∨ nI 3 ≤ v) : TMet l yX5_setting cX5_setting 2 (some .int) 7 102 D ct 198 ad [.ref (ad 0), .int (v)] (csc ct ad Ms kp (nI nx) (nI sz) B A (nI tn) (nI p9) kd) EI (csc ct ad Ms kp (nI nx) (nI sz) B A (nI tn) (nI p9) kd) := by
  refine TMet.of (by decide +kernel) (Nat.le_of_ble_eq_true rfl) ?_
  intro p e s m args below meth c ls hx hb hr hml hown hlocks htg hK hI hP hS hl htb hE
  have hl : lv_has ls 2 [(0, .ref (ad 0)), (1, .int (v))] := hl
  refine lv_iload_n hx hb dX5_setting_0 rfl (lv_at hl 1 rfl) ?_
  exact fx_So (As := [.int (v)]) (rest := []) hx hb hml hown htg hlocks hK hI hP hS hl.1 htb hE (mX5_checkSetting_t l hlt D ct ad Ms kp nx sz B A tn p9 kd v  hbad) cw_X5_140 rfl rfl ⟨Nat.le_of_ble_eq_true rfl, Nat.le_of_ble_eq_true rfl⟩ (Nat.le_of_ble_eq_true rfl) dX5_setting_1 ⟨Nat.le_refl _, Nat.le_refl _⟩
set_option maxRecDepth 100000 in
set_option maxHeartbeats 4000000 in
theorem mX5_set_tI (l : Launch) (hlt : l.stackTraces = false) (D : va_G) (ct : Nat → ClassId) (ad : Nat → Nat) (Ms : Nat → Nat → Int32) (kp : Nat → Int32) (nx sz : Nat) (B A : Nat → Int32) (tn p9 : Nat) (kd : Int32) (v : Int32) (w : Int32)   (hbad : v < 0 ∨ nI 3 ≤ v) : TMet l yX5_set cX5_set 4 (some .int) 7 102 D ct 198 ad [.ref (ad 0), .int (v), .int (w)] (csc ct ad Ms kp (nI nx) (nI sz) B A (nI tn) (nI p9) kd) EI (csc ct ad Ms kp (nI nx) (nI sz) B A (nI tn) (nI p9) kd) := by
  refine TMet.of (by decide +kernel) (Nat.le_of_ble_eq_true rfl) ?_
  intro p e s m args below meth c ls hx hb hr hml hown hlocks htg hK hI hP hS hl htb hE
  have hl : lv_has ls 4 [(0, .ref (ad 0)), (1, .int (v)), (2, .int (w))] := hl
  refine lv_iload_n hx hb dX5_set_0 rfl (lv_at hl 1 rfl) ?_
  exact fx_So (As := [.int (v)]) (rest := []) hx hb hml hown htg hlocks hK hI hP hS hl.1 htb hE (mX5_checkSetting_t l hlt D ct ad Ms kp nx sz B A tn p9 kd v  hbad) cw_X5_140 rfl rfl ⟨Nat.le_of_ble_eq_true rfl, Nat.le_of_ble_eq_true rfl⟩ (Nat.le_of_ble_eq_true rfl) dX5_set_1 ⟨Nat.le_refl _, Nat.le_refl _⟩
set_option maxRecDepth 100000 in
set_option maxHeartbeats 4000000 in
theorem mX5_bound_tA (l : Launch) (hlt : l.stackTraces = false) (D : va_G) (ct : Nat → ClassId) (ad : Nat → Nat) (Ms : Nat → Nat → Int32) (kp : Nat → Int32) (nx sz : Nat) (B A : Nat → Int32) (tn p9 : Nat) (kd : Int32) (v : Int32) (w : Int32)   (hbad : v < nI 0 ∨ nI 3 < v) : TMet l yX5_bound cX5_bound 5 (some .int) 7 104 D ct 198 ad [.ref (ad 0), .int (v), .int (w)] (csc ct ad Ms kp (nI nx) (nI sz) B A (nI tn) (nI p9) kd) EA (csc ct ad Ms kp (nI nx) (nI sz) B A (nI tn) (nI p9) kd) := by
  refine TMet.of (by decide +kernel) (Nat.le_of_ble_eq_true rfl) ?_
  intro p e s m args below meth c ls hx hb hr hml hown hlocks htg hK hI hP hS hl htb hE
  have hl : lv_has ls 5 [(0, .ref (ad 0)), (1, .int (v)), (2, .int (w))] := hl
  refine lv_iload_n hx hb dX5_bound_0 rfl (lv_at hl 1 rfl) ?_
  refine lv_iconst (v := nI 0) hx hb dX5_bound_1 (by decide) ?_
  refine lv_iconst (v := nI 3) hx hb dX5_bound_2 (by decide) ?_
  exact fx_So (As := [.int (v), .int (nI 0), .int (nI 3)]) (rest := []) hx hb hml hown htg hlocks hK hI hP hS hl.1 htb hE (mX5_checkArgument_t l hlt D ct ad Ms kp nx sz B A tn p9 kd v (nI 0) (nI 3)  hbad) cw_X5_71 rfl rfl ⟨Nat.le_of_ble_eq_true rfl, Nat.le_of_ble_eq_true rfl⟩ (Nat.le_of_ble_eq_true rfl) dX5_bound_3 ⟨Nat.le_refl _, Nat.le_refl _⟩
set_option maxRecDepth 100000 in
set_option maxHeartbeats 4000000 in
theorem mX5_reset_tA (l : Launch) (hlt : l.stackTraces = false) (D : va_G) (ct : Nat → ClassId) (ad : Nat → Nat) (Ms : Nat → Nat → Int32) (kp : Nat → Int32) (nx sz : Nat) (B A : Nat → Int32) (tn p9 : Nat) (kd : Int32) (v : Int32)   (hbad : v < nI 0 ∨ nI 3 < v) : TMet l yX5_reset cX5_reset 2 (some .int) 7 104 D ct 198 ad [.ref (ad 0), .int (v)] (csc ct ad Ms kp (nI nx) (nI sz) B A (nI tn) (nI p9) kd) EA (csc ct ad Ms kp (nI nx) (nI sz) B A (nI tn) (nI p9) kd) := by
  refine TMet.of (by decide +kernel) (Nat.le_of_ble_eq_true rfl) ?_
  intro p e s m args below meth c ls hx hb hr hml hown hlocks htg hK hI hP hS hl htb hE
  have hl : lv_has ls 2 [(0, .ref (ad 0)), (1, .int (v))] := hl
  refine lv_iload_n hx hb dX5_reset_0 rfl (lv_at hl 1 rfl) ?_
  refine lv_iconst (v := nI 0) hx hb dX5_reset_1 (by decide) ?_
  refine lv_iconst (v := nI 3) hx hb dX5_reset_2 (by decide) ?_
  exact fx_So (As := [.int (v), .int (nI 0), .int (nI 3)]) (rest := []) hx hb hml hown htg hlocks hK hI hP hS hl.1 htb hE (mX5_checkArgument_t l hlt D ct ad Ms kp nx sz B A tn p9 kd v (nI 0) (nI 3)  hbad) cw_X5_71 rfl rfl ⟨Nat.le_of_ble_eq_true rfl, Nat.le_of_ble_eq_true rfl⟩ (Nat.le_of_ble_eq_true rfl) dX5_reset_3 ⟨Nat.le_refl _, Nat.le_refl _⟩
set_option maxRecDepth 100000 in
set_option maxHeartbeats 4000000 in
theorem mX5_over_tA (l : Launch) (hlt : l.stackTraces = false) (D : va_G) (ct : Nat → ClassId) (ad : Nat → Nat) (Ms : Nat → Nat → Int32) (kp : Nat → Int32) (nx sz : Nat) (B A : Nat → Int32) (tn p9 : Nat) (kd : Int32) (v : Int32)   (hbad : v < nI 0 ∨ nI 8 < v) : TMet l yX5_over cX5_over 2 (some .int) 7 104 D ct 198 ad [.ref (ad 0), .int (v)] (csc ct ad Ms kp (nI nx) (nI sz) B A (nI tn) (nI p9) kd) EA (csc ct ad Ms kp (nI nx) (nI sz) B A (nI tn) (nI p9) kd) := by
  refine TMet.of (by decide +kernel) (Nat.le_of_ble_eq_true rfl) ?_
  intro p e s m args below meth c ls hx hb hr hml hown hlocks htg hK hI hP hS hl htb hE
  have hl : lv_has ls 2 [(0, .ref (ad 0)), (1, .int (v))] := hl
  refine lv_iload_n hx hb dX5_over_0 rfl (lv_at hl 1 rfl) ?_
  refine lv_iconst (v := nI 0) hx hb dX5_over_1 (by decide) ?_
  refine lv_bipush (v := nI 8) hx hb dX5_over_2 (by decide) ?_
  exact fx_So (As := [.int (v), .int (nI 0), .int (nI 8)]) (rest := []) hx hb hml hown htg hlocks hK hI hP hS hl.1 htb hE (mX5_checkArgument_t l hlt D ct ad Ms kp nx sz B A tn p9 kd v (nI 0) (nI 8)  hbad) cw_X5_71 rfl rfl ⟨Nat.le_of_ble_eq_true rfl, Nat.le_of_ble_eq_true rfl⟩ (Nat.le_of_ble_eq_true rfl) dX5_over_4 ⟨Nat.le_refl _, Nat.le_refl _⟩
set_option maxRecDepth 100000 in
set_option maxHeartbeats 4000000 in
theorem mX5_pass_tA (l : Launch) (hlt : l.stackTraces = false) (D : va_G) (ct : Nat → ClassId) (ad : Nat → Nat) (Ms : Nat → Nat → Int32) (kp : Nat → Int32) (nx sz : Nat) (B A : Nat → Int32) (tn p9 : Nat) (kd : Int32) (v : Int32)   (hbad : v < nI 1 ∨ nI 48 < v) : TMet l yX5_pass cX5_pass 3 (some .int) 7 104 D ct 198 ad [.ref (ad 0), .int (v)] (csc ct ad Ms kp (nI nx) (nI sz) B A (nI tn) (nI p9) kd) EA (csc ct ad Ms kp (nI nx) (nI sz) B A (nI tn) (nI p9) kd) := by
  refine TMet.of (by decide +kernel) (Nat.le_of_ble_eq_true rfl) ?_
  intro p e s m args below meth c ls hx hb hr hml hown hlocks htg hK hI hP hS hl htb hE
  have hl : lv_has ls 3 [(0, .ref (ad 0)), (1, .int (v))] := hl
  refine lv_iload_n hx hb dX5_pass_0 rfl (lv_at hl 1 rfl) ?_
  refine lv_iconst (v := nI 1) hx hb dX5_pass_1 (by decide) ?_
  refine lv_bipush (v := nI 48) hx hb dX5_pass_2 (by decide) ?_
  exact fx_So (As := [.int (v), .int (nI 1), .int (nI 48)]) (rest := []) hx hb hml hown htg hlocks hK hI hP hS hl.1 htb hE (mX5_checkArgument_t l hlt D ct ad Ms kp nx sz B A tn p9 kd v (nI 1) (nI 48)  hbad) cw_X5_71 rfl rfl ⟨Nat.le_of_ble_eq_true rfl, Nat.le_of_ble_eq_true rfl⟩ (Nat.le_of_ble_eq_true rfl) dX5_pass_4 ⟨Nat.le_refl _, Nat.le_refl _⟩
set_option maxRecDepth 100000 in
set_option maxHeartbeats 4000000 in
theorem mX5_append_tA (l : Launch) (hlt : l.stackTraces = false) (D : va_G) (ct : Nat → ClassId) (ad : Nat → Nat) (Ms : Nat → Nat → Int32) (kp : Nat → Int32) (nx sz : Nat) (B A : Nat → Int32) (tn p9 : Nat) (kd : Int32) (v : Int32)   (hbad : v < nI 33 ∨ nI 126 < v) : TMet l yX5_append cX5_append 2 (some .int) 7 104 D ct 198 ad [.ref (ad 0), .int (v)] (csc ct ad Ms kp (nI nx) (nI sz) B A (nI tn) (nI p9) kd) EA (csc ct ad Ms kp (nI nx) (nI sz) B A (nI tn) (nI p9) kd) := by
  refine TMet.of (by decide +kernel) (Nat.le_of_ble_eq_true rfl) ?_
  intro p e s m args below meth c ls hx hb hr hml hown hlocks htg hK hI hP hS hl htb hE
  have hl : lv_has ls 2 [(0, .ref (ad 0)), (1, .int (v))] := hl
  refine lv_iload_n hx hb dX5_append_0 rfl (lv_at hl 1 rfl) ?_
  refine lv_bipush (v := nI 33) hx hb dX5_append_1 (by decide) ?_
  refine lv_bipush (v := nI 126) hx hb dX5_append_3 (by decide) ?_
  exact fx_So (As := [.int (v), .int (nI 33), .int (nI 126)]) (rest := []) hx hb hml hown htg hlocks hK hI hP hS hl.1 htb hE (mX5_checkArgument_t l hlt D ct ad Ms kp nx sz B A tn p9 kd v (nI 33) (nI 126)  hbad) cw_X5_71 rfl rfl ⟨Nat.le_of_ble_eq_true rfl, Nat.le_of_ble_eq_true rfl⟩ (Nat.le_of_ble_eq_true rfl) dX5_append_5 ⟨Nat.le_refl _, Nat.le_refl _⟩
set_option maxRecDepth 100000 in
set_option maxHeartbeats 4000000 in
theorem mX5_keep_tA (l : Launch) (hlt : l.stackTraces = false) (D : va_G) (ct : Nat → ClassId) (ad : Nat → Nat) (Ms : Nat → Nat → Int32) (kp : Nat → Int32) (nx sz : Nat) (B A : Nat → Int32) (tn p9 : Nat) (kd : Int32) (v : Int32)   (hbad : v < nI 0 ∨ nI 1 < v) : TMet l yX5_keep cX5_keep 2 (some .int) 7 104 D ct 198 ad [.ref (ad 0), .int (v)] (csc ct ad Ms kp (nI nx) (nI sz) B A (nI tn) (nI p9) kd) EA (csc ct ad Ms kp (nI nx) (nI sz) B A (nI tn) (nI p9) kd) := by
  refine TMet.of (by decide +kernel) (Nat.le_of_ble_eq_true rfl) ?_
  intro p e s m args below meth c ls hx hb hr hml hown hlocks htg hK hI hP hS hl htb hE
  have hl : lv_has ls 2 [(0, .ref (ad 0)), (1, .int (v))] := hl
  refine lv_iload_n hx hb dX5_keep_0 rfl (lv_at hl 1 rfl) ?_
  refine lv_iconst (v := nI 0) hx hb dX5_keep_1 (by decide) ?_
  refine lv_iconst (v := nI 1) hx hb dX5_keep_2 (by decide) ?_
  exact fx_So (As := [.int (v), .int (nI 0), .int (nI 1)]) (rest := []) hx hb hml hown htg hlocks hK hI hP hS hl.1 htb hE (mX5_checkArgument_t l hlt D ct ad Ms kp nx sz B A tn p9 kd v (nI 0) (nI 1)  hbad) cw_X5_71 rfl rfl ⟨Nat.le_of_ble_eq_true rfl, Nat.le_of_ble_eq_true rfl⟩ (Nat.le_of_ble_eq_true rfl) dX5_keep_3 ⟨Nat.le_refl _, Nat.le_refl _⟩
set_option maxRecDepth 100000 in
set_option maxHeartbeats 4000000 in
theorem mX5_goBack_tA (l : Launch) (hlt : l.stackTraces = false) (D : va_G) (ct : Nat → ClassId) (ad : Nat → Nat) (Ms : Nat → Nat → Int32) (kp : Nat → Int32) (nx sz : Nat) (B A : Nat → Int32) (tn p9 : Nat) (kd : Int32) (v : Int32)   (hbad : v < nI 0 ∨ nI 1 < v) : TMet l yX5_goBack cX5_goBack 2 (some .int) 7 104 D ct 198 ad [.ref (ad 0), .int (v)] (csc ct ad Ms kp (nI nx) (nI sz) B A (nI tn) (nI p9) kd) EA (csc ct ad Ms kp (nI nx) (nI sz) B A (nI tn) (nI p9) kd) := by
  refine TMet.of (by decide +kernel) (Nat.le_of_ble_eq_true rfl) ?_
  intro p e s m args below meth c ls hx hb hr hml hown hlocks htg hK hI hP hS hl htb hE
  have hl : lv_has ls 2 [(0, .ref (ad 0)), (1, .int (v))] := hl
  refine lv_iload_n hx hb dX5_goBack_0 rfl (lv_at hl 1 rfl) ?_
  refine lv_iconst (v := nI 0) hx hb dX5_goBack_1 (by decide) ?_
  refine lv_iconst (v := nI 1) hx hb dX5_goBack_2 (by decide) ?_
  exact fx_So (As := [.int (v), .int (nI 0), .int (nI 1)]) (rest := []) hx hb hml hown htg hlocks hK hI hP hS hl.1 htb hE (mX5_checkArgument_t l hlt D ct ad Ms kp nx sz B A tn p9 kd v (nI 0) (nI 1)  hbad) cw_X5_71 rfl rfl ⟨Nat.le_of_ble_eq_true rfl, Nat.le_of_ble_eq_true rfl⟩ (Nat.le_of_ble_eq_true rfl) dX5_goBack_3 ⟨Nat.le_refl _, Nat.le_refl _⟩
set_option maxRecDepth 100000 in
set_option maxHeartbeats 4000000 in
theorem mX5_breaker_tA (l : Launch) (hlt : l.stackTraces = false) (D : va_G) (ct : Nat → ClassId) (ad : Nat → Nat) (Ms : Nat → Nat → Int32) (kp : Nat → Int32) (nx sz : Nat) (B A : Nat → Int32) (tn p9 : Nat) (kd : Int32) (v : Int32) (w : Int32)   (hbad : v < nI 0 ∨ nI 3 < v) : TMet l yX5_breaker cX5_breaker 4 (some .int) 7 104 D ct 198 ad [.ref (ad 0), .int (v), .int (w)] (csc ct ad Ms kp (nI nx) (nI sz) B A (nI tn) (nI p9) kd) EA (csc ct ad Ms kp (nI nx) (nI sz) B A (nI tn) (nI p9) kd) := by
  refine TMet.of (by decide +kernel) (Nat.le_of_ble_eq_true rfl) ?_
  intro p e s m args below meth c ls hx hb hr hml hown hlocks htg hK hI hP hS hl htb hE
  have hl : lv_has ls 4 [(0, .ref (ad 0)), (1, .int (v)), (2, .int (w))] := hl
  refine lv_iload_n hx hb dX5_breaker_0 rfl (lv_at hl 1 rfl) ?_
  refine lv_iconst (v := nI 0) hx hb dX5_breaker_1 (by decide) ?_
  refine lv_iconst (v := nI 3) hx hb dX5_breaker_2 (by decide) ?_
  exact fx_So (As := [.int (v), .int (nI 0), .int (nI 3)]) (rest := []) hx hb hml hown htg hlocks hK hI hP hS hl.1 htb hE (mX5_checkArgument_t l hlt D ct ad Ms kp nx sz B A tn p9 kd v (nI 0) (nI 3)  hbad) cw_X5_71 rfl rfl ⟨Nat.le_of_ble_eq_true rfl, Nat.le_of_ble_eq_true rfl⟩ (Nat.le_of_ble_eq_true rfl) dX5_breaker_3 ⟨Nat.le_refl _, Nat.le_refl _⟩
set_option maxRecDepth 100000 in
set_option maxHeartbeats 4000000 in
theorem mX5_socket_tA (l : Launch) (hlt : l.stackTraces = false) (D : va_G) (ct : Nat → ClassId) (ad : Nat → Nat) (Ms : Nat → Nat → Int32) (kp : Nat → Int32) (nx sz : Nat) (B A : Nat → Int32) (tn p9 : Nat) (kd : Int32) (v : Int32) (w : Int32)   (hbad : v < nI 0 ∨ nI 11 < v) : TMet l yX5_socket cX5_socket 3 (some .int) 7 104 D ct 198 ad [.ref (ad 0), .int (v), .int (w)] (csc ct ad Ms kp (nI nx) (nI sz) B A (nI tn) (nI p9) kd) EA (csc ct ad Ms kp (nI nx) (nI sz) B A (nI tn) (nI p9) kd) := by
  refine TMet.of (by decide +kernel) (Nat.le_of_ble_eq_true rfl) ?_
  intro p e s m args below meth c ls hx hb hr hml hown hlocks htg hK hI hP hS hl htb hE
  have hl : lv_has ls 3 [(0, .ref (ad 0)), (1, .int (v)), (2, .int (w))] := hl
  refine lv_iload_n hx hb dX5_socket_0 rfl (lv_at hl 1 rfl) ?_
  refine lv_iconst (v := nI 0) hx hb dX5_socket_1 (by decide) ?_
  refine lv_bipush (v := nI 11) hx hb dX5_socket_2 (by decide) ?_
  exact fx_So (As := [.int (v), .int (nI 0), .int (nI 11)]) (rest := []) hx hb hml hown htg hlocks hK hI hP hS hl.1 htb hE (mX5_checkArgument_t l hlt D ct ad Ms kp nx sz B A tn p9 kd v (nI 0) (nI 11)  hbad) cw_X5_71 rfl rfl ⟨Nat.le_of_ble_eq_true rfl, Nat.le_of_ble_eq_true rfl⟩ (Nat.le_of_ble_eq_true rfl) dX5_socket_4 ⟨Nat.le_refl _, Nat.le_refl _⟩
set_option maxRecDepth 100000 in
set_option maxHeartbeats 4000000 in
theorem mX5_count_tA (l : Launch) (hlt : l.stackTraces = false) (D : va_G) (ct : Nat → ClassId) (ad : Nat → Nat) (Ms : Nat → Nat → Int32) (kp : Nat → Int32) (nx sz : Nat) (B A : Nat → Int32) (tn p9 : Nat) (kd : Int32) (v : Int32)   (hbad : v < nI 0 ∨ nI 11 < v) : TMet l yX5_count cX5_count 2 (some .int) 7 104 D ct 198 ad [.ref (ad 0), .int (v)] (csc ct ad Ms kp (nI nx) (nI sz) B A (nI tn) (nI p9) kd) EA (csc ct ad Ms kp (nI nx) (nI sz) B A (nI tn) (nI p9) kd) := by
  refine TMet.of (by decide +kernel) (Nat.le_of_ble_eq_true rfl) ?_
  intro p e s m args below meth c ls hx hb hr hml hown hlocks htg hK hI hP hS hl htb hE
  have hl : lv_has ls 2 [(0, .ref (ad 0)), (1, .int (v))] := hl
  refine lv_iload_n hx hb dX5_count_0 rfl (lv_at hl 1 rfl) ?_
  refine lv_iconst (v := nI 0) hx hb dX5_count_1 (by decide) ?_
  refine lv_bipush (v := nI 11) hx hb dX5_count_2 (by decide) ?_
  exact fx_So (As := [.int (v), .int (nI 0), .int (nI 11)]) (rest := []) hx hb hml hown htg hlocks hK hI hP hS hl.1 htb hE (mX5_checkArgument_t l hlt D ct ad Ms kp nx sz B A tn p9 kd v (nI 0) (nI 11)  hbad) cw_X5_71 rfl rfl ⟨Nat.le_of_ble_eq_true rfl, Nat.le_of_ble_eq_true rfl⟩ (Nat.le_of_ble_eq_true rfl) dX5_count_4 ⟨Nat.le_refl _, Nat.le_refl _⟩
set_option maxRecDepth 100000 in
set_option maxHeartbeats 4000000 in
theorem mX5_tripsIn_tA (l : Launch) (hlt : l.stackTraces = false) (D : va_G) (ct : Nat → ClassId) (ad : Nat → Nat) (Ms : Nat → Nat → Int32) (kp : Nat → Int32) (nx sz : Nat) (B A : Nat → Int32) (tn p9 : Nat) (kd : Int32) (v : Int32)   (hbad : v < nI 0 ∨ nI 3 < v) : TMet l yX5_tripsIn cX5_tripsIn 3 (some .int) 7 104 D ct 198 ad [.ref (ad 0), .int (v)] (csc ct ad Ms kp (nI nx) (nI sz) B A (nI tn) (nI p9) kd) EA (csc ct ad Ms kp (nI nx) (nI sz) B A (nI tn) (nI p9) kd) := by
  refine TMet.of (by decide +kernel) (Nat.le_of_ble_eq_true rfl) ?_
  intro p e s m args below meth c ls hx hb hr hml hown hlocks htg hK hI hP hS hl htb hE
  have hl : lv_has ls 3 [(0, .ref (ad 0)), (1, .int (v))] := hl
  refine lv_iload_n hx hb dX5_tripsIn_0 rfl (lv_at hl 1 rfl) ?_
  refine lv_iconst (v := nI 0) hx hb dX5_tripsIn_1 (by decide) ?_
  refine lv_iconst (v := nI 3) hx hb dX5_tripsIn_2 (by decide) ?_
  exact fx_So (As := [.int (v), .int (nI 0), .int (nI 3)]) (rest := []) hx hb hml hown htg hlocks hK hI hP hS hl.1 htb hE (mX5_checkArgument_t l hlt D ct ad Ms kp nx sz B A tn p9 kd v (nI 0) (nI 3)  hbad) cw_X5_71 rfl rfl ⟨Nat.le_of_ble_eq_true rfl, Nat.le_of_ble_eq_true rfl⟩ (Nat.le_of_ble_eq_true rfl) dX5_tripsIn_3 ⟨Nat.le_refl _, Nat.le_refl _⟩
set_option maxRecDepth 100000 in
set_option maxHeartbeats 4000000 in
theorem mX5_leastBound_tA (l : Launch) (hlt : l.stackTraces = false) (D : va_G) (ct : Nat → ClassId) (ad : Nat → Nat) (Ms : Nat → Nat → Int32) (kp : Nat → Int32) (nx sz : Nat) (B A : Nat → Int32) (tn p9 : Nat) (kd : Int32) (v : Int32)   (hbad : v < nI 0 ∨ nI 3 < v) : TMet l yX5_leastBound cX5_leastBound 4 (some .int) 7 104 D ct 198 ad [.ref (ad 0), .int (v)] (csc ct ad Ms kp (nI nx) (nI sz) B A (nI tn) (nI p9) kd) EA (csc ct ad Ms kp (nI nx) (nI sz) B A (nI tn) (nI p9) kd) := by
  refine TMet.of (by decide +kernel) (Nat.le_of_ble_eq_true rfl) ?_
  intro p e s m args below meth c ls hx hb hr hml hown hlocks htg hK hI hP hS hl htb hE
  have hl : lv_has ls 4 [(0, .ref (ad 0)), (1, .int (v))] := hl
  refine lv_iload_n hx hb dX5_leastBound_0 rfl (lv_at hl 1 rfl) ?_
  refine lv_iconst (v := nI 0) hx hb dX5_leastBound_1 (by decide) ?_
  refine lv_iconst (v := nI 3) hx hb dX5_leastBound_2 (by decide) ?_
  exact fx_So (As := [.int (v), .int (nI 0), .int (nI 3)]) (rest := []) hx hb hml hown htg hlocks hK hI hP hS hl.1 htb hE (mX5_checkArgument_t l hlt D ct ad Ms kp nx sz B A tn p9 kd v (nI 0) (nI 3)  hbad) cw_X5_71 rfl rfl ⟨Nat.le_of_ble_eq_true rfl, Nat.le_of_ble_eq_true rfl⟩ (Nat.le_of_ble_eq_true rfl) dX5_leastBound_3 ⟨Nat.le_refl _, Nat.le_refl _⟩
