/-! THE CLASS: a character appended -/
theorem chr_u : ∀ c, c < 127 → ((nI c).toUInt32 % 65536).toInt32 = nI c := by decide +kernel
theorem chr_n : ∀ c, c < 127 → vp_nar .char (nI c) = nI c := by decide +kernel
set_option maxRecDepth 100000 in
set_option maxHeartbeats 4000000 in
theorem mX5_append (l : Launch) (D : va_G) (ct : Nat → ClassId) (ad : Nat → Nat) (Ms : Nat → Nat → Int32) (kp : Nat → Int32) (nx sz : Nat) (B A : Nat → Int32) (tn p9 : Nat) (kd : Int32) (c9 : Nat)   (htn : tn < 60) (hc1 : 33 ≤ c9) (hc2 : c9 ≤ 126) : FMet l yX5_append cX5_append 2 (some .int) 1 22 D ct 198 ad [.ref (ad 0), .int (nI c9)] (csc ct ad Ms kp (nI nx) (nI sz) B A (nI tn) (nI p9) kd) (some (.int (nI (tn + 1)))) (csc ct ad Ms kp (nI nx) (nI sz) (upd B tn (nI c9)) A (nI (tn + 1)) (nI p9) kd) := by
  refine FMet.of (by decide +kernel) (Nat.le_of_ble_eq_true rfl) ?_
  intro p e s m args below meth c ls hx hb hr hml hown hlocks htg hK hI hP hS hl
  have hl : lv_has ls 2 [(0, .ref (ad 0)), (1, .int (nI c9))] := hl
  refine lv_iload_n hx hb dX5_append_0 rfl (lv_at hl 1 rfl) ?_
  refine lv_bipush (v := nI 33) hx hb dX5_append_1 (by decide) ?_
  refine lv_bipush (v := nI 126) hx hb dX5_append_3 (by decide) ?_
  refine cs_cS0 (As := [.int (nI c9), .int (nI 33), .int (nI 126)]) (rest := []) hx hb hown htg hK hI hS hP hml hl.1 (mX5_checkArgument l D ct ad Ms kp nx sz B A tn p9 kd (nI c9) (nI 33) (nI 126) (Int32.not_lt.mpr ((n_le (by omega) (by omega)).mpr (by omega))) (Int32.not_lt.mpr ((n_le (by omega) (by omega)).mpr (by omega)))) cw_X5_71 rfl rfl ⟨Nat.le_of_ble_eq_true rfl, Nat.le_of_ble_eq_true rfl⟩ (Nat.le_of_ble_eq_true rfl) dX5_append_5 ⟨Nat.le_refl _, Nat.le_refl _⟩ (fun H locs hP hS => ?_)
  refine lv_aload_n hx hb dX5_append_8 rfl (lv_at hl 0 rfl) ?_
  refine cs_g5 hx hb hown htg hK hP fl_X5_37 dX5_append_9 ?_
  refine cs_q1 hx hb hown htg hK hP fl_X5_153 dX5_append_12 ?_
  refine lv_bipush (v := nI 60) hx hb dX5_append_15 (by decide) ?_
  refine lv_icmp_ltN (tgt := 30) hx hb (by omega) (by omega) dX5_append_17 (by decide) (fun c17 => ?_) (fun c17 => ?_)
  · refine lv_aload_n hx hb dX5_append_30 rfl (lv_at hl 0 rfl) ?_
    refine cs_g5 hx hb hown htg hK hP fl_X5_37 dX5_append_31 ?_
    refine cs_q0 hx hb hown htg hK hP fl_X5_158 dX5_append_34 ?_
    refine lv_aload_n hx hb dX5_append_37 rfl (lv_at hl 0 rfl) ?_
    refine cs_g5 hx hb hown htg hK hP fl_X5_37 dX5_append_38 ?_
    refine cs_q1 hx hb hown htg hK hP fl_X5_153 dX5_append_41 ?_
    refine lv_iload_n hx hb dX5_append_44 rfl (lv_at hl 1 rfl) ?_
    refine lv_i2c (v := nI c9) hx hb dX5_append_45 (chr_u _ (by omega)) ?_
    refine cs_ws hx hb hK hI hS hP (by omega) (chr_n _ (by omega)) dX5_append_46 (fun H locs hP hS => ?_)
    refine lv_aload_n hx hb dX5_append_47 rfl (lv_at hl 0 rfl) ?_
    refine cs_g5 hx hb hown htg hK hP fl_X5_37 dX5_append_48 ?_
    refine lv_dup hx hb dX5_append_51 rfl ?_
    refine cs_q1 hx hb hown htg hK hP fl_X5_153 dX5_append_52 ?_
    refine lv_iconst (v := nI 1) hx hb dX5_append_55 (by decide) ?_
    refine lv_iaddN hx hb dX5_append_56 ?_
    refine cs_qp1 hx hb hown htg hK hI hS hP fl_X5_153 dX5_append_57 (fun H locs hP hS => ?_)
    refine lv_aload_n hx hb dX5_append_60 rfl (lv_at hl 0 rfl) ?_
    refine cs_g5 hx hb hown htg hK hP fl_X5_37 dX5_append_61 ?_
    refine cs_q1 hx hb hown htg hK hP fl_X5_153 dX5_append_64 ?_
    refine fr_iret hx hb hr hlocks hK hI hS rfl dX5_append_67 ?_ ?_
    · exact rfl
    · exact hP
  · exfalso; omega
