/-! THE CLASS: a plan opened -/
theorem mW_va {Ms : Nat → Nat → Int32} {n i : Nat} {X : Nat → Int32} (h : mW (Ms 0) n) (hi : 0 ≠ i) : mW (va_up Ms i X 0) n := by rw [va_up_ne _ _ hi]; exact h
set_option maxRecDepth 100000 in
set_option maxHeartbeats 4000000 in
theorem mX5_open (l : Launch) (D : va_G) (ct : Nat → ClassId) (ad : Nat → Nat) (Ms : Nat → Nat → Int32) (kp : Nat → Int32) (nx sz : Nat) (B A : Nat → Int32) (tn p9 : Nat) (kd : Int32)  (n : Nat) (w0 : Bool × Nat × (Nat → Int32) × Int32) (hw0 : pW B tn 60 0 A kd = w0) (o0 : Nat × (Nat → Nat → Int32) × Nat × Nat × (Nat → Int32) × Int32) (ho0 : cOr B tn 60 0 (va_up Ms (4 + nx) (cCp (Ms (4 + nx)) (Ms 0) n)) n 0 w0.2.2.1 w0.2.2.2 = o0) (hw : mW (Ms 0) n) (hbw : bW (Ms 0) n) (hnx : nx < 6) (hsz : sz ≤ 6) (htn : tn ≤ 60) (hok9 : w0.1 = true) : FMet l yX5_open cX5_open 2 (some .int) 7 151 D ct 198 ad [.ref (ad 0)] (csc ct ad Ms kp (nI nx) (nI sz) B A (nI tn) (nI p9) kd) (some (.int (nI o0.1))) (csc ct ad o0.2.1 kp (nI ((nx + 1) % 6)) (nI (svn sz)) B o0.2.2.2.2.1 (nI 0) (nI o0.2.2.2.1) o0.2.2.2.2.2) := by
  refine FMet.of (by decide +kernel) (Nat.le_of_ble_eq_true rfl) ?_
  intro p e s m args below meth c ls hx hb hr hml hown hlocks htg hK hI hP hS hl
  have hl : lv_has ls 2 [(0, .ref (ad 0))] := hl
  have hn10 := hw.2
  refine lv_aload_n hx hb dX5_open_0 rfl (lv_at hl 0 rfl) ?_
  refine cs_g5 hx hb hown htg hK hP fl_X5_37 dX5_open_1 ?_
  obtain ⟨rr1, hrr1⟩ : ∃ z9, pW B tn 60 0 A kd = z9 := ⟨_, rfl⟩
  refine cs_cpr (As := []) (rest := []) hx hb hown htg hK hI hS hP hml hl.1 (mX3_readWhole l D ct (fun z => ad (5 + z)) B A tn p9 kd rr1 hrr1 (by omega)) cw_X5_162 rfl rfl ⟨Nat.le_of_ble_eq_true rfl, Nat.le_of_ble_eq_true rfl⟩ (Nat.le_of_ble_eq_true rfl) dX5_open_4 ⟨Nat.le_refl _, Nat.le_refl _⟩ (fun H locs hP hS => ?_)
  refine lv_ifneB (tgt := 20) hx hb dX5_open_7 (by decide) (fun c7 => ?_) (fun c7 => ?_)
  · refine lv_aload_n hx hb dX5_open_20 rfl (lv_at hl 0 rfl) ?_
    refine cs_g4 hx hb hown htg hK hP fl_X5_30 dX5_open_21 ?_
    refine lv_aload_n hx hb dX5_open_24 rfl (lv_at hl 0 rfl) ?_
    refine cs_g0 hx hb hown htg hK hP fl_X5_10 dX5_open_25 ?_
    refine cs_ch0 (As := [.ref (ad (8 + 19 * 0 + 0))]) (rest := []) hx hb hown htg hK hI hS hP hml hl.1 (mX1_save l D ct ad Ms kp nx sz B rr1.2.2.1 tn rr1.2.1 rr1.2.2.2 n hw hbw (by omega) (by omega)) cw_X5_59 rfl rfl ⟨Nat.le_of_ble_eq_true rfl, Nat.le_of_ble_eq_true rfl⟩ (Nat.le_of_ble_eq_true rfl) dX5_open_28 ⟨Nat.le_refl _, Nat.le_refl _⟩ (fun H locs hP hS => ?_)
    refine lv_aload_n hx hb dX5_open_31 rfl (lv_at hl 0 rfl) ?_
    obtain ⟨rr2, hrr2⟩ : ∃ z9, cOr B tn 60 0 (va_up Ms (4 + nx) (cCp (Ms (4 + nx)) ((Ms 0)) n)) n 0 rr1.2.2.1 rr1.2.2.2 = z9 := ⟨_, rfl⟩
    refine cs_cor (As := []) (rest := []) hx hb hown htg hK hI hS hP hml hl.1 (mX5_doOrders l D ct ad (va_up Ms (4 + nx) (cCp (Ms (4 + nx)) ((Ms 0)) n)) kp ((nx + 1) % 6) (svn sz) B rr1.2.2.1 tn rr1.2.1 rr1.2.2.2 n rr2 hrr2 (mW_va hw (by omega)) (by omega)) cw_X5_170 rfl rfl ⟨Nat.le_of_ble_eq_true rfl, Nat.le_of_ble_eq_true rfl⟩ (Nat.le_of_ble_eq_true rfl) dX5_open_32 ⟨Nat.le_refl _, Nat.le_refl _⟩ (fun H locs hP hS => ?_)
    refine lv_teq (y := nI rr2.1) rfl ?_
    refine lv_istore_n (lv' := [(1, .int (nI rr2.1)), (0, .ref (ad 0))]) hx hb dX5_open_35 rfl hl (by decide) rfl (fun ls hl => ?_)
    have e1 : w0 = rr1 := hw0.symm.trans hrr1
    have e2 : o0 = rr2 := by rw [← ho0, e1]; exact hrr2
    refine lv_aload_n hx hb dX5_open_36 rfl (lv_at hl 1 rfl) ?_
    refine cs_g5 hx hb hown htg hK hP fl_X5_37 dX5_open_37 ?_
    refine lv_iconst (v := nI 0) hx hb dX5_open_40 (by decide) ?_
    refine cs_qp1 hx hb hown htg hK hI hS hP fl_X5_153 dX5_open_41 (fun H locs hP hS => ?_)
    refine lv_iload_n hx hb dX5_open_44 rfl (lv_at hl 0 rfl) ?_
    refine fr_iret hx hb hr hlocks hK hI hS rfl dX5_open_45 ?_ ?_
    · exact congrArg nI (show rr2.1 = o0.1 from by rw [e2])
    · refine fP.eqc (congrArg (fun v9 => csc ct ad v9 kp (nI ((nx + 1) % 6)) (nI (svn sz)) B o0.2.2.2.2.1 (nI 0) (nI o0.2.2.2.1) o0.2.2.2.2.2) (show o0.2.1 = rr2.2.1 from by rw [e2]).symm) ?_
      refine fP.eqc (congrArg (fun v9 => csc ct ad rr2.2.1 kp (nI ((nx + 1) % 6)) (nI (svn sz)) B v9 (nI 0) (nI o0.2.2.2.1) o0.2.2.2.2.2) (show o0.2.2.2.2.1 = rr2.2.2.2.2.1 from by rw [e2]).symm) ?_
      refine fP.eqc (congrArg (fun v9 => csc ct ad rr2.2.1 kp (nI ((nx + 1) % 6)) (nI (svn sz)) B rr2.2.2.2.2.1 (nI 0) (nI v9) o0.2.2.2.2.2) (show o0.2.2.2.1 = rr2.2.2.2.1 from by rw [e2]).symm) ?_
      refine fP.eqc (congrArg (fun v9 => csc ct ad rr2.2.1 kp (nI ((nx + 1) % 6)) (nI (svn sz)) B rr2.2.2.2.2.1 (nI 0) (nI rr2.2.2.2.1) v9) (show o0.2.2.2.2.2 = rr2.2.2.2.2.2 from by rw [e2]).symm) ?_
      exact hP
  · rw [show rr1 = w0 from hrr1.symm.trans hw0, hok9] at c7; exact absurd c7 (by decide)
