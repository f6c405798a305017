/-! THE REFERENCE: a plan opened -/
set_option maxRecDepth 100000 in
set_option maxHeartbeats 4000000 in
theorem m6_open (l : Launch) (D : va_G) (ct : Nat → ClassId) (ad : Nat → Nat) (Z g : Nat → Int32) (hs : Int64) (F : Nat → Nat → Int32)  (n : Nat) (q : Nat) (tn : Nat)  (hw : zW Z n) (hg3 : g 3 = nI q) (hq6 : q ≤ 6) (ht : g 8 = nI tn) (htn : tn ≤ 60) : FMet l yX6_open cX6_open 2 (some .int) 8 183 D ct 8 ad [.ref (ad 0)] (mdc ct ad Z g hs F) (some (.int (if tOpen F tn = 0 then nI (opR F tn Z n).1 else nI 0))) (mdc ct ad (if tOpen F tn = 0 then (opR F tn Z n).2.1 else Z) (if tOpen F tn = 0 then upd (upd (upd (upd (upd (upd g 10 (nI (rbR (F 6) tn (F 7)).1)) 11 (nI (rbR (F 6) tn (F 7)).2.1)) 12 (ow (rbR (F 6) tn (F 7)).2.2.1)) 0 (nI 0)) 3 (nI (svn q))) 8 (nI 0) else upd (upd (upd (upd g 10 (nI (rbR (F 6) tn (F 7)).1)) 11 (nI (rbR (F 6) tn (F 7)).2.1)) 12 (ow (rbR (F 6) tn (F 7)).2.2.1)) 0 (nI (tOpen F tn))) hs (if tOpen F tn = 0 then va_up (va_up F 7 (rbR (F 6) tn (F 7)).2.2.2) 2 (svf (F 2) Z q) else (va_up F 7 (rbR (F 6) tn (F 7)).2.2.2))) := by
  refine FMet.of (by decide +kernel) (Nat.le_of_ble_eq_true rfl) ?_
  intro p e s m args below meth c ls hx hb hr hml hown hlocks htg hK hI hP hS hl
  have hl : lv_has ls 2 [(0, .ref (ad 0))] := hl
  have hn10 := hw.1
  refine lv_aload_n hx hb dX6_open_0 rfl (lv_at hl 0 rfl) ?_
  refine lv_aload_n hx hb dX6_open_1 rfl (lv_at hl 0 rfl) ?_
  obtain ⟨rr1, hrr1⟩ : ∃ z9, rbR ((F 6)) tn ((F 7)) = z9 := ⟨_, rfl⟩
  refine md_cVr (As := []) (rest := [.ref (ad 0)]) hx hb hown htg hK hI hS hP hml hl.1 (m6_readBuffer l D ct ad _ _ _ _ tn rr1 hrr1 ht (by omega)) cw_X6_157 rfl rfl ⟨Nat.le_of_ble_eq_true rfl, Nat.le_of_ble_eq_true rfl⟩ (Nat.le_of_ble_eq_true rfl) dX6_open_2 ⟨Nat.le_refl _, Nat.le_refl _⟩ (fun H locs hP hS => ?_)
  refine lv_iconst (v := -1) hx hb dX6_open_5 (by decide) ?_
  refine lv_icmp_ne (tgt := 13) hx hb dX6_open_6 (by decide) (fun c6 => ?_) (fun c6 => ?_)
  · refine lv_iconst (v := nI 1) hx hb dX6_open_13 (by decide) ?_
    refine md_p0 hx hb hown htg hK hI hS hP dX6_open_14 (fun H locs hP hS => ?_)
    refine lv_aload_n hx hb dX6_open_17 rfl (lv_at hl 0 rfl) ?_
    refine md_g0 (v := nI 1) hx hb hown htg hK hP rfl dX6_open_18 ?_
    refine lv_if_le (tgt := 26) hx hb dX6_open_21 (by decide) (fun h => absurd h (by decide)) (fun _ => ?_)
    have hto : tOpen F tn = 1 := by unfold tOpen; rw [hrr1, if_neg (ow_nm c6)]
    refine lv_iconst (v := nI 0) hx hb dX6_open_24 (by decide) ?_
    refine fr_iret hx hb hr hlocks hK hI hS rfl dX6_open_25 ?_ ?_
    · first | (rw [if_pos hto, hR9]; done) | (rw [if_pos hto, hR9, dsZ_f c47x]; done) | (rw [if_pos hto, hrr1]; done) | (rw [if_neg (by omega), hrr1]; done) | (rw [if_neg (by omega)]; done) | (rw [if_neg (by omega), hrr1, hto]; done)
    · refine fP.eqc (congrArg (fun v9 => mdc ct ad v9 (if tOpen F tn = 0 then upd (upd (upd (upd (upd (upd g 10 (nI (rbR (F 6) tn (F 7)).1)) 11 (nI (rbR (F 6) tn (F 7)).2.1)) 12 (ow (rbR (F 6) tn (F 7)).2.2.1)) 0 (nI 0)) 3 (nI (svn q))) 8 (nI 0) else upd (upd (upd (upd g 10 (nI (rbR (F 6) tn (F 7)).1)) 11 (nI (rbR (F 6) tn (F 7)).2.1)) 12 (ow (rbR (F 6) tn (F 7)).2.2.1)) 0 (nI (tOpen F tn))) hs (if tOpen F tn = 0 then va_up (va_up F 7 (rbR (F 6) tn (F 7)).2.2.2) 2 (svf (F 2) Z q) else (va_up F 7 (rbR (F 6) tn (F 7)).2.2.2))) (show (if tOpen F tn = 0 then (opR F tn Z n).2.1 else Z) = Z from by first | (rw [if_pos hto, hR9]; done) | (rw [if_pos hto, hR9, dsZ_f c47x]; done) | (rw [if_pos hto, hrr1]; done) | (rw [if_neg (by omega), hrr1]; done) | (rw [if_neg (by omega)]; done) | (rw [if_neg (by omega), hrr1, hto]; done)).symm) ?_
      refine fP.eqc (congrArg (fun v9 => mdc ct ad Z v9 hs (if tOpen F tn = 0 then va_up (va_up F 7 (rbR (F 6) tn (F 7)).2.2.2) 2 (svf (F 2) Z q) else (va_up F 7 (rbR (F 6) tn (F 7)).2.2.2))) (show (if tOpen F tn = 0 then upd (upd (upd (upd (upd (upd g 10 (nI (rbR (F 6) tn (F 7)).1)) 11 (nI (rbR (F 6) tn (F 7)).2.1)) 12 (ow (rbR (F 6) tn (F 7)).2.2.1)) 0 (nI 0)) 3 (nI (svn q))) 8 (nI 0) else upd (upd (upd (upd g 10 (nI (rbR (F 6) tn (F 7)).1)) 11 (nI (rbR (F 6) tn (F 7)).2.1)) 12 (ow (rbR (F 6) tn (F 7)).2.2.1)) 0 (nI (tOpen F tn))) = (upd (upd (upd (upd g 10 (nI rr1.1)) 11 (nI rr1.2.1)) 12 (ow rr1.2.2.1)) 0 (nI 1)) from by first | (rw [if_pos hto, hR9]; done) | (rw [if_pos hto, hR9, dsZ_f c47x]; done) | (rw [if_pos hto, hrr1]; done) | (rw [if_neg (by omega), hrr1]; done) | (rw [if_neg (by omega)]; done) | (rw [if_neg (by omega), hrr1, hto]; done)).symm) ?_
      refine fP.eqc (congrArg (fun v9 => mdc ct ad Z (upd (upd (upd (upd g 10 (nI rr1.1)) 11 (nI rr1.2.1)) 12 (ow rr1.2.2.1)) 0 (nI 1)) hs v9) (show (if tOpen F tn = 0 then va_up (va_up F 7 (rbR (F 6) tn (F 7)).2.2.2) 2 (svf (F 2) Z q) else (va_up F 7 (rbR (F 6) tn (F 7)).2.2.2)) = (va_up F 7 rr1.2.2.2) from by first | (rw [if_pos hto, hR9]; done) | (rw [if_pos hto, hR9, dsZ_f c47x]; done) | (rw [if_pos hto, hrr1]; done) | (rw [if_neg (by omega), hrr1]; done) | (rw [if_neg (by omega)]; done) | (rw [if_neg (by omega), hrr1, hto]; done)).symm) ?_
      exact hP
  · refine lv_iconst (v := nI 0) hx hb dX6_open_9 (by decide) ?_
    refine lv_goto (tgt := 14) hx hb dX6_open_10 (by decide) ?_
    refine md_p0 hx hb hown htg hK hI hS hP dX6_open_14 (fun H locs hP hS => ?_)
    refine lv_aload_n hx hb dX6_open_17 rfl (lv_at hl 0 rfl) ?_
    refine md_g0 (v := nI 0) hx hb hown htg hK hP rfl dX6_open_18 ?_
    refine lv_if_le (tgt := 26) hx hb dX6_open_21 (by decide) (fun _ => ?_) (fun h => absurd (by decide) h)
    have hw9 := ow_m (by rw [← hrr1]; exact rbR_w htn) c6
    have hto : tOpen F tn = 0 := by unfold tOpen; rw [hrr1, if_pos hw9]
    have hok := rbR_ok (B := F 6) (O := F 7) htn (by rw [hrr1]; exact hw9)
    rw [hrr1] at hok
    have hmn := rbR_many (B := F 6) (tn := tn) (O := F 7)
    rw [hrr1] at hmn
    refine lv_aload_n hx hb dX6_open_26 rfl (lv_at hl 0 rfl) ?_
    refine md_cV0 (As := []) (rest := []) hx hb hown htg hK hI hS hP hml hl.1 (m6_save l D ct ad _ _ _ _ q hg3 (by omega)) cw_X6_95 rfl rfl ⟨Nat.le_of_ble_eq_true rfl, Nat.le_of_ble_eq_true rfl⟩ (Nat.le_of_ble_eq_true rfl) dX6_open_27 ⟨Nat.le_refl _, Nat.le_refl _⟩ (fun H locs hP hS => ?_)
    refine lv_iconst (v := nI 0) hx hb dX6_open_30 (by decide) ?_
    refine lv_istore_n (lv' := [(1, .int (nI 0)), (0, .ref (ad 0))]) hx hb dX6_open_31 rfl hl (by decide) rfl (fun ls hl => ?_)
    have lp32 : ∀ (fu32 : Nat) (f : Nat) (i : Nat) (nn : Nat) (X : Nat → Int32), zW X nn → f + i = 22 → i ≤ rr1.1 → opL rr1.2.2.2 rr1.1 f i X nn = opL rr1.2.2.2 rr1.1 22 0 Z n → f < fu32 → ∀ (H : Heap) (locs : List Loc), fP D 8 ad (mdc ct ad X (upd (upd (upd (upd (upd g 10 (nI rr1.1)) 11 (nI rr1.2.1)) 12 (ow rr1.2.2.1)) 0 (nI 0)) 3 (nI (svn q))) hs (va_up (va_up F 7 rr1.2.2.2) 2 (svf ((F 2)) Z q))) H → va_S (fA 8 ad) s.heap H locs → ∀ (ls : Array Slot), lv_has ls 2 [(1, .int (nI i)), (0, .ref (ad 0))] → W p l e ({ frames := 8, cells := 0, slots := 0, locals := 183 }) s m args below meth c H locs 0 0 (MQ below (fQ D ct 8 ad (some (.int (if tOpen F tn = 0 then nI (opR F tn Z n).1 else nI 0))) (mdc ct ad (if tOpen F tn = 0 then (opR F tn Z n).2.1 else Z) (if tOpen F tn = 0 then upd (upd (upd (upd (upd (upd g 10 (nI (rbR (F 6) tn (F 7)).1)) 11 (nI (rbR (F 6) tn (F 7)).2.1)) 12 (ow (rbR (F 6) tn (F 7)).2.2.1)) 0 (nI 0)) 3 (nI (svn q))) 8 (nI 0) else upd (upd (upd (upd g 10 (nI (rbR (F 6) tn (F 7)).1)) 11 (nI (rbR (F 6) tn (F 7)).2.1)) 12 (ow (rbR (F 6) tn (F 7)).2.2.1)) 0 (nI (tOpen F tn))) hs (if tOpen F tn = 0 then va_up (va_up F 7 (rbR (F 6) tn (F 7)).2.2.2) 2 (svf (F 2) Z q) else (va_up F 7 (rbR (F 6) tn (F 7)).2.2.2)))) args s 0 0 (fA 8 ad)) (F0 m 32 ls []) := by
      intro fu32
      induction fu32 with
      | zero => intro f i nn X hX hfi hmi hres hfu32; exact absurd hfu32 (Nat.not_lt_zero _)
      | succ fu32 ih32 =>
        intro f i nn X hX hfi hmi hres hfu32 H locs hP hS ls hl
        refine lv_iload_n hx hb dX6_open_32 rfl (lv_at hl 0 rfl) ?_
        refine lv_aload_n hx hb dX6_open_33 rfl (lv_at hl 1 rfl) ?_
        refine md_g10 (v := nI rr1.1) hx hb hown htg hK hP rfl dX6_open_34 ?_
        refine lv_icmp_geN (tgt := 56) hx hb (by omega) (by omega) dX6_open_37 (by decide) (fun c37 => ?_) (fun c37 => ?_)
        · have hR9 : opR F tn Z n = (i, X, nn) := by unfold opR; rw [hrr1, ← hres, opL_no (fun q => absurd q.1 (by omega))]
          refine lv_aload_n hx hb dX6_open_56 rfl (lv_at hl 1 rfl) ?_
          refine lv_iconst (v := nI 0) hx hb dX6_open_57 (by decide) ?_
          refine md_p8 hx hb hown htg hK hI hS hP dX6_open_58 (fun H locs hP hS => ?_)
          refine lv_iload_n hx hb dX6_open_61 rfl (lv_at hl 0 rfl) ?_
          refine fr_iret hx hb hr hlocks hK hI hS rfl dX6_open_62 ?_ ?_
          · first | (rw [if_pos hto, hR9]; done) | (rw [if_pos hto, hR9, dsZ_f c47x]; done) | (rw [if_pos hto, hrr1]; done) | (rw [if_neg (by omega), hrr1]; done) | (rw [if_neg (by omega)]; done) | (rw [if_neg (by omega), hrr1, hto]; done)
          · refine fP.eqc (congrArg (fun v9 => mdc ct ad v9 (if tOpen F tn = 0 then upd (upd (upd (upd (upd (upd g 10 (nI (rbR (F 6) tn (F 7)).1)) 11 (nI (rbR (F 6) tn (F 7)).2.1)) 12 (ow (rbR (F 6) tn (F 7)).2.2.1)) 0 (nI 0)) 3 (nI (svn q))) 8 (nI 0) else upd (upd (upd (upd g 10 (nI (rbR (F 6) tn (F 7)).1)) 11 (nI (rbR (F 6) tn (F 7)).2.1)) 12 (ow (rbR (F 6) tn (F 7)).2.2.1)) 0 (nI (tOpen F tn))) hs (if tOpen F tn = 0 then va_up (va_up F 7 (rbR (F 6) tn (F 7)).2.2.2) 2 (svf (F 2) Z q) else (va_up F 7 (rbR (F 6) tn (F 7)).2.2.2))) (show (if tOpen F tn = 0 then (opR F tn Z n).2.1 else Z) = X from by first | (rw [if_pos hto, hR9]; done) | (rw [if_pos hto, hR9, dsZ_f c47x]; done) | (rw [if_pos hto, hrr1]; done) | (rw [if_neg (by omega), hrr1]; done) | (rw [if_neg (by omega)]; done) | (rw [if_neg (by omega), hrr1, hto]; done)).symm) ?_
            refine fP.eqc (congrArg (fun v9 => mdc ct ad X v9 hs (if tOpen F tn = 0 then va_up (va_up F 7 (rbR (F 6) tn (F 7)).2.2.2) 2 (svf (F 2) Z q) else (va_up F 7 (rbR (F 6) tn (F 7)).2.2.2))) (show (if tOpen F tn = 0 then upd (upd (upd (upd (upd (upd g 10 (nI (rbR (F 6) tn (F 7)).1)) 11 (nI (rbR (F 6) tn (F 7)).2.1)) 12 (ow (rbR (F 6) tn (F 7)).2.2.1)) 0 (nI 0)) 3 (nI (svn q))) 8 (nI 0) else upd (upd (upd (upd g 10 (nI (rbR (F 6) tn (F 7)).1)) 11 (nI (rbR (F 6) tn (F 7)).2.1)) 12 (ow (rbR (F 6) tn (F 7)).2.2.1)) 0 (nI (tOpen F tn))) = (upd (upd (upd (upd (upd (upd g 10 (nI rr1.1)) 11 (nI rr1.2.1)) 12 (ow rr1.2.2.1)) 0 (nI 0)) 3 (nI (svn q))) 8 (nI 0)) from by first | (rw [if_pos hto, hR9]; done) | (rw [if_pos hto, hR9, dsZ_f c47x]; done) | (rw [if_pos hto, hrr1]; done) | (rw [if_neg (by omega), hrr1]; done) | (rw [if_neg (by omega)]; done) | (rw [if_neg (by omega), hrr1, hto]; done)).symm) ?_
            refine fP.eqc (congrArg (fun v9 => mdc ct ad X (upd (upd (upd (upd (upd (upd g 10 (nI rr1.1)) 11 (nI rr1.2.1)) 12 (ow rr1.2.2.1)) 0 (nI 0)) 3 (nI (svn q))) 8 (nI 0)) hs v9) (show (if tOpen F tn = 0 then va_up (va_up F 7 (rbR (F 6) tn (F 7)).2.2.2) 2 (svf (F 2) Z q) else (va_up F 7 (rbR (F 6) tn (F 7)).2.2.2)) = (va_up (va_up F 7 rr1.2.2.2) 2 (svf ((F 2)) Z q)) from by first | (rw [if_pos hto, hR9]; done) | (rw [if_pos hto, hR9, dsZ_f c47x]; done) | (rw [if_pos hto, hrr1]; done) | (rw [if_neg (by omega), hrr1]; done) | (rw [if_neg (by omega)]; done) | (rw [if_neg (by omega), hrr1, hto]; done)).symm) ?_
            exact hP
        · refine lv_aload_n hx hb dX6_open_40 rfl (lv_at hl 1 rfl) ?_
          refine lv_iconst (v := nI 5) hx hb dX6_open_41 (by decide) ?_
          refine lv_iload_n hx hb dX6_open_42 rfl (lv_at hl 0 rfl) ?_
          refine lv_imulN hx hb dX6_open_43 ?_
          refine md_cVr (As := [.int (nI (5 * i))]) (rest := []) hx hb hown htg hK hI hS hP hml hl.1 (m6_does l D ct ad _ _ _ _ (5 * i) nn hX (by omega) (okO_h (hok i c37))) cw_X6_160 rfl rfl ⟨Nat.le_of_ble_eq_true rfl, Nat.le_of_ble_eq_true rfl⟩ (Nat.le_of_ble_eq_true rfl) dX6_open_44 ⟨Nat.le_refl _, Nat.le_refl _⟩ (fun H locs hP hS => ?_)
          refine lv_ifeqB (tgt := 56) hx hb dX6_open_47 (by decide) (fun c47 => ?_) (fun c47 => ?_)
          · have c47x : dsB X nn rr1.2.2.2 (5 * i) = false := c47
            have hR9 : opR F tn Z n = (i, X, nn) := by unfold opR; rw [hrr1, ← hres, opL_no (fun q => Bool.false_ne_true (c47x.symm.trans q.2))]
            refine lv_aload_n hx hb dX6_open_56 rfl (lv_at hl 1 rfl) ?_
            refine lv_iconst (v := nI 0) hx hb dX6_open_57 (by decide) ?_
            refine md_p8 hx hb hown htg hK hI hS hP dX6_open_58 (fun H locs hP hS => ?_)
            refine lv_iload_n hx hb dX6_open_61 rfl (lv_at hl 0 rfl) ?_
            refine fr_iret hx hb hr hlocks hK hI hS rfl dX6_open_62 ?_ ?_
            · first | (rw [if_pos hto, hR9]; done) | (rw [if_pos hto, hR9, dsZ_f c47x]; done) | (rw [if_pos hto, hrr1]; done) | (rw [if_neg (by omega), hrr1]; done) | (rw [if_neg (by omega)]; done) | (rw [if_neg (by omega), hrr1, hto]; done)
            · refine fP.eqc (congrArg (fun v9 => mdc ct ad v9 (if tOpen F tn = 0 then upd (upd (upd (upd (upd (upd g 10 (nI (rbR (F 6) tn (F 7)).1)) 11 (nI (rbR (F 6) tn (F 7)).2.1)) 12 (ow (rbR (F 6) tn (F 7)).2.2.1)) 0 (nI 0)) 3 (nI (svn q))) 8 (nI 0) else upd (upd (upd (upd g 10 (nI (rbR (F 6) tn (F 7)).1)) 11 (nI (rbR (F 6) tn (F 7)).2.1)) 12 (ow (rbR (F 6) tn (F 7)).2.2.1)) 0 (nI (tOpen F tn))) hs (if tOpen F tn = 0 then va_up (va_up F 7 (rbR (F 6) tn (F 7)).2.2.2) 2 (svf (F 2) Z q) else (va_up F 7 (rbR (F 6) tn (F 7)).2.2.2))) (show (if tOpen F tn = 0 then (opR F tn Z n).2.1 else Z) = (dsZ X nn (rr1.2.2.2) (5 * i)) from by first | (rw [if_pos hto, hR9]; done) | (rw [if_pos hto, hR9, dsZ_f c47x]; done) | (rw [if_pos hto, hrr1]; done) | (rw [if_neg (by omega), hrr1]; done) | (rw [if_neg (by omega)]; done) | (rw [if_neg (by omega), hrr1, hto]; done)).symm) ?_
              refine fP.eqc (congrArg (fun v9 => mdc ct ad (dsZ X nn (rr1.2.2.2) (5 * i)) v9 hs (if tOpen F tn = 0 then va_up (va_up F 7 (rbR (F 6) tn (F 7)).2.2.2) 2 (svf (F 2) Z q) else (va_up F 7 (rbR (F 6) tn (F 7)).2.2.2))) (show (if tOpen F tn = 0 then upd (upd (upd (upd (upd (upd g 10 (nI (rbR (F 6) tn (F 7)).1)) 11 (nI (rbR (F 6) tn (F 7)).2.1)) 12 (ow (rbR (F 6) tn (F 7)).2.2.1)) 0 (nI 0)) 3 (nI (svn q))) 8 (nI 0) else upd (upd (upd (upd g 10 (nI (rbR (F 6) tn (F 7)).1)) 11 (nI (rbR (F 6) tn (F 7)).2.1)) 12 (ow (rbR (F 6) tn (F 7)).2.2.1)) 0 (nI (tOpen F tn))) = (upd (upd (upd (upd (upd (upd g 10 (nI rr1.1)) 11 (nI rr1.2.1)) 12 (ow rr1.2.2.1)) 0 (nI 0)) 3 (nI (svn q))) 8 (nI 0)) from by first | (rw [if_pos hto, hR9]; done) | (rw [if_pos hto, hR9, dsZ_f c47x]; done) | (rw [if_pos hto, hrr1]; done) | (rw [if_neg (by omega), hrr1]; done) | (rw [if_neg (by omega)]; done) | (rw [if_neg (by omega), hrr1, hto]; done)).symm) ?_
              refine fP.eqc (congrArg (fun v9 => mdc ct ad (dsZ X nn (rr1.2.2.2) (5 * i)) (upd (upd (upd (upd (upd (upd g 10 (nI rr1.1)) 11 (nI rr1.2.1)) 12 (ow rr1.2.2.1)) 0 (nI 0)) 3 (nI (svn q))) 8 (nI 0)) hs v9) (show (if tOpen F tn = 0 then va_up (va_up F 7 (rbR (F 6) tn (F 7)).2.2.2) 2 (svf (F 2) Z q) else (va_up F 7 (rbR (F 6) tn (F 7)).2.2.2)) = (va_up (va_up F 7 rr1.2.2.2) 2 (svf ((F 2)) Z q)) from by first | (rw [if_pos hto, hR9]; done) | (rw [if_pos hto, hR9, dsZ_f c47x]; done) | (rw [if_pos hto, hrr1]; done) | (rw [if_neg (by omega), hrr1]; done) | (rw [if_neg (by omega)]; done) | (rw [if_neg (by omega), hrr1, hto]; done)).symm) ?_
              exact hP
          · refine lv_iinc (v := nI (i + 1)) (lv' := [(1, .int (nI (i + 1))), (0, .ref (ad 0))]) hx hb dX6_open_50 hl (k := 0) rfl (nI_add i 1) (by decide) rfl (fun ls hl => ?_)
            refine lv_goto (tgt := 32) hx hb dX6_open_53 (by decide) ?_
            have hl := lv_sub (l' := [(1, .int (nI (i + 1))), (0, .ref (ad 0))]) hl [0, 1] rfl
            have hP := fP.eqc (congrArg (fun v9 => mdc ct ad v9 (upd (upd (upd (upd (upd g 10 (nI rr1.1)) 11 (nI rr1.2.1)) 12 (ow rr1.2.2.1)) 0 (nI 0)) 3 (nI (svn q))) hs (va_up (va_up F 7 rr1.2.2.2) 2 (svf ((F 2)) Z q))) (show (dsZ X nn (rr1.2.2.2) (5 * i)) = (dsZ X nn rr1.2.2.2 (5 * i)) from by rfl)) hP
            exact ih32 (f - 1) (i + 1) (dsN nn rr1.2.2.2 (5 * i)) (dsZ X nn rr1.2.2.2 (5 * i)) (dsZ_zW hX c47) (by omega) (by omega) ((opL_go (by omega) ⟨c37, c47⟩).symm.trans hres) (by omega) _ _ hP hS _ hl
    have hl := lv_sub (l' := [(1, .int (nI 0)), (0, .ref (ad 0))]) hl [0, 1] rfl
    exact lp32 (22 + 1) 22 0 n Z (hw) (rfl) (Nat.zero_le _) (rfl) (Nat.lt_succ_self _) _ _ hP hS _ hl
