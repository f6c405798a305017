/-! THE CLASS: a bound tried, the history -/
def cWt (M : Nat → Int32) (n b : Nat) : Nat → Nat → (Nat → Int32)
  | 0, i => cHs M n i
  | f + 1, i => if i < 48 ∧ ¬ cHs M n i (7 + 5 * b + 1) = 0 then cWt M n b f (i + 1) else cHs M n i
theorem cWt_no {M : Nat → Int32} {n b f i : Nat} (h : ¬ (i < 48 ∧ ¬ cHs M n i (7 + 5 * b + 1) = 0)) : cWt M n b f i = cHs M n i := by
  cases f
  · rfl
  · rw [cWt, if_neg h]
theorem cWt_go {M : Nat → Int32} {n b f i : Nat} (hf : 1 ≤ f) (h : i < 48 ∧ ¬ cHs M n i (7 + 5 * b + 1) = 0) : cWt M n b f i = cWt M n b (f - 1) (i + 1) := by
  cases f
  · omega
  · rw [cWt, if_pos h]; rfl
theorem szn_e {q : Nat} (h : q ≤ 6) : (if nI 6 < nI (q + 1) then nI 6 else nI (q + 1)) = nI (svn q) := by
  unfold svn
  by_cases e : q = 6
  · subst e; rw [if_pos rfl]; exact if_pos (by decide)
  · rw [if_neg e, if_neg (fun z => by have := (n_lt (by omega) (by omega)).mp z; omega)]
theorem cPon_mW {M : Nat → Int32} {n b : Nat} (h : mW M n) : mW (cPon M b) n := mW_upd (mW_upd h (by omega)) (by omega)
set_option maxRecDepth 100000 in
set_option maxHeartbeats 4000000 in
theorem mX5_wouldTripWith (l : Launch) (D : va_G) (ct : Nat → ClassId) (ad : Nat → Nat) (Ms : Nat → Nat → Int32) (kp : Nat → Int32) (nx sz : Nat) (B A : Nat → Int32) (tn p9 : Nat) (kd : Int32) (b : Nat) (v : Int32) (n : Nat)  (hw : mW (Ms 0) n) (hbw : bW (Ms 0) n) (hb4 : b < 4) : FMet l yX5_wouldTripWith cX5_wouldTripWith 5 (some .boolean) 4 86 D ct 198 ad [.ref (ad 0), .int (nI b), .int (v)] (csc ct ad Ms kp (nI nx) (nI sz) B A (nI tn) (nI p9) kd) (some (.int (bi (decide (cWt (upd (cPon (cCp (Ms 1) (Ms 0) n) b) (7 + 5 * b + 0) v) n b 49 0 (7 + 5 * b + 1) = 0))))) (csc ct ad (va_up Ms 1 (cWt (upd (cPon (cCp (Ms 1) (Ms 0) n) b) (7 + 5 * b + 0) v) n b 49 0)) kp (nI nx) (nI sz) B A (nI tn) (nI p9) kd) := by
  refine FMet.of (by decide +kernel) (Nat.le_of_ble_eq_true rfl) ?_
  intro p e s m args below meth c ls hx hb hr hml hown hlocks htg hK hI hP hS hl
  have hl : lv_has ls 5 [(0, .ref (ad 0)), (1, .int (nI b)), (2, .int (v))] := hl
  have hn10 := hw.2
  have hM1 : mW (upd (cPon (cCp (Ms 1) (Ms 0) n) b) (7 + 5 * b + 0) v) n := mW_upd (cPon_mW (cCp_mW hw)) (by omega)
  refine lv_aload_n hx hb dX5_wouldTripWith_0 rfl (lv_at hl 0 rfl) ?_
  refine cs_g1 hx hb hown htg hK hP fl_X5_16 dX5_wouldTripWith_1 ?_
  refine lv_aload_n hx hb dX5_wouldTripWith_4 rfl (lv_at hl 0 rfl) ?_
  refine cs_g0 hx hb hown htg hK hP fl_X5_10 dX5_wouldTripWith_5 ?_
  refine cs_cc (i := 1) (j := 0) (M := Ms 1) (P := Ms 0) (rest := []) hx hb hown htg hK hI hS hP hml hl.1 (by omega) (by omega) (by omega) (by first | rfl | (simp (disch := omega) only [vup_s, va_up_ne]; done)) (by first | rfl | (simp (disch := omega) only [vup_s, va_up_ne]; done)) (mX2_copyFrom l D ct (fun z => ad (cf2 1 0 z)) (Ms 1) (Ms 0) n hw hbw) cw_X5_173 ⟨Nat.le_of_ble_eq_true rfl, Nat.le_of_ble_eq_true rfl⟩ (Nat.le_of_ble_eq_true rfl) dX5_wouldTripWith_8 ⟨Nat.le_refl _, Nat.le_refl _⟩ (fun H locs hP hS => ?_)
  refine lv_aload_n hx hb dX5_wouldTripWith_11 rfl (lv_at hl 0 rfl) ?_
  refine cs_g1 hx hb hown htg hK hP fl_X5_16 dX5_wouldTripWith_12 ?_
  refine cs_m2 (i := 1) (M := cCp (Ms 1) (Ms 0) n) hx hb hown htg hK hP (by omega) (by first | rfl | (simp (disch := omega) only [vup_s, va_up_ne]; done)) fl_X5_101 dX5_wouldTripWith_15 ?_
  refine lv_iload_n hx hb dX5_wouldTripWith_18 rfl (lv_at hl 1 rfl) ?_
  refine cs_aMb (i := 1) (M := cCp (Ms 1) (Ms 0) n) hx hb hK hP (by omega) (by first | rfl | (simp (disch := omega) only [vup_s, va_up_ne]; done)) (by omega) dX5_wouldTripWith_19 ?_
  refine lv_astore_n (lv' := [(3, .ref (ad (8 + 19 * 1 + (15 + b)))), (0, .ref (ad 0)), (1, .int (nI b)), (2, .int (v))]) hx hb dX5_wouldTripWith_20 rfl hl (by decide) rfl (fun ls hl => ?_)
  refine lv_aload_n hx hb dX5_wouldTripWith_21 rfl (lv_at hl 0 rfl) ?_
  refine cs_cb0 (i := 1) (M := cCp (Ms 1) (Ms 0) n) (M' := cPon (cCp (Ms 1) (Ms 0) n) b) (As := []) (rest := []) (by omega) hx hb hown htg hK hI hS hP hml hl.1 (by omega) (by first | rfl | (simp (disch := omega) only [vup_s, va_up_ne]; done)) (mX0_putOn l D ct (fun z => ad (8 + 19 * 1 + z)) (cCp (Ms 1) (Ms 0) n) b (by omega)) cw_X5_115 rfl rfl ⟨Nat.le_of_ble_eq_true rfl, Nat.le_of_ble_eq_true rfl⟩ (Nat.le_of_ble_eq_true rfl) dX5_wouldTripWith_22 ⟨Nat.le_refl _, Nat.le_refl _⟩ (fun H locs hP hS => ?_)
  refine lv_aload_n hx hb dX5_wouldTripWith_25 rfl (lv_at hl 0 rfl) ?_
  refine lv_iload_n hx hb dX5_wouldTripWith_26 rfl (lv_at hl 3 rfl) ?_
  refine cs_bp0 (k := b) (i := 1) (M := cPon (cCp (Ms 1) (Ms 0) n) b) hx hb hown htg hK hI hS hP (by omega) (by first | rfl | (simp (disch := omega) only [vup_s, va_up_ne]; done)) (by omega) fl_X5_105 dX5_wouldTripWith_27 (fun H locs hP hS => ?_)
  refine lv_iconst (v := nI 0) hx hb dX5_wouldTripWith_30 (by decide) ?_
  refine lv_istore (lv' := [(4, .int (nI 0)), (3, .ref (ad (8 + 19 * 1 + (15 + b)))), (0, .ref (ad 0)), (1, .int (nI b)), (2, .int (v))]) hx hb dX5_wouldTripWith_31 hl (by decide) rfl (fun ls hl => ?_)
  have lp33 : ∀ (fu33 : Nat) (f : Nat) (i : Nat), f + i = 49 → i ≤ 48 → cWt (upd (cPon (cCp (Ms 1) (Ms 0) n) b) (7 + 5 * b + 0) v) n b f i = cWt (upd (cPon (cCp (Ms 1) (Ms 0) n) b) (7 + 5 * b + 0) v) n b 49 0 → f < fu33 → ∀ (H : Heap) (locs : List Loc), fP D 198 ad (csc ct ad (va_up Ms 1 (cHs (upd (cPon (cCp (Ms 1) (Ms 0) n) b) (7 + 5 * b + 0) v) n i)) kp (nI nx) (nI sz) B A (nI tn) (nI p9) kd) H → va_S (fA 198 ad) s.heap H locs → ∀ (ls : Array Slot), lv_has ls 5 [(4, .int (nI i)), (3, .ref (ad (8 + 19 * 1 + (15 + b)))), (0, .ref (ad 0)), (1, .int (nI b)), (2, .int (v))] → W p l e ({ frames := 4, cells := 0, slots := 0, locals := 86 }) s m args below meth c H locs 0 0 (MQ below (fQ D ct 198 ad (some (.int (bi (decide (cWt (upd (cPon (cCp (Ms 1) (Ms 0) n) b) (7 + 5 * b + 0) v) n b 49 0 (7 + 5 * b + 1) = 0))))) (csc ct ad (va_up Ms 1 (cWt (upd (cPon (cCp (Ms 1) (Ms 0) n) b) (7 + 5 * b + 0) v) n b 49 0)) kp (nI nx) (nI sz) B A (nI tn) (nI p9) kd)) args s 0 0 (fA 198 ad)) (F0 m 33 ls []) := by
    intro fu33
    induction fu33 with
    | zero => intro f i hfi hi hres hfu33; exact absurd hfu33 (Nat.not_lt_zero _)
    | succ fu33 ih33 =>
      intro f i hfi hi hres hfu33 H locs hP hS ls hl
      refine lv_iload hx hb dX5_wouldTripWith_33 (lv_at hl 0 rfl) ?_
      refine lv_bipush (v := nI 48) hx hb dX5_wouldTripWith_35 (by decide) ?_
      refine lv_icmp_geN (tgt := 60) hx hb (by omega) (by omega) dX5_wouldTripWith_37 (by decide) (fun c37 => ?_) (fun c37 => ?_)
      · have hW9 : cWt (upd (cPon (cCp (Ms 1) (Ms 0) n) b) (7 + 5 * b + 0) v) n b 49 0 = cHs (upd (cPon (cCp (Ms 1) (Ms 0) n) b) (7 + 5 * b + 0) v) n i := hres.symm.trans (cWt_no (fun q => by omega))
        refine lv_aload_n hx hb dX5_wouldTripWith_60 rfl (lv_at hl 1 rfl) ?_
        refine cs_b1 (k := b) (i := 1) (M := cHs (upd (cPon (cCp (Ms 1) (Ms 0) n) b) (7 + 5 * b + 0) v) n i) hx hb hown htg hK hP (by omega) (by first | rfl | (simp (disch := omega) only [vup_s, va_up_ne]; done)) (by omega) fl_X5_110 dX5_wouldTripWith_61 ?_
        refine lv_if_ne (tgt := 71) hx hb dX5_wouldTripWith_64 (by decide) (fun c64 => ?_) (fun c64 => ?_)
        · refine lv_iconst (v := nI 0) hx hb dX5_wouldTripWith_71 (by decide) ?_
          refine fr_iret hx hb hr hlocks hK hI hS rfl dX5_wouldTripWith_72 ?_ ?_
          · exact (congrArg bi (show (decide (cWt (upd (cPon (cCp (Ms 1) (Ms 0) n) b) (7 + 5 * b + 0) v) n b 49 0 (7 + 5 * b + 1) = 0)) = false from by first | exact absurd c44 c64 | (rw [hW9]; exact decide_eq_true c64) | (rw [hW9]; exact decide_eq_false c64) | (rw [hW9]; done))).symm
          · refine fP.eqc (congrArg (fun v9 => csc ct ad v9 kp (nI nx) (nI sz) B A (nI tn) (nI p9) kd) (show (va_up Ms 1 (cWt (upd (cPon (cCp (Ms 1) (Ms 0) n) b) (7 + 5 * b + 0) v) n b 49 0)) = (va_up Ms 1 (cHs (upd (cPon (cCp (Ms 1) (Ms 0) n) b) (7 + 5 * b + 0) v) n i)) from by first | exact absurd c44 c64 | (rw [hW9]; exact decide_eq_true c64) | (rw [hW9]; exact decide_eq_false c64) | (rw [hW9]; done)).symm) ?_
            exact hP
        · refine lv_iconst (v := nI 1) hx hb dX5_wouldTripWith_67 (by decide) ?_
          refine lv_goto (tgt := 72) hx hb dX5_wouldTripWith_68 (by decide) ?_
          refine fr_iret hx hb hr hlocks hK hI hS rfl dX5_wouldTripWith_72 ?_ ?_
          · exact (congrArg bi (show (decide (cWt (upd (cPon (cCp (Ms 1) (Ms 0) n) b) (7 + 5 * b + 0) v) n b 49 0 (7 + 5 * b + 1) = 0)) = true from by first | exact absurd c44 c64 | (rw [hW9]; exact decide_eq_true c64) | (rw [hW9]; exact decide_eq_false c64) | (rw [hW9]; done))).symm
          · refine fP.eqc (congrArg (fun v9 => csc ct ad v9 kp (nI nx) (nI sz) B A (nI tn) (nI p9) kd) (show (va_up Ms 1 (cWt (upd (cPon (cCp (Ms 1) (Ms 0) n) b) (7 + 5 * b + 0) v) n b 49 0)) = (va_up Ms 1 (cHs (upd (cPon (cCp (Ms 1) (Ms 0) n) b) (7 + 5 * b + 0) v) n i)) from by first | exact absurd c44 c64 | (rw [hW9]; exact decide_eq_true c64) | (rw [hW9]; exact decide_eq_false c64) | (rw [hW9]; done)).symm) ?_
            exact hP
      · refine lv_aload_n hx hb dX5_wouldTripWith_40 rfl (lv_at hl 1 rfl) ?_
        refine cs_b1 (k := b) (i := 1) (M := cHs (upd (cPon (cCp (Ms 1) (Ms 0) n) b) (7 + 5 * b + 0) v) n i) hx hb hown htg hK hP (by omega) (by first | rfl | (simp (disch := omega) only [vup_s, va_up_ne]; done)) (by omega) fl_X5_110 dX5_wouldTripWith_41 ?_
        refine lv_if_eq (tgt := 60) hx hb dX5_wouldTripWith_44 (by decide) (fun c44 => ?_) (fun c44 => ?_)
        · have hW9 : cWt (upd (cPon (cCp (Ms 1) (Ms 0) n) b) (7 + 5 * b + 0) v) n b 49 0 = cHs (upd (cPon (cCp (Ms 1) (Ms 0) n) b) (7 + 5 * b + 0) v) n i := hres.symm.trans (cWt_no (fun q => q.2 c44))
          refine lv_aload_n hx hb dX5_wouldTripWith_60 rfl (lv_at hl 1 rfl) ?_
          refine cs_b1 (k := b) (i := 1) (M := cHs (upd (cPon (cCp (Ms 1) (Ms 0) n) b) (7 + 5 * b + 0) v) n i) hx hb hown htg hK hP (by omega) (by first | rfl | (simp (disch := omega) only [vup_s, va_up_ne]; done)) (by omega) fl_X5_110 dX5_wouldTripWith_61 ?_
          refine lv_if_ne (tgt := 71) hx hb dX5_wouldTripWith_64 (by decide) (fun c64 => ?_) (fun c64 => ?_)
          · refine lv_iconst (v := nI 0) hx hb dX5_wouldTripWith_71 (by decide) ?_
            refine fr_iret hx hb hr hlocks hK hI hS rfl dX5_wouldTripWith_72 ?_ ?_
            · exact (congrArg bi (show (decide (cWt (upd (cPon (cCp (Ms 1) (Ms 0) n) b) (7 + 5 * b + 0) v) n b 49 0 (7 + 5 * b + 1) = 0)) = false from by first | exact absurd c44 c64 | (rw [hW9]; exact decide_eq_true c64) | (rw [hW9]; exact decide_eq_false c64) | (rw [hW9]; done))).symm
            · refine fP.eqc (congrArg (fun v9 => csc ct ad v9 kp (nI nx) (nI sz) B A (nI tn) (nI p9) kd) (show (va_up Ms 1 (cWt (upd (cPon (cCp (Ms 1) (Ms 0) n) b) (7 + 5 * b + 0) v) n b 49 0)) = (va_up Ms 1 (cHs (upd (cPon (cCp (Ms 1) (Ms 0) n) b) (7 + 5 * b + 0) v) n i)) from by first | exact absurd c44 c64 | (rw [hW9]; exact decide_eq_true c64) | (rw [hW9]; exact decide_eq_false c64) | (rw [hW9]; done)).symm) ?_
              exact hP
          · refine lv_iconst (v := nI 1) hx hb dX5_wouldTripWith_67 (by decide) ?_
            refine lv_goto (tgt := 72) hx hb dX5_wouldTripWith_68 (by decide) ?_
            refine fr_iret hx hb hr hlocks hK hI hS rfl dX5_wouldTripWith_72 ?_ ?_
            · exact (congrArg bi (show (decide (cWt (upd (cPon (cCp (Ms 1) (Ms 0) n) b) (7 + 5 * b + 0) v) n b 49 0 (7 + 5 * b + 1) = 0)) = true from by first | exact absurd c44 c64 | (rw [hW9]; exact decide_eq_true c64) | (rw [hW9]; exact decide_eq_false c64) | (rw [hW9]; done))).symm
            · refine fP.eqc (congrArg (fun v9 => csc ct ad v9 kp (nI nx) (nI sz) B A (nI tn) (nI p9) kd) (show (va_up Ms 1 (cWt (upd (cPon (cCp (Ms 1) (Ms 0) n) b) (7 + 5 * b + 0) v) n b 49 0)) = (va_up Ms 1 (cHs (upd (cPon (cCp (Ms 1) (Ms 0) n) b) (7 + 5 * b + 0) v) n i)) from by first | exact absurd c44 c64 | (rw [hW9]; exact decide_eq_true c64) | (rw [hW9]; exact decide_eq_false c64) | (rw [hW9]; done)).symm) ?_
              exact hP
        · refine lv_aload_n hx hb dX5_wouldTripWith_47 rfl (lv_at hl 2 rfl) ?_
          refine cs_g1 hx hb hown htg hK hP fl_X5_16 dX5_wouldTripWith_48 ?_
          refine cs_cm0 (i := 1) (M := cHs (upd (cPon (cCp (Ms 1) (Ms 0) n) b) (7 + 5 * b + 0) v) n i) (M' := cHr (cHs (upd (cPon (cCp (Ms 1) (Ms 0) n) b) (7 + 5 * b + 0) v) n i) n) (As := []) (rest := []) hx hb hown htg hK hI hS hP hml hl.1 (by omega) (by first | rfl | (simp (disch := omega) only [vup_s, va_up_ne]; done)) (mX2_goOneHour l D ct (fun z => ad (8 + 19 * 1 + z)) (cHs (upd (cPon (cCp (Ms 1) (Ms 0) n) b) (7 + 5 * b + 0) v) n i) n (cHs_mW hM1 i)) cw_X5_260 rfl rfl ⟨Nat.le_of_ble_eq_true rfl, Nat.le_of_ble_eq_true rfl⟩ (Nat.le_of_ble_eq_true rfl) dX5_wouldTripWith_51 ⟨Nat.le_refl _, Nat.le_refl _⟩ (fun H locs hP hS => ?_)
          refine lv_iinc (v := nI (i + 1)) (lv' := [(4, .int (nI (i + 1))), (3, .ref (ad (8 + 19 * 1 + (15 + b)))), (0, .ref (ad 0)), (1, .int (nI b)), (2, .int (v))]) hx hb dX5_wouldTripWith_54 hl (k := 0) rfl (nI_add i 1) (by decide) rfl (fun ls hl => ?_)
          refine lv_goto (tgt := 33) hx hb dX5_wouldTripWith_57 (by decide) ?_
          have hl := lv_sub (l' := [(4, .int (nI (i + 1))), (3, .ref (ad (8 + 19 * 1 + (15 + b)))), (0, .ref (ad 0)), (1, .int (nI b)), (2, .int (v))]) hl [0, 1, 2, 3, 4] rfl
          have hP := fP.eqc (congrArg (fun v9 => csc ct ad v9 kp (nI nx) (nI sz) B A (nI tn) (nI p9) kd) (show (va_up (va_up Ms 1 (cHs (upd (cPon (cCp (Ms 1) (Ms 0) n) b) (7 + 5 * b + 0) v) n i)) 1 (cHr (cHs (upd (cPon (cCp (Ms 1) (Ms 0) n) b) (7 + 5 * b + 0) v) n i) n)) = (va_up Ms 1 (cHs (upd (cPon (cCp (Ms 1) (Ms 0) n) b) (7 + 5 * b + 0) v) n (i + 1))) from by first | rfl | (simp only [va_up_up]; rfl))) hP
          exact ih33 (f - 1) (i + 1) (by omega) (by omega) ((cWt_go (by omega) ⟨c37, c44⟩).symm.trans hres) (by omega) _ _ hP hS _ hl
  have hl := lv_sub (l' := [(4, .int (nI 0)), (3, .ref (ad (8 + 19 * 1 + (15 + b)))), (0, .ref (ad 0)), (1, .int (nI b)), (2, .int (v))]) hl [0, 1, 2, 3, 4] rfl
  have hP := fP.eqc (congrArg (fun v9 => csc ct ad v9 kp (nI nx) (nI sz) B A (nI tn) (nI p9) kd) (show (va_up (va_up (va_up Ms 1 (cCp (Ms 1) (Ms 0) n)) 1 (cPon (cCp (Ms 1) (Ms 0) n) b)) 1 (upd (cPon (cCp (Ms 1) (Ms 0) n) b) (7 + 5 * b + 0) v)) = (va_up Ms 1 (cHs (upd (cPon (cCp (Ms 1) (Ms 0) n) b) (7 + 5 * b + 0) v) n 0)) from by first | rfl | (simp only [va_up_up]; rfl))) hP
  exact lp33 (49 + 1) 49 0 (rfl) (by omega) (rfl) (Nat.lt_succ_self _) _ _ hP hS _ hl
set_option maxRecDepth 100000 in
set_option maxHeartbeats 4000000 in
theorem mX1_save (l : Launch) (D : va_G) (ct : Nat → ClassId) (ad : Nat → Nat) (Ms : Nat → Nat → Int32) (kp : Nat → Int32) (nx sz : Nat) (B A : Nat → Int32) (tn p9 : Nat) (kd : Int32)  (n : Nat)  (hw : mW (Ms 0) n) (hbw : bW (Ms 0) n) (hnx : nx < 6) (hsz : sz ≤ 6) : FMet l yX1_save cX1_save 2 (none : Option Jvm.ClassFile.FieldType) 2 62 D ct 198 ad [.ref (ad 3), .ref (ad (8 + 19 * 0 + 0))] (csc ct ad Ms kp (nI nx) (nI sz) B A (nI tn) (nI p9) kd) none (csc ct ad (va_up Ms (4 + nx) (cCp (Ms (4 + nx)) (Ms 0) n)) kp (nI ((nx + 1) % 6)) (nI (svn sz)) B A (nI tn) (nI p9) kd) := by
  refine FMet.of (by decide +kernel) (Nat.le_of_ble_eq_true rfl) ?_
  intro p e s m args below meth c ls hx hb hr hml hown hlocks htg hK hI hP hS hl
  have hl : lv_has ls 2 [(0, .ref (ad 3)), (1, .ref (ad (8 + 19 * 0 + 0)))] := hl
  have hn10 := hw.2
  refine lv_aload_n hx hb dX1_save_0 rfl (lv_at hl 0 rfl) ?_
  refine cs_h0 hx hb hown htg hK hP fl_X1_11 dX1_save_1 ?_
  refine lv_aload_n hx hb dX1_save_4 rfl (lv_at hl 0 rfl) ?_
  refine cs_h1 hx hb hown htg hK hP fl_X1_18 dX1_save_5 ?_
  refine cs_ar hx hb hK hP (by omega) dX1_save_8 ?_
  refine lv_aload_n hx hb dX1_save_9 rfl (lv_at hl 1 rfl) ?_
  refine cs_cc (i := (4 + nx)) (j := 0) (M := Ms (4 + nx)) (P := Ms 0) (rest := []) hx hb hown htg hK hI hS hP hml hl.1 (by omega) (by omega) (by omega) (by first | rfl | (simp (disch := omega) only [vup_s, va_up_ne]; done)) (by first | rfl | (simp (disch := omega) only [vup_s, va_up_ne]; done)) (mX2_copyFrom l D ct (fun z => ad (cf2 (4 + nx) 0 z)) (Ms (4 + nx)) (Ms 0) n hw hbw) cw_X1_22 ⟨Nat.le_of_ble_eq_true rfl, Nat.le_of_ble_eq_true rfl⟩ (Nat.le_of_ble_eq_true rfl) dX1_save_10 ⟨Nat.le_refl _, Nat.le_refl _⟩ (fun H locs hP hS => ?_)
  refine lv_aload_n hx hb dX1_save_13 rfl (lv_at hl 0 rfl) ?_
  refine lv_aload_n hx hb dX1_save_14 rfl (lv_at hl 0 rfl) ?_
  refine cs_h1 hx hb hown htg hK hP fl_X1_18 dX1_save_15 ?_
  refine lv_iconst (v := nI 1) hx hb dX1_save_18 (by decide) ?_
  refine lv_iaddN hx hb dX1_save_19 ?_
  refine lv_bipush (v := nI 6) hx hb dX1_save_20 (by decide) ?_
  refine lv_iremN hx hb (by omega) (by omega) (by omega) dX1_save_22 ?_
  refine cs_hp1 hx hb hown htg hK hI hS hP fl_X1_18 dX1_save_23 (fun H locs hP hS => ?_)
  refine lv_aload_n hx hb dX1_save_26 rfl (lv_at hl 0 rfl) ?_
  refine lv_aload_n hx hb dX1_save_27 rfl (lv_at hl 0 rfl) ?_
  refine cs_h2 hx hb hown htg hK hP fl_X1_26 dX1_save_28 ?_
  refine lv_iconst (v := nI 1) hx hb dX1_save_31 (by decide) ?_
  refine lv_iaddN hx hb dX1_save_32 ?_
  refine lv_bipush (v := nI 6) hx hb dX1_save_33 (by decide) ?_
  refine va_mmin hx hb (hml.trans hl.1.symm) hown (htg _ kmn1) (htg _ kmn2) (htg _ kmn3) (htg _ kmn4) (Nat.le_of_ble_eq_true rfl) (Nat.le_of_ble_eq_true rfl) (Nat.le_refl _) (Nat.le_refl _) dX1_save_35 ?_
  refine lv_teq (szn_e hsz) ?_
  refine cs_hp2 hx hb hown htg hK hI hS hP fl_X1_26 dX1_save_38 (fun H locs hP hS => ?_)
  refine fr_vret hx hb hr hlocks hK hI hS dX1_save_41 ?_
  exact hP
