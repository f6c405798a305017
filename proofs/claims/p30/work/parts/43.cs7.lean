/-! THE CLASS: the least bound, the share, the buffer -/
theorem half_lt {q f : Nat} (h : q < 2 ^ f) (h1 : 1 ≤ q) : 1 ≤ f ∧ q / 2 < 2 ^ (f - 1) := by
  cases f
  · rw [Nat.pow_zero] at h; omega
  · rename_i f
    rw [Nat.pow_succ] at h
    refine ⟨by omega, ?_⟩
    show q / 2 < 2 ^ f
    omega
def cLbW (M : Nat → Int32) (n b tr q : Nat) (T : Nat → Int32) : Nat → Int32 := cWt (upd (cPon (cCp T M n) b) (7 + 5 * b + 0) (nI (tr + q))) n b 49 0
def cLb (M : Nat → Int32) (n b : Nat) : Nat → Nat → Nat → (Nat → Int32) → Nat × (Nat → Int32)
  | 0, tr, _, T => (tr, T)
  | f + 1, tr, q, T => if q = 0 then (tr, T) else if tr + q ≤ 999 then (if cLbW M n b tr q T (7 + 5 * b + 1) = 0 then cLb M n b f (tr + q) (q / 2) (cLbW M n b tr q T) else cLb M n b f tr (q / 2) (cLbW M n b tr q T)) else cLb M n b f tr (q / 2) T
theorem cLb_0 {M : Nat → Int32} {n b f tr : Nat} {T : Nat → Int32} : cLb M n b f tr 0 T = (tr, T) := by
  cases f
  · rfl
  · rw [cLb, if_pos rfl]
theorem cLb_1 {M : Nat → Int32} {n b f tr q : Nat} {T : Nat → Int32} (hf : 1 ≤ f) (h0 : ¬ q = 0) (h1 : tr + q ≤ 999) (h2 : cLbW M n b tr q T (7 + 5 * b + 1) = 0) : cLb M n b f tr q T = cLb M n b (f - 1) (tr + q) (q / 2) (cLbW M n b tr q T) := by
  cases f
  · omega
  · rw [cLb, if_neg h0, if_pos h1, if_pos h2]; rfl
theorem cLb_2 {M : Nat → Int32} {n b f tr q : Nat} {T : Nat → Int32} (hf : 1 ≤ f) (h0 : ¬ q = 0) (h1 : tr + q ≤ 999) (h2 : ¬ cLbW M n b tr q T (7 + 5 * b + 1) = 0) : cLb M n b f tr q T = cLb M n b (f - 1) tr (q / 2) (cLbW M n b tr q T) := by
  cases f
  · omega
  · rw [cLb, if_neg h0, if_pos h1, if_neg h2]; rfl
theorem cLb_3 {M : Nat → Int32} {n b f tr q : Nat} {T : Nat → Int32} (hf : 1 ≤ f) (h0 : ¬ q = 0) (h1 : ¬ tr + q ≤ 999) : cLb M n b f tr q T = cLb M n b (f - 1) tr (q / 2) T := by
  cases f
  · omega
  · rw [cLb, if_neg h0, if_neg h1]; rfl
def cLbR (Ms : Nat → Nat → Int32) (n b : Nat) : Nat × (Nat → Int32) := cLb (Ms 0) n b 10 9 512 (Ms 1)
set_option maxRecDepth 100000 in
set_option maxHeartbeats 4000000 in
theorem mX5_servedShare (l : Launch) (D : va_G) (ct : Nat → ClassId) (ad : Nat → Nat) (Ms : Nat → Nat → Int32) (kp : Nat → Int32) (nx sz : Nat) (B A : Nat → Int32) (tn p9 : Nat) (kd : Int32)  (n : Nat) (sv : Nat) (sd : Nat)  (hw : mW (Ms 0) n) (hsv : Ms 0 6 = nI sv) (hsd : cSs (Ms 0) 7 n = nI sd) (hss : sv + sd < 2147483648) : FMet l yX5_servedShare cX5_servedShare 2 (some .double) 1 22 D ct 198 ad [.ref (ad 0)] (csc ct ad Ms kp (nI nx) (nI sz) B A (nI tn) (nI p9) kd) (some (.double (shD sv sd))) (csc ct ad Ms kp (nI nx) (nI sz) B A (nI tn) (nI p9) kd) := by
  refine FMet.of (by decide +kernel) (Nat.le_of_ble_eq_true rfl) ?_
  intro p e s m args below meth c ls hx hb hr hml hown hlocks htg hK hI hP hS hl
  have hl : lv_has ls 2 [(0, .ref (ad 0))] := hl
  have hn10 := hw.2
  refine lv_aload_n hx hb dX5_servedShare_0 rfl (lv_at hl 0 rfl) ?_
  refine cs_g0 hx hb hown htg hK hP fl_X5_10 dX5_servedShare_1 ?_
  refine cs_m6 (i := 0) (M := Ms 0) hx hb hown htg hK hP (by omega) (by first | rfl | (simp (disch := omega) only [vup_s, va_up_ne]; done)) fl_X5_266 dX5_servedShare_4 ?_
  refine lv_teq hsv ?_
  refine lv_aload_n hx hb dX5_servedShare_7 rfl (lv_at hl 0 rfl) ?_
  refine cs_g0 hx hb hown htg hK hP fl_X5_10 dX5_servedShare_8 ?_
  refine cs_cmr (i := 0) (M := Ms 0) (M' := Ms 0) (As := []) (rest := [.int (nI sv)]) hx hb hown htg hK hI hS hP hml hl.1 (by omega) (by first | rfl | (simp (disch := omega) only [vup_s, va_up_ne]; done)) (mX2_darkHours l D ct (fun z => ad (8 + 19 * 0 + z)) (Ms 0) n hw) cw_X5_245 rfl rfl ⟨Nat.le_of_ble_eq_true rfl, Nat.le_of_ble_eq_true rfl⟩ (Nat.le_of_ble_eq_true rfl) dX5_servedShare_11 ⟨Nat.le_refl _, Nat.le_refl _⟩ (fun H locs hP hS => ?_)
  have hP := fP.eqc (congrArg (fun v9 => csc ct ad v9 kp (nI nx) (nI sz) B A (nI tn) (nI p9) kd) (show (va_up Ms 0 (Ms 0)) = Ms from by first | exact vup_id _ _ (by first | rfl | (simp (disch := omega) only [vup_s, va_up_ne]; done)))) hP
  refine lv_teq hsd ?_
  refine lv_iaddN hx hb dX5_servedShare_14 ?_
  refine lv_istore_n (lv' := [(1, .int (nI (sv + sd))), (0, .ref (ad 0))]) hx hb dX5_servedShare_15 rfl hl (by decide) rfl (fun ls hl => ?_)
  refine lv_iload_n hx hb dX5_servedShare_16 rfl (lv_at hl 0 rfl) ?_
  refine lv_ifneN (tgt := 24) hx hb (by omega) dX5_servedShare_17 (by decide) (fun c17 => ?_) (fun c17 => ?_)
  · refine lv_aload_n hx hb dX5_servedShare_24 rfl (lv_at hl 1 rfl) ?_
    refine cs_g0 hx hb hown htg hK hP fl_X5_10 dX5_servedShare_25 ?_
    refine cs_m6 (i := 0) (M := Ms 0) hx hb hown htg hK hP (by omega) (by first | rfl | (simp (disch := omega) only [vup_s, va_up_ne]; done)) fl_X5_266 dX5_servedShare_28 ?_
    refine lv_teq hsv ?_
    refine lv_i2d hx hb dX5_servedShare_31 ?_
    refine lv_iload_n hx hb dX5_servedShare_32 rfl (lv_at hl 0 rfl) ?_
    refine lv_i2d hx hb dX5_servedShare_33 ?_
    refine lv_ddiv hx hb dX5_servedShare_34 (shOk_n (by have h9 := shD_ok hss; rw [shD, if_neg c17] at h9; exact h9)) ?_
    refine fr_dret hx hb hr hlocks hK hI hS dX5_servedShare_35 ?_ ?_
    · first | (rw [shD, if_pos c17]; done) | (rw [shD, if_neg c17]; done)
    · exact hP
  · refine lv_dconst1 hx hb dX5_servedShare_20 ?_
    refine lv_goto (tgt := 35) hx hb dX5_servedShare_21 (by decide) ?_
    refine fr_dret hx hb hr hlocks hK hI hS dX5_servedShare_35 ?_ ?_
    · first | (rw [shD, if_pos c17]; done) | (rw [shD, if_neg c17]; done)
    · exact hP
set_option maxRecDepth 100000 in
set_option maxHeartbeats 4000000 in
theorem mX5_leastBound (l : Launch) (D : va_G) (ct : Nat → ClassId) (ad : Nat → Nat) (Ms : Nat → Nat → Int32) (kp : Nat → Int32) (nx sz : Nat) (B A : Nat → Int32) (tn p9 : Nat) (kd : Int32) (b : Nat) (n : Nat)  (hw : mW (Ms 0) n) (hbw : bW (Ms 0) n) (hb4 : b < 4) : FMet l yX5_leastBound cX5_leastBound 4 (some .int) 5 110 D ct 198 ad [.ref (ad 0), .int (nI b)] (csc ct ad Ms kp (nI nx) (nI sz) B A (nI tn) (nI p9) kd) (some (.int (if (cLbR Ms n b).1 = 999 then -1 else nI ((cLbR Ms n b).1 + 1)))) (csc ct ad (va_up Ms 1 (cLbR Ms n b).2) kp (nI nx) (nI sz) B A (nI tn) (nI p9) kd) := by
  refine FMet.of (by decide +kernel) (Nat.le_of_ble_eq_true rfl) ?_
  intro p e s m args below meth c ls hx hb hr hml hown hlocks htg hK hI hP hS hl
  have hl : lv_has ls 4 [(0, .ref (ad 0)), (1, .int (nI b))] := hl
  have hn10 := hw.2
  refine lv_iload_n hx hb dX5_leastBound_0 rfl (lv_at hl 1 rfl) ?_
  refine lv_iconst (v := nI 0) hx hb dX5_leastBound_1 (by decide) ?_
  refine lv_iconst (v := nI 3) hx hb dX5_leastBound_2 (by decide) ?_
  refine cs_cS0 (As := [.int (nI b), .int (nI 0), .int (nI 3)]) (rest := []) hx hb hown htg hK hI hS hP hml hl.1 (mX5_checkArgument l D ct ad Ms kp nx sz B A tn p9 kd (nI b) (nI 0) (nI 3) (Int32.not_lt.mpr ((n_le (by omega) (by omega)).mpr (by omega))) (Int32.not_lt.mpr ((n_le (by omega) (by omega)).mpr (by omega)))) cw_X5_71 rfl rfl ⟨Nat.le_of_ble_eq_true rfl, Nat.le_of_ble_eq_true rfl⟩ (Nat.le_of_ble_eq_true rfl) dX5_leastBound_3 ⟨Nat.le_refl _, Nat.le_refl _⟩ (fun H locs hP hS => ?_)
  refine lv_bipush (v := nI 9) hx hb dX5_leastBound_6 (by decide) ?_
  refine lv_istore_n (lv' := [(2, .int (nI 9)), (0, .ref (ad 0)), (1, .int (nI b))]) hx hb dX5_leastBound_8 rfl hl (by decide) rfl (fun ls hl => ?_)
  refine lv_sipush (v := nI 512) hx hb dX5_leastBound_9 (by decide) ?_
  refine lv_istore_n (lv' := [(3, .int (nI 512)), (2, .int (nI 9)), (0, .ref (ad 0)), (1, .int (nI b))]) hx hb dX5_leastBound_12 rfl hl (by decide) rfl (fun ls hl => ?_)
  have lp13 : ∀ (fu13 : Nat) (f : Nat) (tr : Nat) (q : Nat) (T : Nat → Int32), q < 2 ^ f → q ≤ 512 → tr ≤ 999 → cLb (Ms 0) n b f tr q T = cLb (Ms 0) n b 10 9 512 (Ms 1) → f < fu13 → ∀ (H : Heap) (locs : List Loc), fP D 198 ad (csc ct ad (va_up Ms 1 T) kp (nI nx) (nI sz) B A (nI tn) (nI p9) kd) H → va_S (fA 198 ad) s.heap H locs → ∀ (ls : Array Slot), lv_has ls 4 [(3, .int (nI q)), (2, .int (nI tr)), (0, .ref (ad 0)), (1, .int (nI b))] → W p l e ({ frames := 5, cells := 0, slots := 0, locals := 110 }) s m args below meth c H locs 0 0 (MQ below (fQ D ct 198 ad (some (.int (if (cLbR Ms n b).1 = 999 then -1 else nI ((cLbR Ms n b).1 + 1)))) (csc ct ad (va_up Ms 1 (cLbR Ms n b).2) kp (nI nx) (nI sz) B A (nI tn) (nI p9) kd)) args s 0 0 (fA 198 ad)) (F0 m 13 ls []) := by
    intro fu13
    induction fu13 with
    | zero => intro f tr q T hq hq5 ht hres hfu13; exact absurd hfu13 (Nat.not_lt_zero _)
    | succ fu13 ih13 =>
      intro f tr q T hq hq5 ht hres hfu13 H locs hP hS ls hl
      refine lv_iload_n hx hb dX5_leastBound_13 rfl (lv_at hl 0 rfl) ?_
      refine lv_ifleN (tgt := 48) hx hb (by omega) dX5_leastBound_14 (by decide) (fun c14 => ?_) (fun c14 => ?_)
      · have hR9 : cLbR Ms n b = (tr, T) := by rw [cLbR, ← hres, c14, cLb_0]
        refine lv_iload_n hx hb dX5_leastBound_48 rfl (lv_at hl 1 rfl) ?_
        refine lv_sipush (v := nI 999) hx hb dX5_leastBound_49 (by decide) ?_
        refine lv_icmp_neN (tgt := 59) hx hb (by omega) (by omega) dX5_leastBound_52 (by decide) (fun c52 => ?_) (fun c52 => ?_)
        · refine lv_iload_n hx hb dX5_leastBound_59 rfl (lv_at hl 1 rfl) ?_
          refine lv_iconst (v := nI 1) hx hb dX5_leastBound_60 (by decide) ?_
          refine lv_iaddN hx hb dX5_leastBound_61 ?_
          refine fr_iret hx hb hr hlocks hK hI hS rfl dX5_leastBound_62 ?_ ?_
          · (rw [hR9]; first | (exact (if_pos (by omega)).symm) | (exact (if_neg (by omega)).symm))
          · refine fP.eqc (congrArg (fun v9 => csc ct ad v9 kp (nI nx) (nI sz) B A (nI tn) (nI p9) kd) (show (va_up Ms 1 (cLbR Ms n b).2) = (va_up Ms 1 T) from by rw [hR9]).symm) ?_
            exact hP
        · refine lv_iconst (v := -1) hx hb dX5_leastBound_55 (by decide) ?_
          refine lv_goto (tgt := 62) hx hb dX5_leastBound_56 (by decide) ?_
          refine fr_iret hx hb hr hlocks hK hI hS rfl dX5_leastBound_62 ?_ ?_
          · (rw [hR9]; first | (exact (if_pos (by omega)).symm) | (exact (if_neg (by omega)).symm))
          · refine fP.eqc (congrArg (fun v9 => csc ct ad v9 kp (nI nx) (nI sz) B A (nI tn) (nI p9) kd) (show (va_up Ms 1 (cLbR Ms n b).2) = (va_up Ms 1 T) from by rw [hR9]).symm) ?_
            exact hP
      · have hf1 := (half_lt hq (by omega)).1
        refine lv_iload_n hx hb dX5_leastBound_17 rfl (lv_at hl 1 rfl) ?_
        refine lv_iload_n hx hb dX5_leastBound_18 rfl (lv_at hl 0 rfl) ?_
        refine lv_iaddN hx hb dX5_leastBound_19 ?_
        refine lv_sipush (v := nI 999) hx hb dX5_leastBound_20 (by decide) ?_
        refine lv_icmp_gtN (tgt := 41) hx hb (by omega) (by omega) dX5_leastBound_23 (by decide) (fun c23 => ?_) (fun c23 => ?_)
        · refine lv_iload_n hx hb dX5_leastBound_41 rfl (lv_at hl 0 rfl) ?_
          refine lv_iconst (v := nI 2) hx hb dX5_leastBound_42 (by decide) ?_
          refine lv_idivN hx hb (by omega) (by omega) (by omega) dX5_leastBound_43 ?_
          refine lv_istore_n (lv' := [(3, .int (nI (q / 2))), (2, .int (nI tr)), (0, .ref (ad 0)), (1, .int (nI b))]) hx hb dX5_leastBound_44 rfl hl (by decide) rfl (fun ls hl => ?_)
          refine lv_goto (tgt := 13) hx hb dX5_leastBound_45 (by decide) ?_
          have hl := lv_sub (l' := [(3, .int (nI (q / 2))), (2, .int (nI tr)), (0, .ref (ad 0)), (1, .int (nI b))]) hl [0, 1, 2, 3] rfl
          exact ih13 (f - 1) tr (q / 2) T ((half_lt hq (by omega)).2) (by omega) (by omega) ((cLb_3 (half_lt hq (by omega)).1 c14 (by omega)).symm.trans hres) (by omega) _ _ hP hS _ hl
        · refine lv_aload_n hx hb dX5_leastBound_26 rfl (lv_at hl 2 rfl) ?_
          refine lv_iload_n hx hb dX5_leastBound_27 rfl (lv_at hl 3 rfl) ?_
          refine lv_iload_n hx hb dX5_leastBound_28 rfl (lv_at hl 1 rfl) ?_
          refine lv_iload_n hx hb dX5_leastBound_29 rfl (lv_at hl 0 rfl) ?_
          refine lv_iaddN hx hb dX5_leastBound_30 ?_
          refine cs_cor (As := [.int (nI b), .int (nI (tr + q))]) (rest := []) hx hb hown htg hK hI hS hP hml hl.1 (mX5_wouldTripWith l D ct ad (va_up Ms 1 T) kp nx sz B A tn p9 kd b (nI (tr + q)) n hw hbw (by omega)) cw_X5_263 rfl rfl ⟨Nat.le_of_ble_eq_true rfl, Nat.le_of_ble_eq_true rfl⟩ (Nat.le_of_ble_eq_true rfl) dX5_leastBound_31 ⟨Nat.le_refl _, Nat.le_refl _⟩ (fun H locs hP hS => ?_)
          refine lv_ifeqB (tgt := 41) hx hb dX5_leastBound_34 (by decide) (fun c34 => ?_) (fun c34 => ?_)
          · refine lv_iload_n hx hb dX5_leastBound_41 rfl (lv_at hl 0 rfl) ?_
            refine lv_iconst (v := nI 2) hx hb dX5_leastBound_42 (by decide) ?_
            refine lv_idivN hx hb (by omega) (by omega) (by omega) dX5_leastBound_43 ?_
            refine lv_istore_n (lv' := [(3, .int (nI (q / 2))), (2, .int (nI tr)), (0, .ref (ad 0)), (1, .int (nI b))]) hx hb dX5_leastBound_44 rfl hl (by decide) rfl (fun ls hl => ?_)
            refine lv_goto (tgt := 13) hx hb dX5_leastBound_45 (by decide) ?_
            have hl := lv_sub (l' := [(3, .int (nI (q / 2))), (2, .int (nI tr)), (0, .ref (ad 0)), (1, .int (nI b))]) hl [0, 1, 2, 3] rfl
            have hP := fP.eqc (congrArg (fun v9 => csc ct ad v9 kp (nI nx) (nI sz) B A (nI tn) (nI p9) kd) (show (va_up (va_up Ms 1 T) 1 (cWt (upd (cPon (cCp (T) ((Ms 0)) n) b) (7 + 5 * b + 0) (nI (tr + q))) n b 49 0)) = (va_up Ms 1 (cLbW (Ms 0) n b tr q T)) from by first | rfl | (simp only [va_up_up]; rfl))) hP
            exact ih13 (f - 1) tr (q / 2) (cLbW (Ms 0) n b tr q T) ((half_lt hq (by omega)).2) (by omega) (by omega) ((cLb_2 (half_lt hq (by omega)).1 c14 (by omega) (of_decide_eq_false c34)).symm.trans hres) (by omega) _ _ hP hS _ hl
          · refine lv_iload_n hx hb dX5_leastBound_37 rfl (lv_at hl 1 rfl) ?_
            refine lv_iload_n hx hb dX5_leastBound_38 rfl (lv_at hl 0 rfl) ?_
            refine lv_iaddN hx hb dX5_leastBound_39 ?_
            refine lv_istore_n (lv' := [(2, .int (nI (tr + q))), (3, .int (nI q)), (0, .ref (ad 0)), (1, .int (nI b))]) hx hb dX5_leastBound_40 rfl hl (by decide) rfl (fun ls hl => ?_)
            refine lv_iload_n hx hb dX5_leastBound_41 rfl (lv_at hl 1 rfl) ?_
            refine lv_iconst (v := nI 2) hx hb dX5_leastBound_42 (by decide) ?_
            refine lv_idivN hx hb (by omega) (by omega) (by omega) dX5_leastBound_43 ?_
            refine lv_istore_n (lv' := [(3, .int (nI (q / 2))), (2, .int (nI (tr + q))), (0, .ref (ad 0)), (1, .int (nI b))]) hx hb dX5_leastBound_44 rfl hl (by decide) rfl (fun ls hl => ?_)
            refine lv_goto (tgt := 13) hx hb dX5_leastBound_45 (by decide) ?_
            have hl := lv_sub (l' := [(3, .int (nI (q / 2))), (2, .int (nI (tr + q))), (0, .ref (ad 0)), (1, .int (nI b))]) hl [0, 1, 2, 3] rfl
            have hP := fP.eqc (congrArg (fun v9 => csc ct ad v9 kp (nI nx) (nI sz) B A (nI tn) (nI p9) kd) (show (va_up (va_up Ms 1 T) 1 (cWt (upd (cPon (cCp (T) ((Ms 0)) n) b) (7 + 5 * b + 0) (nI (tr + q))) n b 49 0)) = (va_up Ms 1 (cLbW (Ms 0) n b tr q T)) from by first | rfl | (simp only [va_up_up]; rfl))) hP
            exact ih13 (f - 1) (tr + q) (q / 2) (cLbW (Ms 0) n b tr q T) ((half_lt hq (by omega)).2) (by omega) (by omega) ((cLb_1 (half_lt hq (by omega)).1 c14 (by omega) (of_decide_eq_true c34)).symm.trans hres) (by omega) _ _ hP hS _ hl
  have hl := lv_sub (l' := [(3, .int (nI 512)), (2, .int (nI 9)), (0, .ref (ad 0)), (1, .int (nI b))]) hl [0, 1, 2, 3] rfl
  have hP := fP.eqc (congrArg (fun v9 => csc ct ad v9 kp (nI nx) (nI sz) B A (nI tn) (nI p9) kd) (show Ms = (va_up Ms 1 (Ms 1)) from by exact (vup_id _ _ rfl).symm)) hP
  exact lp13 (10 + 1) 10 9 512 (Ms 1) (by decide) (by omega) (by omega) (rfl) (Nat.lt_succ_self _) _ _ hP hS _ hl

