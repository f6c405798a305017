/-! THE CLASS'S MARKET: hours -/
set_option maxRecDepth 100000 in
set_option maxHeartbeats 4000000 in
theorem mX2_goOneHour (l : Launch) (D : va_G) (ct : Nat → ClassId) (ad : Nat → Nat) (M : Nat → Int32)  (n : Nat) (hw : mW M n) : FMet l yX2_goOneHour cX2_goOneHour 2 (none : Option Jvm.ClassFile.FieldType) 3 65 D ct 19 ad [.ref (ad 0)] (mkc ct ad M) none (mkc ct ad (cHr M n)) := by
  refine FMet.of (by decide +kernel) (Nat.le_of_ble_eq_true rfl) ?_
  intro p e s m args below meth c ls hx hb hr hml hown hlocks htg hK hI hP hS hl
  have hl : lv_has ls 2 [(0, .ref (ad 0))] := hl
  have hn10 := hw.2
  refine lv_aload_n hx hb dX2_goOneHour_0 rfl (lv_at hl 0 rfl) ?_
  refine mk_cm0 (As := []) (rest := []) hx hb hown htg hK hI hS hP hml hl.1 (mX2_findSources l D ct ad _ n hw) cw_X2_77 rfl rfl ⟨Nat.le_of_ble_eq_true rfl, Nat.le_of_ble_eq_true rfl⟩ (Nat.le_of_ble_eq_true rfl) dX2_goOneHour_1 ⟨Nat.le_refl _, Nat.le_refl _⟩ (fun H locs hP hS => ?_)
  refine lv_aload_n hx hb dX2_goOneHour_4 rfl (lv_at hl 0 rfl) ?_
  refine mk_g4 hx hb hown htg hK hP fl_X2_36 dX2_goOneHour_5 ?_
  refine lv_iconst (v := nI 1) hx hb dX2_goOneHour_8 (by decide) ?_
  refine mk_lt hx hb hK hP (by omega) dX2_goOneHour_9 ?_
  refine lv_iconst (v := nI 1) hx hb dX2_goOneHour_10 (by decide) ?_
  refine lv_icmp_ne (tgt := 32) hx hb dX2_goOneHour_11 (by decide) (fun c11 => ?_) (fun c11 => ?_)
  · have hP : fP D 19 ad (mkc ct ad (ch1 M n)) H := fP.eqc (congrArg (mkc ct ad) (if_neg c11).symm) hP
    refine lv_iconst (v := nI 0) hx hb dX2_goOneHour_32 (by decide) ?_
    refine lv_istore_n (lv' := [(1, .int (nI 0)), (0, .ref (ad 0))]) hx hb dX2_goOneHour_33 rfl hl (by decide) rfl (fun ls hl => ?_)
    have lp34 : ∀ (fu34 : Nat) (i : Nat), i ≤ 4 → 4 - i < fu34 → ∀ (H : Heap) (locs : List Loc), fP D 19 ad (mkc ct ad (cHtA (ch1 M n) i)) H → va_S (fA 19 ad) s.heap H locs → ∀ (ls : Array Slot), lv_has ls 2 [(1, .int (nI i)), (0, .ref (ad 0))] → W p l e ({ frames := 3, cells := 0, slots := 0, locals := 65 }) s m args below meth c H locs 0 0 (MQ below (fQ D ct 19 ad none (mkc ct ad (cHr M n))) args s 0 0 (fA 19 ad)) (F0 m 34 ls []) := by
      intro fu34
      induction fu34 with
      | zero => intro i hi hfu34; exact absurd hfu34 (Nat.not_lt_zero _)
      | succ fu34 ih34 =>
        intro i hi hfu34 H locs hP hS ls hl
        refine lv_iload_n hx hb dX2_goOneHour_34 rfl (lv_at hl 0 rfl) ?_
        refine lv_iconst (v := nI 4) hx hb dX2_goOneHour_35 (by decide) ?_
        refine lv_icmp_geN (tgt := 60) hx hb (by omega) (by omega) dX2_goOneHour_36 (by decide) (fun c36 => ?_) (fun c36 => ?_)
        · obtain rfl : i = 4 := by omega
          refine lv_aload_n hx hb dX2_goOneHour_60 rfl (lv_at hl 1 rfl) ?_
          refine mk_cm0 (As := []) (rest := []) hx hb hown htg hK hI hS hP hml hl.1 (mX2_runMeters l D ct ad _ n ((cHtA_ok (ch1_ok hw).1 (ch1_ok hw).2 4 hi).1) ((ch2_ok hw).2)) cw_X2_87 rfl rfl ⟨Nat.le_of_ble_eq_true rfl, Nat.le_of_ble_eq_true rfl⟩ (Nat.le_of_ble_eq_true rfl) dX2_goOneHour_61 ⟨Nat.le_refl _, Nat.le_refl _⟩ (fun H locs hP hS => ?_)
          refine lv_iconst (v := nI 0) hx hb dX2_goOneHour_64 (by decide) ?_
          refine lv_istore_n (lv' := [(1, .int (nI 0)), (0, .ref (ad 0))]) hx hb dX2_goOneHour_65 rfl hl (by decide) rfl (fun ls hl => ?_)
          have lp66 : ∀ (fu66 : Nat) (i : Nat), i ≤ 4 → 4 - i < fu66 → ∀ (H : Heap) (locs : List Loc), fP D 19 ad (mkc ct ad (cTrA (cMeS (cHtA (ch1 M n) 4) (hrD (cHtA (ch1 M n) 4)) n) i)) H → va_S (fA 19 ad) s.heap H locs → ∀ (ls : Array Slot), lv_has ls 2 [(1, .int (nI i)), (0, .ref (ad 0))] → W p l e ({ frames := 3, cells := 0, slots := 0, locals := 65 }) s m args below meth c H locs 0 0 (MQ below (fQ D ct 19 ad none (mkc ct ad (cHr M n))) args s 0 0 (fA 19 ad)) (F0 m 66 ls []) := by
            intro fu66
            induction fu66 with
            | zero => intro i hi hfu66; exact absurd hfu66 (Nat.not_lt_zero _)
            | succ fu66 ih66 =>
              intro i hi hfu66 H locs hP hS ls hl
              refine lv_iload_n hx hb dX2_goOneHour_66 rfl (lv_at hl 0 rfl) ?_
              refine lv_iconst (v := nI 4) hx hb dX2_goOneHour_67 (by decide) ?_
              refine lv_icmp_geN (tgt := 86) hx hb (by omega) (by omega) dX2_goOneHour_68 (by decide) (fun c68 => ?_) (fun c68 => ?_)
              · obtain rfl : i = 4 := by omega
                refine lv_aload_n hx hb dX2_goOneHour_86 rfl (lv_at hl 1 rfl) ?_
                refine lv_dup hx hb dX2_goOneHour_87 rfl ?_
                refine mk_g5 hx hb hown htg hK hP fl_X2_58 dX2_goOneHour_88 ?_
                refine lv_iconst (v := nI 1) hx hb dX2_goOneHour_91 (by decide) ?_
                refine lv_iadd hx hb dX2_goOneHour_92 ?_
                refine mk_p5 hx hb hown htg hK hI hS hP fl_X2_58 dX2_goOneHour_93 (fun H locs hP hS => ?_)
                refine fr_vret hx hb hr hlocks hK hI hS dX2_goOneHour_96 ?_
                refine fP.eqc (congrArg (mkc ct ad) (show (cHr M n) = (upd (cTrA (cMeS (cHtA (ch1 M n) 4) (hrD (cHtA (ch1 M n) 4)) n) 4) (3) (((cTrA (cMeS (cHtA (ch1 M n) 4) (hrD (cHtA (ch1 M n) 4)) n) 4) 3) + (nI 1))) from by rfl).symm) ?_
                exact hP
              · refine lv_aload_n hx hb dX2_goOneHour_71 rfl (lv_at hl 1 rfl) ?_
                refine mk_g2 hx hb hown htg hK hP fl_X2_19 dX2_goOneHour_72 ?_
                refine lv_iload_n hx hb dX2_goOneHour_75 rfl (lv_at hl 0 rfl) ?_
                refine mk_ab hx hb hK hP (by omega) dX2_goOneHour_76 ?_
                refine mk_cb0 (As := []) (rest := []) (by omega) hx hb hown htg hK hI hS hP hml hl.1 (mX0_tripIfHot l D ct ad _ i (by omega)) cw_X2_90 rfl rfl ⟨Nat.le_of_ble_eq_true rfl, Nat.le_of_ble_eq_true rfl⟩ (Nat.le_of_ble_eq_true rfl) dX2_goOneHour_77 ⟨Nat.le_refl _, Nat.le_refl _⟩ (fun H locs hP hS => ?_)
                refine lv_iinc (v := nI (i + 1)) (lv' := [(1, .int (nI (i + 1))), (0, .ref (ad 0))]) hx hb dX2_goOneHour_80 hl (k := 0) rfl (nI_add i 1) (by decide) rfl (fun ls hl => ?_)
                refine lv_goto (tgt := 66) hx hb dX2_goOneHour_83 (by decide) ?_
                have hl := lv_sub (l' := [(1, .int (nI (i + 1))), (0, .ref (ad 0))]) hl [0, 1] rfl
                have hP := fP.eqc (congrArg (mkc ct ad) (show (cTr (cTrA (cMeS (cHtA (ch1 M n) 4) (hrD (cHtA (ch1 M n) 4)) n) i) i) = (cTrA (cMeS (cHtA (ch1 M n) 4) (hrD (cHtA (ch1 M n) 4)) n) (i + 1)) from by rfl)) hP
                exact ih66 (i + 1) (by omega) (by omega) _ _ hP hS _ hl
          have hl := lv_sub (l' := [(1, .int (nI 0)), (0, .ref (ad 0))]) hl [0, 1] rfl
          have hP := fP.eqc (congrArg (mkc ct ad) (show (cMeS (cHtA (ch1 M n) 4) (hrD (cHtA (ch1 M n) 4)) n) = (cTrA (cMeS (cHtA (ch1 M n) 4) (hrD (cHtA (ch1 M n) 4)) n) 0) from by rfl)) hP
          exact lp66 (4 - 0 + 1) 0 (by omega) (Nat.lt_succ_self _) _ _ hP hS _ hl
        · refine lv_aload_n hx hb dX2_goOneHour_39 rfl (lv_at hl 1 rfl) ?_
          refine mk_g2 hx hb hown htg hK hP fl_X2_19 dX2_goOneHour_40 ?_
          refine lv_iload_n hx hb dX2_goOneHour_43 rfl (lv_at hl 0 rfl) ?_
          refine mk_ab hx hb hK hP (by omega) dX2_goOneHour_44 ?_
          refine lv_aload_n hx hb dX2_goOneHour_45 rfl (lv_at hl 1 rfl) ?_
          refine mk_g4 hx hb hown htg hK hP fl_X2_36 dX2_goOneHour_46 ?_
          refine lv_iconst (v := nI 0) hx hb dX2_goOneHour_49 (by decide) ?_
          refine mk_lt hx hb hK hP (by omega) dX2_goOneHour_50 ?_
          refine mk_cb0 (As := [.int ((cHtA (ch1 M n) i) (0 + 0))]) (rest := []) (by omega) hx hb hown htg hK hI hS hP hml hl.1 (mX0_heatOrCool l D ct ad _ i ((cHtA (ch1 M n) i) (0 + 0)) (by omega)) cw_X2_84 rfl rfl ⟨Nat.le_of_ble_eq_true rfl, Nat.le_of_ble_eq_true rfl⟩ (Nat.le_of_ble_eq_true rfl) dX2_goOneHour_51 ⟨Nat.le_refl _, Nat.le_refl _⟩ (fun H locs hP hS => ?_)
          refine lv_iinc (v := nI (i + 1)) (lv' := [(1, .int (nI (i + 1))), (0, .ref (ad 0))]) hx hb dX2_goOneHour_54 hl (k := 0) rfl (nI_add i 1) (by decide) rfl (fun ls hl => ?_)
          refine lv_goto (tgt := 34) hx hb dX2_goOneHour_57 (by decide) ?_
          have hl := lv_sub (l' := [(1, .int (nI (i + 1))), (0, .ref (ad 0))]) hl [0, 1] rfl
          have hP := fP.eqc (congrArg (mkc ct ad) (show (cHt (cHtA (ch1 M n) i) i ((cHtA (ch1 M n) i) (0 + 0))) = (cHtA (ch1 M n) (i + 1)) from by rfl)) hP
          exact ih34 (i + 1) (by omega) (by omega) _ _ hP hS _ hl
    have hl := lv_sub (l' := [(1, .int (nI 0)), (0, .ref (ad 0))]) hl [0, 1] rfl
    have hP := fP.eqc (congrArg (mkc ct ad) (show (ch1 M n) = (cHtA (ch1 M n) 0) from by rfl)) hP
    exact lp34 (4 - 0 + 1) 0 (by omega) (Nat.lt_succ_self _) _ _ hP hS _ hl
  · refine lv_iconst (v := nI 0) hx hb dX2_goOneHour_14 (by decide) ?_
    refine lv_istore_n (lv' := [(1, .int (nI 0)), (0, .ref (ad 0))]) hx hb dX2_goOneHour_15 rfl hl (by decide) rfl (fun ls hl => ?_)
    have lp16 : ∀ (fu16 : Nat) (i : Nat), i ≤ 4 → 4 - i < fu16 → ∀ (H : Heap) (locs : List Loc), fP D 19 ad (mkc ct ad (cShA (cFS M n) n i)) H → va_S (fA 19 ad) s.heap H locs → ∀ (ls : Array Slot), lv_has ls 2 [(1, .int (nI i)), (0, .ref (ad 0))] → W p l e ({ frames := 3, cells := 0, slots := 0, locals := 65 }) s m args below meth c H locs 0 0 (MQ below (fQ D ct 19 ad none (mkc ct ad (cHr M n))) args s 0 0 (fA 19 ad)) (F0 m 16 ls []) := by
      intro fu16
      induction fu16 with
      | zero => intro i hi hfu16; exact absurd hfu16 (Nat.not_lt_zero _)
      | succ fu16 ih16 =>
        intro i hi hfu16 H locs hP hS ls hl
        refine lv_iload_n hx hb dX2_goOneHour_16 rfl (lv_at hl 0 rfl) ?_
        refine lv_iconst (v := nI 4) hx hb dX2_goOneHour_17 (by decide) ?_
        refine lv_icmp_geN (tgt := 32) hx hb (by omega) (by omega) dX2_goOneHour_18 (by decide) (fun c18 => ?_) (fun c18 => ?_)
        · obtain rfl : i = 4 := by omega
          have hP : fP D 19 ad (mkc ct ad (ch1 M n)) H := fP.eqc (congrArg (mkc ct ad) (if_pos c11).symm) hP
          refine lv_iconst (v := nI 0) hx hb dX2_goOneHour_32 (by decide) ?_
          refine lv_istore_n (lv' := [(1, .int (nI 0)), (0, .ref (ad 0))]) hx hb dX2_goOneHour_33 rfl hl (by decide) rfl (fun ls hl => ?_)
          have lp34 : ∀ (fu34 : Nat) (i : Nat), i ≤ 4 → 4 - i < fu34 → ∀ (H : Heap) (locs : List Loc), fP D 19 ad (mkc ct ad (cHtA (ch1 M n) i)) H → va_S (fA 19 ad) s.heap H locs → ∀ (ls : Array Slot), lv_has ls 2 [(1, .int (nI i)), (0, .ref (ad 0))] → W p l e ({ frames := 3, cells := 0, slots := 0, locals := 65 }) s m args below meth c H locs 0 0 (MQ below (fQ D ct 19 ad none (mkc ct ad (cHr M n))) args s 0 0 (fA 19 ad)) (F0 m 34 ls []) := by
            intro fu34
            induction fu34 with
            | zero => intro i hi hfu34; exact absurd hfu34 (Nat.not_lt_zero _)
            | succ fu34 ih34 =>
              intro i hi hfu34 H locs hP hS ls hl
              refine lv_iload_n hx hb dX2_goOneHour_34 rfl (lv_at hl 0 rfl) ?_
              refine lv_iconst (v := nI 4) hx hb dX2_goOneHour_35 (by decide) ?_
              refine lv_icmp_geN (tgt := 60) hx hb (by omega) (by omega) dX2_goOneHour_36 (by decide) (fun c36 => ?_) (fun c36 => ?_)
              · obtain rfl : i = 4 := by omega
                refine lv_aload_n hx hb dX2_goOneHour_60 rfl (lv_at hl 1 rfl) ?_
                refine mk_cm0 (As := []) (rest := []) hx hb hown htg hK hI hS hP hml hl.1 (mX2_runMeters l D ct ad _ n ((cHtA_ok (ch1_ok hw).1 (ch1_ok hw).2 4 hi).1) ((ch2_ok hw).2)) cw_X2_87 rfl rfl ⟨Nat.le_of_ble_eq_true rfl, Nat.le_of_ble_eq_true rfl⟩ (Nat.le_of_ble_eq_true rfl) dX2_goOneHour_61 ⟨Nat.le_refl _, Nat.le_refl _⟩ (fun H locs hP hS => ?_)
                refine lv_iconst (v := nI 0) hx hb dX2_goOneHour_64 (by decide) ?_
                refine lv_istore_n (lv' := [(1, .int (nI 0)), (0, .ref (ad 0))]) hx hb dX2_goOneHour_65 rfl hl (by decide) rfl (fun ls hl => ?_)
                have lp66 : ∀ (fu66 : Nat) (i : Nat), i ≤ 4 → 4 - i < fu66 → ∀ (H : Heap) (locs : List Loc), fP D 19 ad (mkc ct ad (cTrA (cMeS (cHtA (ch1 M n) 4) (hrD (cHtA (ch1 M n) 4)) n) i)) H → va_S (fA 19 ad) s.heap H locs → ∀ (ls : Array Slot), lv_has ls 2 [(1, .int (nI i)), (0, .ref (ad 0))] → W p l e ({ frames := 3, cells := 0, slots := 0, locals := 65 }) s m args below meth c H locs 0 0 (MQ below (fQ D ct 19 ad none (mkc ct ad (cHr M n))) args s 0 0 (fA 19 ad)) (F0 m 66 ls []) := by
                  intro fu66
                  induction fu66 with
                  | zero => intro i hi hfu66; exact absurd hfu66 (Nat.not_lt_zero _)
                  | succ fu66 ih66 =>
                    intro i hi hfu66 H locs hP hS ls hl
                    refine lv_iload_n hx hb dX2_goOneHour_66 rfl (lv_at hl 0 rfl) ?_
                    refine lv_iconst (v := nI 4) hx hb dX2_goOneHour_67 (by decide) ?_
                    refine lv_icmp_geN (tgt := 86) hx hb (by omega) (by omega) dX2_goOneHour_68 (by decide) (fun c68 => ?_) (fun c68 => ?_)
                    · obtain rfl : i = 4 := by omega
                      refine lv_aload_n hx hb dX2_goOneHour_86 rfl (lv_at hl 1 rfl) ?_
                      refine lv_dup hx hb dX2_goOneHour_87 rfl ?_
                      refine mk_g5 hx hb hown htg hK hP fl_X2_58 dX2_goOneHour_88 ?_
                      refine lv_iconst (v := nI 1) hx hb dX2_goOneHour_91 (by decide) ?_
                      refine lv_iadd hx hb dX2_goOneHour_92 ?_
                      refine mk_p5 hx hb hown htg hK hI hS hP fl_X2_58 dX2_goOneHour_93 (fun H locs hP hS => ?_)
                      refine fr_vret hx hb hr hlocks hK hI hS dX2_goOneHour_96 ?_
                      refine fP.eqc (congrArg (mkc ct ad) (show (cHr M n) = (upd (cTrA (cMeS (cHtA (ch1 M n) 4) (hrD (cHtA (ch1 M n) 4)) n) 4) (3) (((cTrA (cMeS (cHtA (ch1 M n) 4) (hrD (cHtA (ch1 M n) 4)) n) 4) 3) + (nI 1))) from by rfl).symm) ?_
                      exact hP
                    · refine lv_aload_n hx hb dX2_goOneHour_71 rfl (lv_at hl 1 rfl) ?_
                      refine mk_g2 hx hb hown htg hK hP fl_X2_19 dX2_goOneHour_72 ?_
                      refine lv_iload_n hx hb dX2_goOneHour_75 rfl (lv_at hl 0 rfl) ?_
                      refine mk_ab hx hb hK hP (by omega) dX2_goOneHour_76 ?_
                      refine mk_cb0 (As := []) (rest := []) (by omega) hx hb hown htg hK hI hS hP hml hl.1 (mX0_tripIfHot l D ct ad _ i (by omega)) cw_X2_90 rfl rfl ⟨Nat.le_of_ble_eq_true rfl, Nat.le_of_ble_eq_true rfl⟩ (Nat.le_of_ble_eq_true rfl) dX2_goOneHour_77 ⟨Nat.le_refl _, Nat.le_refl _⟩ (fun H locs hP hS => ?_)
                      refine lv_iinc (v := nI (i + 1)) (lv' := [(1, .int (nI (i + 1))), (0, .ref (ad 0))]) hx hb dX2_goOneHour_80 hl (k := 0) rfl (nI_add i 1) (by decide) rfl (fun ls hl => ?_)
                      refine lv_goto (tgt := 66) hx hb dX2_goOneHour_83 (by decide) ?_
                      have hl := lv_sub (l' := [(1, .int (nI (i + 1))), (0, .ref (ad 0))]) hl [0, 1] rfl
                      have hP := fP.eqc (congrArg (mkc ct ad) (show (cTr (cTrA (cMeS (cHtA (ch1 M n) 4) (hrD (cHtA (ch1 M n) 4)) n) i) i) = (cTrA (cMeS (cHtA (ch1 M n) 4) (hrD (cHtA (ch1 M n) 4)) n) (i + 1)) from by rfl)) hP
                      exact ih66 (i + 1) (by omega) (by omega) _ _ hP hS _ hl
                have hl := lv_sub (l' := [(1, .int (nI 0)), (0, .ref (ad 0))]) hl [0, 1] rfl
                have hP := fP.eqc (congrArg (mkc ct ad) (show (cMeS (cHtA (ch1 M n) 4) (hrD (cHtA (ch1 M n) 4)) n) = (cTrA (cMeS (cHtA (ch1 M n) 4) (hrD (cHtA (ch1 M n) 4)) n) 0) from by rfl)) hP
                exact lp66 (4 - 0 + 1) 0 (by omega) (Nat.lt_succ_self _) _ _ hP hS _ hl
              · refine lv_aload_n hx hb dX2_goOneHour_39 rfl (lv_at hl 1 rfl) ?_
                refine mk_g2 hx hb hown htg hK hP fl_X2_19 dX2_goOneHour_40 ?_
                refine lv_iload_n hx hb dX2_goOneHour_43 rfl (lv_at hl 0 rfl) ?_
                refine mk_ab hx hb hK hP (by omega) dX2_goOneHour_44 ?_
                refine lv_aload_n hx hb dX2_goOneHour_45 rfl (lv_at hl 1 rfl) ?_
                refine mk_g4 hx hb hown htg hK hP fl_X2_36 dX2_goOneHour_46 ?_
                refine lv_iconst (v := nI 0) hx hb dX2_goOneHour_49 (by decide) ?_
                refine mk_lt hx hb hK hP (by omega) dX2_goOneHour_50 ?_
                refine mk_cb0 (As := [.int ((cHtA (ch1 M n) i) (0 + 0))]) (rest := []) (by omega) hx hb hown htg hK hI hS hP hml hl.1 (mX0_heatOrCool l D ct ad _ i ((cHtA (ch1 M n) i) (0 + 0)) (by omega)) cw_X2_84 rfl rfl ⟨Nat.le_of_ble_eq_true rfl, Nat.le_of_ble_eq_true rfl⟩ (Nat.le_of_ble_eq_true rfl) dX2_goOneHour_51 ⟨Nat.le_refl _, Nat.le_refl _⟩ (fun H locs hP hS => ?_)
                refine lv_iinc (v := nI (i + 1)) (lv' := [(1, .int (nI (i + 1))), (0, .ref (ad 0))]) hx hb dX2_goOneHour_54 hl (k := 0) rfl (nI_add i 1) (by decide) rfl (fun ls hl => ?_)
                refine lv_goto (tgt := 34) hx hb dX2_goOneHour_57 (by decide) ?_
                have hl := lv_sub (l' := [(1, .int (nI (i + 1))), (0, .ref (ad 0))]) hl [0, 1] rfl
                have hP := fP.eqc (congrArg (mkc ct ad) (show (cHt (cHtA (ch1 M n) i) i ((cHtA (ch1 M n) i) (0 + 0))) = (cHtA (ch1 M n) (i + 1)) from by rfl)) hP
                exact ih34 (i + 1) (by omega) (by omega) _ _ hP hS _ hl
          have hl := lv_sub (l' := [(1, .int (nI 0)), (0, .ref (ad 0))]) hl [0, 1] rfl
          have hP := fP.eqc (congrArg (mkc ct ad) (show (ch1 M n) = (cHtA (ch1 M n) 0) from by rfl)) hP
          exact lp34 (4 - 0 + 1) 0 (by omega) (Nat.lt_succ_self _) _ _ hP hS _ hl
        · refine lv_aload_n hx hb dX2_goOneHour_21 rfl (lv_at hl 1 rfl) ?_
          refine lv_iload_n hx hb dX2_goOneHour_22 rfl (lv_at hl 0 rfl) ?_
          refine mk_cm0 (As := [.int (nI i)]) (rest := []) hx hb hown htg hK hI hS hP hml hl.1 (mX2_shedTooMuch l D ct ad _ i n ((cShA_ok (cFS_mW hw) (cFS_sW hw) i).1) (by omega)) cw_X2_80 rfl rfl ⟨Nat.le_of_ble_eq_true rfl, Nat.le_of_ble_eq_true rfl⟩ (Nat.le_of_ble_eq_true rfl) dX2_goOneHour_23 ⟨Nat.le_refl _, Nat.le_refl _⟩ (fun H locs hP hS => ?_)
          refine lv_iinc (v := nI (i + 1)) (lv' := [(1, .int (nI (i + 1))), (0, .ref (ad 0))]) hx hb dX2_goOneHour_26 hl (k := 0) rfl (nI_add i 1) (by decide) rfl (fun ls hl => ?_)
          refine lv_goto (tgt := 16) hx hb dX2_goOneHour_29 (by decide) ?_
          have hl := lv_sub (l' := [(1, .int (nI (i + 1))), (0, .ref (ad 0))]) hl [0, 1] rfl
          have hP := fP.eqc (congrArg (mkc ct ad) (show (cShL n i n (cShA (cFS M n) n i)) = (cShA (cFS M n) n (i + 1)) from by rfl)) hP
          exact ih16 (i + 1) (by omega) (by omega) _ _ hP hS _ hl
    have hl := lv_sub (l' := [(1, .int (nI 0)), (0, .ref (ad 0))]) hl [0, 1] rfl
    have hP := fP.eqc (congrArg (mkc ct ad) (show (cFS M n) = (cShA (cFS M n) n 0) from by rfl)) hP
    exact lp16 (4 - 0 + 1) 0 (by omega) (Nat.lt_succ_self _) _ _ hP hS _ hl
set_option maxRecDepth 100000 in
set_option maxHeartbeats 4000000 in
theorem mX2_goHours (l : Launch) (D : va_G) (ct : Nat → ClassId) (ad : Nat → Nat) (M : Nat → Int32) (tm : Nat) (n : Nat) (hw : mW M n) (htm : tm < 2147483648) : FMet l yX2_goHours cX2_goHours 3 (none : Option Jvm.ClassFile.FieldType) 4 86 D ct 19 ad [.ref (ad 0), .int (nI tm)] (mkc ct ad M) none (mkc ct ad (cHs M n tm)) := by
  refine FMet.of (by decide +kernel) (Nat.le_of_ble_eq_true rfl) ?_
  intro p e s m args below meth c ls hx hb hr hml hown hlocks htg hK hI hP hS hl
  have hl : lv_has ls 3 [(0, .ref (ad 0)), (1, .int (nI tm))] := hl
  have hn10 := hw.2
  refine lv_iconst (v := nI 0) hx hb dX2_goHours_0 (by decide) ?_
  refine lv_istore_n (lv' := [(2, .int (nI 0)), (0, .ref (ad 0)), (1, .int (nI tm))]) hx hb dX2_goHours_1 rfl hl (by decide) rfl (fun ls hl => ?_)
  have lp2 : ∀ (fu2 : Nat) (i : Nat), i ≤ tm → tm - i < fu2 → ∀ (H : Heap) (locs : List Loc), fP D 19 ad (mkc ct ad (cHs M n i)) H → va_S (fA 19 ad) s.heap H locs → ∀ (ls : Array Slot), lv_has ls 3 [(2, .int (nI i)), (0, .ref (ad 0)), (1, .int (nI tm))] → W p l e ({ frames := 4, cells := 0, slots := 0, locals := 86 }) s m args below meth c H locs 0 0 (MQ below (fQ D ct 19 ad none (mkc ct ad (cHs M n tm))) args s 0 0 (fA 19 ad)) (F0 m 2 ls []) := by
    intro fu2
    induction fu2 with
    | zero => intro i hi hfu2; exact absurd hfu2 (Nat.not_lt_zero _)
    | succ fu2 ih2 =>
      intro i hi hfu2 H locs hP hS ls hl
      refine lv_iload_n hx hb dX2_goHours_2 rfl (lv_at hl 0 rfl) ?_
      refine lv_iload_n hx hb dX2_goHours_3 rfl (lv_at hl 2 rfl) ?_
      refine lv_icmp_geN (tgt := 17) hx hb (by omega) (by omega) dX2_goHours_4 (by decide) (fun c4 => ?_) (fun c4 => ?_)
      · have e9 : tm = i := by omega
        subst e9
        refine fr_vret hx hb hr hlocks hK hI hS dX2_goHours_17 ?_
        exact hP
      · refine lv_aload_n hx hb dX2_goHours_7 rfl (lv_at hl 1 rfl) ?_
        refine mk_cm0 (As := []) (rest := []) hx hb hown htg hK hI hS hP hml hl.1 (mX2_goOneHour l D ct ad _ n (cHs_mW hw i)) cw_X2_74 rfl rfl ⟨Nat.le_of_ble_eq_true rfl, Nat.le_of_ble_eq_true rfl⟩ (Nat.le_of_ble_eq_true rfl) dX2_goHours_8 ⟨Nat.le_refl _, Nat.le_refl _⟩ (fun H locs hP hS => ?_)
        refine lv_iinc (v := nI (i + 1)) (lv' := [(2, .int (nI (i + 1))), (0, .ref (ad 0)), (1, .int (nI tm))]) hx hb dX2_goHours_11 hl (k := 0) rfl (nI_add i 1) (by decide) rfl (fun ls hl => ?_)
        refine lv_goto (tgt := 2) hx hb dX2_goHours_14 (by decide) ?_
        have hl := lv_sub (l' := [(2, .int (nI (i + 1))), (0, .ref (ad 0)), (1, .int (nI tm))]) hl [0, 1, 2] rfl
        have hP := fP.eqc (congrArg (mkc ct ad) (show (cHr (cHs M n i) n) = (cHs M n (i + 1)) from by rfl)) hP
        exact ih2 (i + 1) (by omega) (by omega) _ _ hP hS _ hl
  have hl := lv_sub (l' := [(2, .int (nI 0)), (0, .ref (ad 0)), (1, .int (nI tm))]) hl [0, 1, 2] rfl
  have hP := fP.eqc (congrArg (mkc ct ad) (show M = (cHs M n 0) from by rfl)) hP
  exact lp2 (tm - 0 + 1) 0 (by omega) (Nat.lt_succ_self _) _ _ hP hS _ hl

