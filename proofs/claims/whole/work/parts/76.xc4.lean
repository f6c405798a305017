/-! EXCEPTIONS OF THE CLASS: the rest -/
set_option maxRecDepth 100000 in
set_option maxHeartbeats 4000000 in
theorem mX5_stall_tA (l : Launch) (hlt : l.stackTraces = false) (D : va_G) (ct : Nat → ClassId) (ad : Nat → Nat) (Ms : Nat → Nat → Int32) (kp : Nat → Int32) (nx sz : Nat) (B A : Nat → Int32) (tn p9 : Nat) (kd : Int32) (a0 : Int32) (a1 : Int32) (a2 : Int32) (a3 : Int32)   (hbad : a0 < nI 1 ∨ nI 500 < a0 ∨ a3 < nI 1 ∨ nI 9 < a3 ∨ a1 < 0 ∨ nI 24 ≤ a1 ∨ a2 < 0 ∨ nI 24 ≤ a2) : TMet l yX5_stall cX5_stall 5 (some .int) 6 82 D ct 198 ad [.ref (ad 0), .int (a0), .int (a1), .int (a2), .int (a3)] (csc ct ad Ms kp (nI nx) (nI sz) B A (nI tn) (nI p9) kd) EA (csc ct ad Ms kp (nI nx) (nI sz) B A (nI tn) (nI p9) kd) := by
  refine TMet.of (by decide +kernel) (Nat.le_of_ble_eq_true rfl) ?_
  intro p e s m args below meth c ls hx hb hr hml hown hlocks htg hK hI hP hS hl htb hE
  have hl : lv_has ls 5 [(0, .ref (ad 0)), (1, .int (a0)), (2, .int (a1)), (3, .int (a2)), (4, .int (a3))] := hl
  refine lv_iload_n hx hb dX5_stall_0 rfl (lv_at hl 1 rfl) ?_
  refine lv_iconst (v := nI 1) hx hb dX5_stall_1 (by decide) ?_
  refine lv_icmp_ltR (tgt := 25) hx hb dX5_stall_2 (by decide) (fun c2 => ?_) (fun c2 => ?_)
  · exact fx_throw (E := EA) (text := "a load is 1 to 500, a rank 1 to 9") (ik := 41) (is := 43) (ic := 45) hlt hx hb hml hown htg hlocks hK hI hP hS hl.1 htb hE (by decide) xl_A xm_A xn_A xo_A (by decide) (by decide) (List.mem_of_getElem? (i := 0) rfl) dX5_stall_25 dX5_stall_28 dX5_stall_29 dX5_stall_31 dX5_stall_34 ⟨Nat.le_of_ble_eq_true rfl, Nat.le_of_ble_eq_true rfl, Nat.le_refl _, Nat.le_refl _⟩
  · refine lv_iload_n hx hb dX5_stall_5 rfl (lv_at hl 1 rfl) ?_
    refine lv_sipush (v := nI 500) hx hb dX5_stall_6 (by decide) ?_
    refine lv_icmp_gtR (tgt := 25) hx hb dX5_stall_9 (by decide) (fun c9 => ?_) (fun c9 => ?_)
    · exact fx_throw (E := EA) (text := "a load is 1 to 500, a rank 1 to 9") (ik := 41) (is := 43) (ic := 45) hlt hx hb hml hown htg hlocks hK hI hP hS hl.1 htb hE (by decide) xl_A xm_A xn_A xo_A (by decide) (by decide) (List.mem_of_getElem? (i := 0) rfl) dX5_stall_25 dX5_stall_28 dX5_stall_29 dX5_stall_31 dX5_stall_34 ⟨Nat.le_of_ble_eq_true rfl, Nat.le_of_ble_eq_true rfl, Nat.le_refl _, Nat.le_refl _⟩
    · refine lv_iload hx hb dX5_stall_12 (lv_at hl 4 rfl) ?_
      refine lv_iconst (v := nI 1) hx hb dX5_stall_14 (by decide) ?_
      refine lv_icmp_ltR (tgt := 25) hx hb dX5_stall_15 (by decide) (fun c15 => ?_) (fun c15 => ?_)
      · exact fx_throw (E := EA) (text := "a load is 1 to 500, a rank 1 to 9") (ik := 41) (is := 43) (ic := 45) hlt hx hb hml hown htg hlocks hK hI hP hS hl.1 htb hE (by decide) xl_A xm_A xn_A xo_A (by decide) (by decide) (List.mem_of_getElem? (i := 0) rfl) dX5_stall_25 dX5_stall_28 dX5_stall_29 dX5_stall_31 dX5_stall_34 ⟨Nat.le_of_ble_eq_true rfl, Nat.le_of_ble_eq_true rfl, Nat.le_refl _, Nat.le_refl _⟩
      · refine lv_iload hx hb dX5_stall_18 (lv_at hl 4 rfl) ?_
        refine lv_bipush (v := nI 9) hx hb dX5_stall_20 (by decide) ?_
        refine lv_icmp_leR (tgt := 35) hx hb dX5_stall_22 (by decide) (fun c22 => ?_) (fun c22 => ?_)
        · refine lv_iload_n hx hb dX5_stall_35 rfl (lv_at hl 2 rfl) ?_
          refine lv_ifltR (tgt := 55) hx hb dX5_stall_36 (by decide) (fun c36 => ?_) (fun c36 => ?_)
          · exact fx_throw (E := EA) (text := "an hour of the day is 0 to 23") (ik := 41) (is := 48) (ic := 45) hlt hx hb hml hown htg hlocks hK hI hP hS hl.1 htb hE (by decide) xl_A xm_A xn_A xo_A (by decide) (by decide) (List.mem_of_getElem? (i := 1) rfl) dX5_stall_55 dX5_stall_58 dX5_stall_59 dX5_stall_61 dX5_stall_64 ⟨Nat.le_of_ble_eq_true rfl, Nat.le_of_ble_eq_true rfl, Nat.le_refl _, Nat.le_refl _⟩
          · refine lv_iload_n hx hb dX5_stall_39 rfl (lv_at hl 2 rfl) ?_
            refine lv_bipush (v := nI 24) hx hb dX5_stall_40 (by decide) ?_
            refine lv_icmp_geR (tgt := 55) hx hb dX5_stall_42 (by decide) (fun c42 => ?_) (fun c42 => ?_)
            · exact fx_throw (E := EA) (text := "an hour of the day is 0 to 23") (ik := 41) (is := 48) (ic := 45) hlt hx hb hml hown htg hlocks hK hI hP hS hl.1 htb hE (by decide) xl_A xm_A xn_A xo_A (by decide) (by decide) (List.mem_of_getElem? (i := 1) rfl) dX5_stall_55 dX5_stall_58 dX5_stall_59 dX5_stall_61 dX5_stall_64 ⟨Nat.le_of_ble_eq_true rfl, Nat.le_of_ble_eq_true rfl, Nat.le_refl _, Nat.le_refl _⟩
            · refine lv_iload_n hx hb dX5_stall_45 rfl (lv_at hl 3 rfl) ?_
              refine lv_ifltR (tgt := 55) hx hb dX5_stall_46 (by decide) (fun c46 => ?_) (fun c46 => ?_)
              · exact fx_throw (E := EA) (text := "an hour of the day is 0 to 23") (ik := 41) (is := 48) (ic := 45) hlt hx hb hml hown htg hlocks hK hI hP hS hl.1 htb hE (by decide) xl_A xm_A xn_A xo_A (by decide) (by decide) (List.mem_of_getElem? (i := 1) rfl) dX5_stall_55 dX5_stall_58 dX5_stall_59 dX5_stall_61 dX5_stall_64 ⟨Nat.le_of_ble_eq_true rfl, Nat.le_of_ble_eq_true rfl, Nat.le_refl _, Nat.le_refl _⟩
              · refine lv_iload_n hx hb dX5_stall_49 rfl (lv_at hl 3 rfl) ?_
                refine lv_bipush (v := nI 24) hx hb dX5_stall_50 (by decide) ?_
                refine lv_icmp_ltR (tgt := 65) hx hb dX5_stall_52 (by decide) (fun c52 => ?_) (fun c52 => ?_)
                · exfalso; rcases hbad with q | q | q | q | q | q | q | q <;> first | exact absurd q (Int32.not_lt.mpr c2) | exact absurd q (Int32.not_le.mpr c2) | exact absurd q (Int32.not_lt.mpr c9) | exact absurd q (Int32.not_le.mpr c9) | exact absurd q (Int32.not_lt.mpr c15) | exact absurd q (Int32.not_le.mpr c15) | exact absurd q (Int32.not_lt.mpr c22) | exact absurd q (Int32.not_le.mpr c22) | exact absurd q (Int32.not_lt.mpr c36) | exact absurd q (Int32.not_le.mpr c36) | exact absurd q (Int32.not_lt.mpr c42) | exact absurd q (Int32.not_le.mpr c42) | exact absurd q (Int32.not_lt.mpr c46) | exact absurd q (Int32.not_le.mpr c46) | exact absurd q (Int32.not_lt.mpr c52) | exact absurd q (Int32.not_le.mpr c52)
                · exact fx_throw (E := EA) (text := "an hour of the day is 0 to 23") (ik := 41) (is := 48) (ic := 45) hlt hx hb hml hown htg hlocks hK hI hP hS hl.1 htb hE (by decide) xl_A xm_A xn_A xo_A (by decide) (by decide) (List.mem_of_getElem? (i := 1) rfl) dX5_stall_55 dX5_stall_58 dX5_stall_59 dX5_stall_61 dX5_stall_64 ⟨Nat.le_of_ble_eq_true rfl, Nat.le_of_ble_eq_true rfl, Nat.le_refl _, Nat.le_refl _⟩
        · exact fx_throw (E := EA) (text := "a load is 1 to 500, a rank 1 to 9") (ik := 41) (is := 43) (ic := 45) hlt hx hb hml hown htg hlocks hK hI hP hS hl.1 htb hE (by decide) xl_A xm_A xn_A xo_A (by decide) (by decide) (List.mem_of_getElem? (i := 0) rfl) dX5_stall_25 dX5_stall_28 dX5_stall_29 dX5_stall_31 dX5_stall_34 ⟨Nat.le_of_ble_eq_true rfl, Nat.le_of_ble_eq_true rfl, Nat.le_refl _, Nat.le_refl _⟩
set_option maxRecDepth 100000 in
set_option maxHeartbeats 4000000 in
theorem mX5_stall_tS (l : Launch) (hlt : l.stackTraces = false) (D : va_G) (ct : Nat → ClassId) (ad : Nat → Nat) (Ms : Nat → Nat → Int32) (kp : Nat → Int32) (nx sz : Nat) (B A : Nat → Int32) (tn p9 : Nat) (kd : Int32) (a0 : Int32) (a1 : Int32) (a2 : Int32) (a3 : Int32) (n : Nat)  (hw : mW (Ms 0) n) (hn : n = 10) (h1 : ¬ a0 < nI 1) (h2 : ¬ nI 500 < a0) (h3 : ¬ a3 < nI 1) (h4 : ¬ nI 9 < a3) (h5 : ¬ a1 < 0) (h6 : ¬ nI 24 ≤ a1) (h7 : ¬ a2 < 0) (h8 : ¬ nI 24 ≤ a2) : TMet l yX5_stall cX5_stall 5 (some .int) 6 82 D ct 198 ad [.ref (ad 0), .int (a0), .int (a1), .int (a2), .int (a3)] (csc ct ad Ms kp (nI nx) (nI sz) B A (nI tn) (nI p9) kd) ES (csc ct ad Ms kp (nI nx) (nI sz) B A (nI tn) (nI p9) kd) := by
  refine TMet.of (by decide +kernel) (Nat.le_of_ble_eq_true rfl) ?_
  intro p e s m args below meth c ls hx hb hr hml hown hlocks htg hK hI hP hS hl htb hE
  have hl : lv_has ls 5 [(0, .ref (ad 0)), (1, .int (a0)), (2, .int (a1)), (3, .int (a2)), (4, .int (a3))] := hl
  have hn10 := hw.2
  refine lv_iload_n hx hb dX5_stall_0 rfl (lv_at hl 1 rfl) ?_
  refine lv_iconst (v := nI 1) hx hb dX5_stall_1 (by decide) ?_
  refine lv_icmp_ltR (tgt := 25) hx hb dX5_stall_2 (by decide) (fun c2 => ?_) (fun c2 => ?_)
  · exact absurd c2 h1
  · refine lv_iload_n hx hb dX5_stall_5 rfl (lv_at hl 1 rfl) ?_
    refine lv_sipush (v := nI 500) hx hb dX5_stall_6 (by decide) ?_
    refine lv_icmp_gtR (tgt := 25) hx hb dX5_stall_9 (by decide) (fun c9 => ?_) (fun c9 => ?_)
    · exact absurd c9 h2
    · refine lv_iload hx hb dX5_stall_12 (lv_at hl 4 rfl) ?_
      refine lv_iconst (v := nI 1) hx hb dX5_stall_14 (by decide) ?_
      refine lv_icmp_ltR (tgt := 25) hx hb dX5_stall_15 (by decide) (fun c15 => ?_) (fun c15 => ?_)
      · exact absurd c15 h3
      · refine lv_iload hx hb dX5_stall_18 (lv_at hl 4 rfl) ?_
        refine lv_bipush (v := nI 9) hx hb dX5_stall_20 (by decide) ?_
        refine lv_icmp_leR (tgt := 35) hx hb dX5_stall_22 (by decide) (fun c22 => ?_) (fun c22 => ?_)
        · refine lv_iload_n hx hb dX5_stall_35 rfl (lv_at hl 2 rfl) ?_
          refine lv_ifltR (tgt := 55) hx hb dX5_stall_36 (by decide) (fun c36 => ?_) (fun c36 => ?_)
          · exact absurd c36 h5
          · refine lv_iload_n hx hb dX5_stall_39 rfl (lv_at hl 2 rfl) ?_
            refine lv_bipush (v := nI 24) hx hb dX5_stall_40 (by decide) ?_
            refine lv_icmp_geR (tgt := 55) hx hb dX5_stall_42 (by decide) (fun c42 => ?_) (fun c42 => ?_)
            · exact absurd c42 h6
            · refine lv_iload_n hx hb dX5_stall_45 rfl (lv_at hl 3 rfl) ?_
              refine lv_ifltR (tgt := 55) hx hb dX5_stall_46 (by decide) (fun c46 => ?_) (fun c46 => ?_)
              · exact absurd c46 h7
              · refine lv_iload_n hx hb dX5_stall_49 rfl (lv_at hl 3 rfl) ?_
                refine lv_bipush (v := nI 24) hx hb dX5_stall_50 (by decide) ?_
                refine lv_icmp_ltR (tgt := 65) hx hb dX5_stall_52 (by decide) (fun c52 => ?_) (fun c52 => ?_)
                · refine lv_aload_n hx hb dX5_stall_65 rfl (lv_at hl 0 rfl) ?_
                  refine cs_g0 hx hb hown htg hK hP fl_X5_10 dX5_stall_66 ?_
                  refine cs_cmr (i := 0) (M := Ms 0) (M' := Ms 0) (As := []) (rest := []) hx hb hown htg hK hI hS hP hml hl.1 (by omega) (by first | rfl | (simp (disch := omega) only [vup_s, va_up_ne]; done)) (mX2_isFull l D ct (fun z => ad (8 + 19 * 0 + z)) (Ms 0) n hw) cw_X5_50 rfl rfl ⟨Nat.le_of_ble_eq_true rfl, Nat.le_of_ble_eq_true rfl⟩ (Nat.le_of_ble_eq_true rfl) dX5_stall_69 ⟨Nat.zero_le _, Nat.zero_le _⟩ (fun H locs hP hS => ?_)
                  have hP := fP.eqc (congrArg (fun v9 => csc ct ad v9 kp (nI nx) (nI sz) B A (nI tn) (nI p9) kd) (show (va_up Ms 0 (Ms 0)) = Ms from by first | exact vup_id _ _ (by first | rfl | (simp (disch := omega) only [vup_s, va_up_ne]; done)))) hP
                  refine lv_ifeqB (tgt := 85) hx hb dX5_stall_72 (by decide) (fun c72 => ?_) (fun c72 => ?_)
                  · exact absurd (of_decide_eq_false c72) (by omega)
                  · exact fx_throw (E := ES) (text := "there are 10 stalls") (ik := 54) (is := 56) (ic := 58) hlt hx hb hml hown htg hlocks hK hI hP hS hl.1 htb hE (by decide) xl_S xm_S xn_S xo_S (by decide) (by decide) (List.mem_of_getElem? (i := 2) rfl) dX5_stall_75 dX5_stall_78 dX5_stall_79 dX5_stall_81 dX5_stall_84 ⟨Nat.le_of_ble_eq_true rfl, Nat.le_of_ble_eq_true rfl, Nat.le_refl _, Nat.le_refl _⟩
                · exact absurd c52 h8
        · exact absurd c22 h4
set_option maxRecDepth 100000 in
set_option maxHeartbeats 4000000 in
theorem mX5_plug_tA (l : Launch) (hlt : l.stackTraces = false) (D : va_G) (ct : Nat → ClassId) (ad : Nat → Nat) (Ms : Nat → Nat → Int32) (kp : Nat → Int32) (nx sz : Nat) (B A : Nat → Int32) (tn p9 : Nat) (kd : Int32) (k : Nat) (v : Int32) (n : Nat)  (hw : mW (Ms 0) n) (hkn : k < n) (hbad : v < nI 0 ∨ nI 11 < v) : TMet l yX5_plug cX5_plug 3 (some .int) 7 104 D ct 198 ad [.ref (ad 0), .int (nI k), .int (v)] (csc ct ad Ms kp (nI nx) (nI sz) B A (nI tn) (nI p9) kd) EA (csc ct ad Ms kp (nI nx) (nI sz) B A (nI tn) (nI p9) kd) := by
  refine TMet.of (by decide +kernel) (Nat.le_of_ble_eq_true rfl) ?_
  intro p e s m args below meth c ls hx hb hr hml hown hlocks htg hK hI hP hS hl htb hE
  have hl : lv_has ls 3 [(0, .ref (ad 0)), (1, .int (nI k)), (2, .int (v))] := hl
  have hn10 := hw.2
  refine lv_aload_n hx hb dX5_plug_0 rfl (lv_at hl 0 rfl) ?_
  refine lv_iload_n hx hb dX5_plug_1 rfl (lv_at hl 1 rfl) ?_
  refine cs_co0 (As := [.int (nI k)]) (rest := []) hx hb hown htg hK hI hS hP hml hl.1 (mX5_checkStall l D ct ad Ms kp nx sz B A tn p9 kd k n hw (by omega)) cw_X5_67 rfl rfl ⟨Nat.le_of_ble_eq_true rfl, Nat.le_of_ble_eq_true rfl⟩ (Nat.le_of_ble_eq_true rfl) dX5_plug_2 ⟨Nat.zero_le _, Nat.zero_le _⟩ (fun H locs hP hS => ?_)
  refine lv_iload_n hx hb dX5_plug_5 rfl (lv_at hl 2 rfl) ?_
  refine lv_iconst (v := nI 0) hx hb dX5_plug_6 (by decide) ?_
  refine lv_bipush (v := nI 11) hx hb dX5_plug_7 (by decide) ?_
  exact fx_So (As := [.int (v), .int (nI 0), .int (nI 11)]) (rest := []) hx hb hml hown htg hlocks hK hI hP hS hl.1 htb hE (mX5_checkArgument_t l hlt D ct ad Ms kp nx sz B A tn p9 kd v (nI 0) (nI 11)  hbad) cw_X5_71 rfl rfl ⟨Nat.le_of_ble_eq_true rfl, Nat.le_of_ble_eq_true rfl⟩ (Nat.le_of_ble_eq_true rfl) dX5_plug_9 ⟨Nat.le_refl _, Nat.le_refl _⟩
set_option maxRecDepth 100000 in
set_option maxHeartbeats 4000000 in
theorem mX5_plug_tS (l : Launch) (hlt : l.stackTraces = false) (D : va_G) (ct : Nat → ClassId) (ad : Nat → Nat) (Ms : Nat → Nat → Int32) (kp : Nat → Int32) (nx sz : Nat) (B A : Nat → Int32) (tn p9 : Nat) (kd : Int32) (k : Nat) (q : Nat) (n : Nat)  (hw : mW (Ms 0) n) (hkn : k < n) (hq12 : q < 12) (hq : ¬ cAt (Ms 0) (nI q) n 11 0 = -1) : TMet l yX5_plug cX5_plug 3 (some .int) 6 82 D ct 198 ad [.ref (ad 0), .int (nI k), .int (nI q)] (csc ct ad Ms kp (nI nx) (nI sz) B A (nI tn) (nI p9) kd) ES (csc ct ad Ms kp (nI nx) (nI sz) B A (nI tn) (nI p9) kd) := by
  refine TMet.of (by decide +kernel) (Nat.le_of_ble_eq_true rfl) ?_
  intro p e s m args below meth c ls hx hb hr hml hown hlocks htg hK hI hP hS hl htb hE
  have hl : lv_has ls 3 [(0, .ref (ad 0)), (1, .int (nI k)), (2, .int (nI q))] := hl
  have hn10 := hw.2
  refine lv_aload_n hx hb dX5_plug_0 rfl (lv_at hl 0 rfl) ?_
  refine lv_iload_n hx hb dX5_plug_1 rfl (lv_at hl 1 rfl) ?_
  refine cs_co0 (As := [.int (nI k)]) (rest := []) hx hb hown htg hK hI hS hP hml hl.1 (mX5_checkStall l D ct ad Ms kp nx sz B A tn p9 kd k n hw (by omega)) cw_X5_67 rfl rfl ⟨Nat.le_of_ble_eq_true rfl, Nat.le_of_ble_eq_true rfl⟩ (Nat.le_of_ble_eq_true rfl) dX5_plug_2 ⟨Nat.zero_le _, Nat.zero_le _⟩ (fun H locs hP hS => ?_)
  refine lv_iload_n hx hb dX5_plug_5 rfl (lv_at hl 2 rfl) ?_
  refine lv_iconst (v := nI 0) hx hb dX5_plug_6 (by decide) ?_
  refine lv_bipush (v := nI 11) hx hb dX5_plug_7 (by decide) ?_
  refine cs_cS0 (As := [.int (nI q), .int (nI 0), .int (nI 11)]) (rest := []) hx hb hown htg hK hI hS hP hml hl.1 (mX5_checkArgument l D ct ad Ms kp nx sz B A tn p9 kd (nI q) (nI 0) (nI 11) (Int32.not_lt.mpr ((n_le (by omega) (by omega)).mpr (by omega))) (Int32.not_lt.mpr ((n_le (by omega) (by omega)).mpr (by omega)))) cw_X5_71 rfl rfl ⟨Nat.le_of_ble_eq_true rfl, Nat.le_of_ble_eq_true rfl⟩ (Nat.le_of_ble_eq_true rfl) dX5_plug_9 ⟨Nat.zero_le _, Nat.zero_le _⟩ (fun H locs hP hS => ?_)
  refine lv_aload_n hx hb dX5_plug_12 rfl (lv_at hl 0 rfl) ?_
  refine cs_g0 hx hb hown htg hK hP fl_X5_10 dX5_plug_13 ?_
  refine lv_iload_n hx hb dX5_plug_16 rfl (lv_at hl 2 rfl) ?_
  refine cs_cmr (i := 0) (M := Ms 0) (M' := Ms 0) (As := [.int (nI q)]) (rest := []) hx hb hown htg hK hI hS hP hml hl.1 (by omega) (by first | rfl | (simp (disch := omega) only [vup_s, va_up_ne]; done)) (mX2_stallAt l D ct (fun z => ad (8 + 19 * 0 + z)) (Ms 0) (nI q) n hw) cw_X5_75 rfl rfl ⟨Nat.le_of_ble_eq_true rfl, Nat.le_of_ble_eq_true rfl⟩ (Nat.le_of_ble_eq_true rfl) dX5_plug_17 ⟨Nat.zero_le _, Nat.zero_le _⟩ (fun H locs hP hS => ?_)
  have hP := fP.eqc (congrArg (fun v9 => csc ct ad v9 kp (nI nx) (nI sz) B A (nI tn) (nI p9) kd) (show (va_up Ms 0 (Ms 0)) = Ms from by first | exact vup_id _ _ (by first | rfl | (simp (disch := omega) only [vup_s, va_up_ne]; done)))) hP
  refine lv_iconst (v := -1) hx hb dX5_plug_20 (by decide) ?_
  refine lv_icmp_eq (tgt := 34) hx hb dX5_plug_21 (by decide) (fun c21 => ?_) (fun c21 => ?_)
  · exact absurd c21 hq
  · exact fx_throw (E := ES) (text := "a stall is at this socket") (ik := 54) (is := 79) (ic := 58) hlt hx hb hml hown htg hlocks hK hI hP hS hl.1 htb hE (by decide) xl_S xm_S xn_S xo_S (by decide) (by decide) (List.mem_of_getElem? (i := 3) rfl) dX5_plug_24 dX5_plug_27 dX5_plug_28 dX5_plug_30 dX5_plug_33 ⟨Nat.le_of_ble_eq_true rfl, Nat.le_of_ble_eq_true rfl, Nat.le_refl _, Nat.le_refl _⟩
set_option maxRecDepth 100000 in
set_option maxHeartbeats 4000000 in
theorem mX5_pull_tS (l : Launch) (hlt : l.stackTraces = false) (D : va_G) (ct : Nat → ClassId) (ad : Nat → Nat) (Ms : Nat → Nat → Int32) (kp : Nat → Int32) (nx sz : Nat) (B A : Nat → Int32) (tn p9 : Nat) (kd : Int32) (k : Nat) (n : Nat)  (hw : mW (Ms 0) n) (hkn : k < n) (hsk : Ms 0 (39 + 8 * k + 4) = -1) : TMet l yX5_pull cX5_pull 2 (some .int) 6 82 D ct 198 ad [.ref (ad 0), .int (nI k)] (csc ct ad Ms kp (nI nx) (nI sz) B A (nI tn) (nI p9) kd) ES (csc ct ad Ms kp (nI nx) (nI sz) B A (nI tn) (nI p9) kd) := by
  refine TMet.of (by decide +kernel) (Nat.le_of_ble_eq_true rfl) ?_
  intro p e s m args below meth c ls hx hb hr hml hown hlocks htg hK hI hP hS hl htb hE
  have hl : lv_has ls 2 [(0, .ref (ad 0)), (1, .int (nI k))] := hl
  have hn10 := hw.2
  refine lv_aload_n hx hb dX5_pull_0 rfl (lv_at hl 0 rfl) ?_
  refine lv_iload_n hx hb dX5_pull_1 rfl (lv_at hl 1 rfl) ?_
  refine cs_co0 (As := [.int (nI k)]) (rest := []) hx hb hown htg hK hI hS hP hml hl.1 (mX5_checkStall l D ct ad Ms kp nx sz B A tn p9 kd k n hw (by omega)) cw_X5_67 rfl rfl ⟨Nat.le_of_ble_eq_true rfl, Nat.le_of_ble_eq_true rfl⟩ (Nat.le_of_ble_eq_true rfl) dX5_pull_2 ⟨Nat.zero_le _, Nat.zero_le _⟩ (fun H locs hP hS => ?_)
  refine lv_aload_n hx hb dX5_pull_5 rfl (lv_at hl 0 rfl) ?_
  refine cs_g0 hx hb hown htg hK hP fl_X5_10 dX5_pull_6 ?_
  refine cs_m0 (i := 0) (M := Ms 0) hx hb hown htg hK hP (by omega) (by first | rfl | (simp (disch := omega) only [vup_s, va_up_ne]; done)) fl_X5_85 dX5_pull_9 ?_
  refine lv_iload_n hx hb dX5_pull_12 rfl (lv_at hl 1 rfl) ?_
  refine cs_aMs (i := 0) (M := Ms 0) hx hb hK hP (by omega) (by first | rfl | (simp (disch := omega) only [vup_s, va_up_ne]; done)) (by omega) dX5_pull_13 ?_
  refine cs_s4 (k := k) (i := 0) (M := Ms 0) hx hb hown htg hK hP (by omega) (by first | rfl | (simp (disch := omega) only [vup_s, va_up_ne]; done)) (by omega) fl_X5_89 dX5_pull_14 ?_
  refine lv_iconst (v := -1) hx hb dX5_pull_17 (by decide) ?_
  refine lv_icmp_ne (tgt := 31) hx hb dX5_pull_18 (by decide) (fun c18 => ?_) (fun c18 => ?_)
  · exact absurd hsk c18
  · exact fx_throw (E := ES) (text := "the stall is at no socket") (ik := 54) (is := 95) (ic := 58) hlt hx hb hml hown htg hlocks hK hI hP hS hl.1 htb hE (by decide) xl_S xm_S xn_S xo_S (by decide) (by decide) (List.mem_of_getElem? (i := 4) rfl) dX5_pull_21 dX5_pull_24 dX5_pull_25 dX5_pull_27 dX5_pull_30 ⟨Nat.le_of_ble_eq_true rfl, Nat.le_of_ble_eq_true rfl, Nat.le_refl _, Nat.le_refl _⟩
set_option maxRecDepth 100000 in
set_option maxHeartbeats 4000000 in
theorem mX5_bound_tA2 (l : Launch) (hlt : l.stackTraces = false) (D : va_G) (ct : Nat → ClassId) (ad : Nat → Nat) (Ms : Nat → Nat → Int32) (kp : Nat → Int32) (nx sz : Nat) (B A : Nat → Int32) (tn p9 : Nat) (kd : Int32) (b : Nat) (v : Int32)   (hb4 : b < 4) (hbad : v < nI 10 ∨ nI 999 < v) : TMet l yX5_bound cX5_bound 5 (some .int) 7 104 D ct 198 ad [.ref (ad 0), .int (nI b), .int (v)] (csc ct ad Ms kp (nI nx) (nI sz) B A (nI tn) (nI p9) kd) EA (csc ct ad Ms kp (nI nx) (nI sz) B A (nI tn) (nI p9) kd) := by
  refine TMet.of (by decide +kernel) (Nat.le_of_ble_eq_true rfl) ?_
  intro p e s m args below meth c ls hx hb hr hml hown hlocks htg hK hI hP hS hl htb hE
  have hl : lv_has ls 5 [(0, .ref (ad 0)), (1, .int (nI b)), (2, .int (v))] := hl
  refine lv_iload_n hx hb dX5_bound_0 rfl (lv_at hl 1 rfl) ?_
  refine lv_iconst (v := nI 0) hx hb dX5_bound_1 (by decide) ?_
  refine lv_iconst (v := nI 3) hx hb dX5_bound_2 (by decide) ?_
  refine cs_cS0 (As := [.int (nI b), .int (nI 0), .int (nI 3)]) (rest := []) hx hb hown htg hK hI hS hP hml hl.1 (mX5_checkArgument l D ct ad Ms kp nx sz B A tn p9 kd (nI b) (nI 0) (nI 3) (Int32.not_lt.mpr ((n_le (by omega) (by omega)).mpr (by omega))) (Int32.not_lt.mpr ((n_le (by omega) (by omega)).mpr (by omega)))) cw_X5_71 rfl rfl ⟨Nat.le_of_ble_eq_true rfl, Nat.le_of_ble_eq_true rfl⟩ (Nat.le_of_ble_eq_true rfl) dX5_bound_3 ⟨Nat.zero_le _, Nat.zero_le _⟩ (fun H locs hP hS => ?_)
  refine lv_iload_n hx hb dX5_bound_6 rfl (lv_at hl 2 rfl) ?_
  refine lv_bipush (v := nI 10) hx hb dX5_bound_7 (by decide) ?_
  refine lv_sipush (v := nI 999) hx hb dX5_bound_9 (by decide) ?_
  exact fx_So (As := [.int (v), .int (nI 10), .int (nI 999)]) (rest := []) hx hb hml hown htg hlocks hK hI hP hS hl.1 htb hE (mX5_checkArgument_t l hlt D ct ad Ms kp nx sz B A tn p9 kd v (nI 10) (nI 999)  hbad) cw_X5_71 rfl rfl ⟨Nat.le_of_ble_eq_true rfl, Nat.le_of_ble_eq_true rfl⟩ (Nat.le_of_ble_eq_true rfl) dX5_bound_12 ⟨Nat.le_refl _, Nat.le_refl _⟩
set_option maxRecDepth 100000 in
set_option maxHeartbeats 4000000 in
theorem mX5_reset_tS (l : Launch) (hlt : l.stackTraces = false) (D : va_G) (ct : Nat → ClassId) (ad : Nat → Nat) (Ms : Nat → Nat → Int32) (kp : Nat → Int32) (nx sz : Nat) (B A : Nat → Int32) (tn p9 : Nat) (kd : Int32) (b : Nat) (n : Nat)  (hw : mW (Ms 0) n) (hb4 : b < 4) (ho9 : ¬ Ms 0 (7 + 5 * b + 1) = 0) : TMet l yX5_reset cX5_reset 2 (some .int) 6 82 D ct 198 ad [.ref (ad 0), .int (nI b)] (csc ct ad Ms kp (nI nx) (nI sz) B A (nI tn) (nI p9) kd) ES (csc ct ad Ms kp (nI nx) (nI sz) B A (nI tn) (nI p9) kd) := by
  refine TMet.of (by decide +kernel) (Nat.le_of_ble_eq_true rfl) ?_
  intro p e s m args below meth c ls hx hb hr hml hown hlocks htg hK hI hP hS hl htb hE
  have hl : lv_has ls 2 [(0, .ref (ad 0)), (1, .int (nI b))] := hl
  have hn10 := hw.2
  refine lv_iload_n hx hb dX5_reset_0 rfl (lv_at hl 1 rfl) ?_
  refine lv_iconst (v := nI 0) hx hb dX5_reset_1 (by decide) ?_
  refine lv_iconst (v := nI 3) hx hb dX5_reset_2 (by decide) ?_
  refine cs_cS0 (As := [.int (nI b), .int (nI 0), .int (nI 3)]) (rest := []) hx hb hown htg hK hI hS hP hml hl.1 (mX5_checkArgument l D ct ad Ms kp nx sz B A tn p9 kd (nI b) (nI 0) (nI 3) (Int32.not_lt.mpr ((n_le (by omega) (by omega)).mpr (by omega))) (Int32.not_lt.mpr ((n_le (by omega) (by omega)).mpr (by omega)))) cw_X5_71 rfl rfl ⟨Nat.le_of_ble_eq_true rfl, Nat.le_of_ble_eq_true rfl⟩ (Nat.le_of_ble_eq_true rfl) dX5_reset_3 ⟨Nat.zero_le _, Nat.zero_le _⟩ (fun H locs hP hS => ?_)
  refine lv_aload_n hx hb dX5_reset_6 rfl (lv_at hl 0 rfl) ?_
  refine cs_g0 hx hb hown htg hK hP fl_X5_10 dX5_reset_7 ?_
  refine cs_m2 (i := 0) (M := Ms 0) hx hb hown htg hK hP (by omega) (by first | rfl | (simp (disch := omega) only [vup_s, va_up_ne]; done)) fl_X5_101 dX5_reset_10 ?_
  refine lv_iload_n hx hb dX5_reset_13 rfl (lv_at hl 1 rfl) ?_
  refine cs_aMb (i := 0) (M := Ms 0) hx hb hK hP (by omega) (by first | rfl | (simp (disch := omega) only [vup_s, va_up_ne]; done)) (by omega) dX5_reset_14 ?_
  refine cs_b1 (k := b) (i := 0) (M := Ms 0) hx hb hown htg hK hP (by omega) (by first | rfl | (simp (disch := omega) only [vup_s, va_up_ne]; done)) (by omega) fl_X5_110 dX5_reset_15 ?_
  refine lv_if_eq (tgt := 31) hx hb dX5_reset_18 (by decide) (fun c18 => ?_) (fun c18 => ?_)
  · exact absurd c18 ho9
  · exact fx_throw (E := ES) (text := "the breaker has not tripped") (ik := 54) (is := 113) (ic := 58) hlt hx hb hml hown htg hlocks hK hI hP hS hl.1 htb hE (by decide) xl_S xm_S xn_S xo_S (by decide) (by decide) (List.mem_of_getElem? (i := 5) rfl) dX5_reset_21 dX5_reset_24 dX5_reset_25 dX5_reset_27 dX5_reset_30 ⟨Nat.le_of_ble_eq_true rfl, Nat.le_of_ble_eq_true rfl, Nat.le_refl _, Nat.le_refl _⟩
set_option maxRecDepth 100000 in
set_option maxHeartbeats 4000000 in
theorem mX5_pass_tS (l : Launch) (hlt : l.stackTraces = false) (D : va_G) (ct : Nat → ClassId) (ad : Nat → Nat) (Ms : Nat → Nat → Int32) (kp : Nat → Int32) (nx sz : Nat) (B A : Nat → Int32) (tn p9 : Nat) (kd : Int32) (tm : Nat) (n : Nat)  (hw : mW (Ms 0) n) (ht1 : 1 ≤ tm) (ht48 : tm ≤ 48) (hr9 : ¬ Ms 0 3 + nI tm ≤ nI 9999) : TMet l yX5_pass cX5_pass 3 (some .int) 6 82 D ct 198 ad [.ref (ad 0), .int (nI tm)] (csc ct ad Ms kp (nI nx) (nI sz) B A (nI tn) (nI p9) kd) ES (csc ct ad Ms kp (nI nx) (nI sz) B A (nI tn) (nI p9) kd) := by
  refine TMet.of (by decide +kernel) (Nat.le_of_ble_eq_true rfl) ?_
  intro p e s m args below meth c ls hx hb hr hml hown hlocks htg hK hI hP hS hl htb hE
  have hl : lv_has ls 3 [(0, .ref (ad 0)), (1, .int (nI tm))] := hl
  have hn10 := hw.2
  refine lv_iload_n hx hb dX5_pass_0 rfl (lv_at hl 1 rfl) ?_
  refine lv_iconst (v := nI 1) hx hb dX5_pass_1 (by decide) ?_
  refine lv_bipush (v := nI 48) hx hb dX5_pass_2 (by decide) ?_
  refine cs_cS0 (As := [.int (nI tm), .int (nI 1), .int (nI 48)]) (rest := []) hx hb hown htg hK hI hS hP hml hl.1 (mX5_checkArgument l D ct ad Ms kp nx sz B A tn p9 kd (nI tm) (nI 1) (nI 48) (Int32.not_lt.mpr ((n_le (by omega) (by omega)).mpr (by omega))) (Int32.not_lt.mpr ((n_le (by omega) (by omega)).mpr (by omega)))) cw_X5_71 rfl rfl ⟨Nat.le_of_ble_eq_true rfl, Nat.le_of_ble_eq_true rfl⟩ (Nat.le_of_ble_eq_true rfl) dX5_pass_4 ⟨Nat.zero_le _, Nat.zero_le _⟩ (fun H locs hP hS => ?_)
  refine lv_aload_n hx hb dX5_pass_7 rfl (lv_at hl 0 rfl) ?_
  refine cs_g0 hx hb hown htg hK hP fl_X5_10 dX5_pass_8 ?_
  refine lv_iload_n hx hb dX5_pass_11 rfl (lv_at hl 1 rfl) ?_
  refine cs_cmr (i := 0) (M := Ms 0) (M' := Ms 0) (As := [.int (nI tm)]) (rest := []) hx hb hown htg hK hI hS hP hml hl.1 (by omega) (by first | rfl | (simp (disch := omega) only [vup_s, va_up_ne]; done)) (mX2_hasRoomFor l D ct (fun z => ad (8 + 19 * 0 + z)) (Ms 0) (nI tm)) cw_X5_127 rfl rfl ⟨Nat.le_of_ble_eq_true rfl, Nat.le_of_ble_eq_true rfl⟩ (Nat.le_of_ble_eq_true rfl) dX5_pass_12 ⟨Nat.zero_le _, Nat.zero_le _⟩ (fun H locs hP hS => ?_)
  have hP := fP.eqc (congrArg (fun v9 => csc ct ad v9 kp (nI nx) (nI sz) B A (nI tn) (nI p9) kd) (show (va_up Ms 0 (Ms 0)) = Ms from by first | exact vup_id _ _ (by first | rfl | (simp (disch := omega) only [vup_s, va_up_ne]; done)))) hP
  refine lv_ifneB (tgt := 28) hx hb dX5_pass_15 (by decide) (fun c15 => ?_) (fun c15 => ?_)
  · exact absurd (of_decide_eq_true c15) hr9
  · exact fx_throw (E := ES) (text := "the hour would be above 9999") (ik := 54) (is := 131) (ic := 58) hlt hx hb hml hown htg hlocks hK hI hP hS hl.1 htb hE (by decide) xl_S xm_S xn_S xo_S (by decide) (by decide) (List.mem_of_getElem? (i := 6) rfl) dX5_pass_18 dX5_pass_21 dX5_pass_22 dX5_pass_24 dX5_pass_27 ⟨Nat.le_of_ble_eq_true rfl, Nat.le_of_ble_eq_true rfl, Nat.le_refl _, Nat.le_refl _⟩
set_option maxRecDepth 100000 in
set_option maxHeartbeats 4000000 in
theorem mX5_append_tS (l : Launch) (hlt : l.stackTraces = false) (D : va_G) (ct : Nat → ClassId) (ad : Nat → Nat) (Ms : Nat → Nat → Int32) (kp : Nat → Int32) (nx sz : Nat) (B A : Nat → Int32) (tn p9 : Nat) (kd : Int32) (c9 : Nat)   (htn : tn = 60) (hc1 : 33 ≤ c9) (hc2 : c9 ≤ 126) : TMet l yX5_append cX5_append 2 (some .int) 6 82 D ct 198 ad [.ref (ad 0), .int (nI c9)] (csc ct ad Ms kp (nI nx) (nI sz) B A (nI tn) (nI p9) kd) ES (csc ct ad Ms kp (nI nx) (nI sz) B A (nI tn) (nI p9) kd) := by
  refine TMet.of (by decide +kernel) (Nat.le_of_ble_eq_true rfl) ?_
  intro p e s m args below meth c ls hx hb hr hml hown hlocks htg hK hI hP hS hl htb hE
  have hl : lv_has ls 2 [(0, .ref (ad 0)), (1, .int (nI c9))] := hl
  refine lv_iload_n hx hb dX5_append_0 rfl (lv_at hl 1 rfl) ?_
  refine lv_bipush (v := nI 33) hx hb dX5_append_1 (by decide) ?_
  refine lv_bipush (v := nI 126) hx hb dX5_append_3 (by decide) ?_
  refine cs_cS0 (As := [.int (nI c9), .int (nI 33), .int (nI 126)]) (rest := []) hx hb hown htg hK hI hS hP hml hl.1 (mX5_checkArgument l D ct ad Ms kp nx sz B A tn p9 kd (nI c9) (nI 33) (nI 126) (Int32.not_lt.mpr ((n_le (by omega) (by omega)).mpr (by omega))) (Int32.not_lt.mpr ((n_le (by omega) (by omega)).mpr (by omega)))) cw_X5_71 rfl rfl ⟨Nat.le_of_ble_eq_true rfl, Nat.le_of_ble_eq_true rfl⟩ (Nat.le_of_ble_eq_true rfl) dX5_append_5 ⟨Nat.zero_le _, Nat.zero_le _⟩ (fun H locs hP hS => ?_)
  refine lv_aload_n hx hb dX5_append_8 rfl (lv_at hl 0 rfl) ?_
  refine cs_g5 hx hb hown htg hK hP fl_X5_37 dX5_append_9 ?_
  refine cs_q1 hx hb hown htg hK hP fl_X5_153 dX5_append_12 ?_
  refine lv_bipush (v := nI 60) hx hb dX5_append_15 (by decide) ?_
  refine lv_icmp_ltN (tgt := 30) hx hb (by omega) (by omega) dX5_append_17 (by decide) (fun c17 => ?_) (fun c17 => ?_)
  · exfalso; omega
  · exact fx_throw (E := ES) (text := "the buffer has 60 characters") (ik := 54) (is := 156) (ic := 58) hlt hx hb hml hown htg hlocks hK hI hP hS hl.1 htb hE (by decide) xl_S xm_S xn_S xo_S (by decide) (by decide) (List.mem_of_getElem? (i := 7) rfl) dX5_append_20 dX5_append_23 dX5_append_24 dX5_append_26 dX5_append_29 ⟨Nat.le_of_ble_eq_true rfl, Nat.le_of_ble_eq_true rfl, Nat.le_refl _, Nat.le_refl _⟩
set_option maxRecDepth 100000 in
set_option maxHeartbeats 4000000 in
theorem mX5_goBack_tS (l : Launch) (hlt : l.stackTraces = false) (D : va_G) (ct : Nat → ClassId) (ad : Nat → Nat) (Ms : Nat → Nat → Int32) (kp : Nat → Int32) (nx sz : Nat) (B A : Nat → Int32) (tn p9 : Nat) (kd : Int32) (s9 : Nat)   (hs2 : s9 < 2) (hk9 : kp s9 = 0) : TMet l yX5_goBack cX5_goBack 2 (some .int) 6 82 D ct 198 ad [.ref (ad 0), .int (nI s9)] (csc ct ad Ms kp (nI nx) (nI sz) B A (nI tn) (nI p9) kd) ES (csc ct ad Ms kp (nI nx) (nI sz) B A (nI tn) (nI p9) kd) := by
  refine TMet.of (by decide +kernel) (Nat.le_of_ble_eq_true rfl) ?_
  intro p e s m args below meth c ls hx hb hr hml hown hlocks htg hK hI hP hS hl htb hE
  have hl : lv_has ls 2 [(0, .ref (ad 0)), (1, .int (nI s9))] := hl
  refine lv_iload_n hx hb dX5_goBack_0 rfl (lv_at hl 1 rfl) ?_
  refine lv_iconst (v := nI 0) hx hb dX5_goBack_1 (by decide) ?_
  refine lv_iconst (v := nI 1) hx hb dX5_goBack_2 (by decide) ?_
  refine cs_cS0 (As := [.int (nI s9), .int (nI 0), .int (nI 1)]) (rest := []) hx hb hown htg hK hI hS hP hml hl.1 (mX5_checkArgument l D ct ad Ms kp nx sz B A tn p9 kd (nI s9) (nI 0) (nI 1) (Int32.not_lt.mpr ((n_le (by omega) (by omega)).mpr (by omega))) (Int32.not_lt.mpr ((n_le (by omega) (by omega)).mpr (by omega)))) cw_X5_71 rfl rfl ⟨Nat.le_of_ble_eq_true rfl, Nat.le_of_ble_eq_true rfl⟩ (Nat.le_of_ble_eq_true rfl) dX5_goBack_3 ⟨Nat.zero_le _, Nat.zero_le _⟩ (fun H locs hP hS => ?_)
  refine lv_aload_n hx hb dX5_goBack_6 rfl (lv_at hl 0 rfl) ?_
  refine cs_g3 hx hb hown htg hK hP fl_X5_23 dX5_goBack_7 ?_
  refine lv_iload_n hx hb dX5_goBack_10 rfl (lv_at hl 1 rfl) ?_
  refine cs_lk hx hb hK hP (by omega) dX5_goBack_11 ?_
  refine lv_if_ne (tgt := 25) hx hb dX5_goBack_12 (by decide) (fun c12 => ?_) (fun c12 => ?_)
  · exact absurd hk9 c12
  · exact fx_throw (E := ES) (text := "there is no snapshot in the slot") (ik := 54) (is := 179) (ic := 58) hlt hx hb hml hown htg hlocks hK hI hP hS hl.1 htb hE (by decide) xl_S xm_S xn_S xo_S (by decide) (by decide) (List.mem_of_getElem? (i := 9) rfl) dX5_goBack_15 dX5_goBack_18 dX5_goBack_19 dX5_goBack_21 dX5_goBack_24 ⟨Nat.le_of_ble_eq_true rfl, Nat.le_of_ble_eq_true rfl, Nat.le_refl _, Nat.le_refl _⟩
set_option maxRecDepth 100000 in
set_option maxHeartbeats 4000000 in
theorem mX5_undo_tS (l : Launch) (hlt : l.stackTraces = false) (D : va_G) (ct : Nat → ClassId) (ad : Nat → Nat) (Ms : Nat → Nat → Int32) (kp : Nat → Int32) (nx sz : Nat) (B A : Nat → Int32) (tn p9 : Nat) (kd : Int32)    (hsz : sz = 0) : TMet l yX5_undo cX5_undo 1 (some .int) 6 82 D ct 198 ad [.ref (ad 0)] (csc ct ad Ms kp (nI nx) (nI sz) B A (nI tn) (nI p9) kd) ES (csc ct ad Ms kp (nI nx) (nI sz) B A (nI tn) (nI p9) kd) := by
  refine TMet.of (by decide +kernel) (Nat.le_of_ble_eq_true rfl) ?_
  intro p e s m args below meth c ls hx hb hr hml hown hlocks htg hK hI hP hS hl htb hE
  have hl : lv_has ls 1 [(0, .ref (ad 0))] := hl
  refine lv_aload_n hx hb dX5_undo_0 rfl (lv_at hl 0 rfl) ?_
  refine cs_g4 hx hb hown htg hK hP fl_X5_30 dX5_undo_1 ?_
  refine cs_h2 hx hb hown htg hK hP fl_X5_181 dX5_undo_4 ?_
  refine lv_ifneN (tgt := 20) hx hb (by omega) dX5_undo_7 (by decide) (fun c7 => ?_) (fun c7 => ?_)
  · exfalso; omega
  · exact fx_throw (E := ES) (text := "there is no saved state") (ik := 54) (is := 184) (ic := 58) hlt hx hb hml hown htg hlocks hK hI hP hS hl.1 htb hE (by decide) xl_S xm_S xn_S xo_S (by decide) (by decide) (List.mem_of_getElem? (i := 10) rfl) dX5_undo_10 dX5_undo_13 dX5_undo_14 dX5_undo_16 dX5_undo_19 ⟨Nat.le_of_ble_eq_true rfl, Nat.le_of_ble_eq_true rfl, Nat.le_refl _, Nat.le_refl _⟩
set_option maxRecDepth 100000 in
set_option maxHeartbeats 4000000 in
theorem mX5_stallOf_tA (l : Launch) (hlt : l.stackTraces = false) (D : va_G) (ct : Nat → ClassId) (ad : Nat → Nat) (Ms : Nat → Nat → Int32) (kp : Nat → Int32) (nx sz : Nat) (B A : Nat → Int32) (tn p9 : Nat) (kd : Int32) (k : Nat) (v : Int32) (n : Nat)  (hw : mW (Ms 0) n) (hkn : k < n) (hbad : v < nI 0 ∨ nI 9 < v) : TMet l yX5_stallOf cX5_stallOf 4 (some .int) 7 104 D ct 198 ad [.ref (ad 0), .int (nI k), .int (v)] (csc ct ad Ms kp (nI nx) (nI sz) B A (nI tn) (nI p9) kd) EA (csc ct ad Ms kp (nI nx) (nI sz) B A (nI tn) (nI p9) kd) := by
  refine TMet.of (by decide +kernel) (Nat.le_of_ble_eq_true rfl) ?_
  intro p e s m args below meth c ls hx hb hr hml hown hlocks htg hK hI hP hS hl htb hE
  have hl : lv_has ls 4 [(0, .ref (ad 0)), (1, .int (nI k)), (2, .int (v))] := hl
  have hn10 := hw.2
  refine lv_aload_n hx hb dX5_stallOf_0 rfl (lv_at hl 0 rfl) ?_
  refine lv_iload_n hx hb dX5_stallOf_1 rfl (lv_at hl 1 rfl) ?_
  refine cs_co0 (As := [.int (nI k)]) (rest := []) hx hb hown htg hK hI hS hP hml hl.1 (mX5_checkStall l D ct ad Ms kp nx sz B A tn p9 kd k n hw (by omega)) cw_X5_67 rfl rfl ⟨Nat.le_of_ble_eq_true rfl, Nat.le_of_ble_eq_true rfl⟩ (Nat.le_of_ble_eq_true rfl) dX5_stallOf_2 ⟨Nat.zero_le _, Nat.zero_le _⟩ (fun H locs hP hS => ?_)
  refine lv_iload_n hx hb dX5_stallOf_5 rfl (lv_at hl 2 rfl) ?_
  refine lv_iconst (v := nI 0) hx hb dX5_stallOf_6 (by decide) ?_
  refine lv_bipush (v := nI 9) hx hb dX5_stallOf_7 (by decide) ?_
  exact fx_So (As := [.int (v), .int (nI 0), .int (nI 9)]) (rest := []) hx hb hml hown htg hlocks hK hI hP hS hl.1 htb hE (mX5_checkArgument_t l hlt D ct ad Ms kp nx sz B A tn p9 kd v (nI 0) (nI 9)  hbad) cw_X5_71 rfl rfl ⟨Nat.le_of_ble_eq_true rfl, Nat.le_of_ble_eq_true rfl⟩ (Nat.le_of_ble_eq_true rfl) dX5_stallOf_9 ⟨Nat.le_refl _, Nat.le_refl _⟩
set_option maxRecDepth 100000 in
set_option maxHeartbeats 4000000 in
theorem mX5_breaker_tA2 (l : Launch) (hlt : l.stackTraces = false) (D : va_G) (ct : Nat → ClassId) (ad : Nat → Nat) (Ms : Nat → Nat → Int32) (kp : Nat → Int32) (nx sz : Nat) (B A : Nat → Int32) (tn p9 : Nat) (kd : Int32) (b : Nat) (v : Int32)   (hb4 : b < 4) (hbad : v < nI 0 ∨ nI 6 < v) : TMet l yX5_breaker cX5_breaker 4 (some .int) 7 104 D ct 198 ad [.ref (ad 0), .int (nI b), .int (v)] (csc ct ad Ms kp (nI nx) (nI sz) B A (nI tn) (nI p9) kd) EA (csc ct ad Ms kp (nI nx) (nI sz) B A (nI tn) (nI p9) kd) := by
  refine TMet.of (by decide +kernel) (Nat.le_of_ble_eq_true rfl) ?_
  intro p e s m args below meth c ls hx hb hr hml hown hlocks htg hK hI hP hS hl htb hE
  have hl : lv_has ls 4 [(0, .ref (ad 0)), (1, .int (nI b)), (2, .int (v))] := hl
  refine lv_iload_n hx hb dX5_breaker_0 rfl (lv_at hl 1 rfl) ?_
  refine lv_iconst (v := nI 0) hx hb dX5_breaker_1 (by decide) ?_
  refine lv_iconst (v := nI 3) hx hb dX5_breaker_2 (by decide) ?_
  refine cs_cS0 (As := [.int (nI b), .int (nI 0), .int (nI 3)]) (rest := []) hx hb hown htg hK hI hS hP hml hl.1 (mX5_checkArgument l D ct ad Ms kp nx sz B A tn p9 kd (nI b) (nI 0) (nI 3) (Int32.not_lt.mpr ((n_le (by omega) (by omega)).mpr (by omega))) (Int32.not_lt.mpr ((n_le (by omega) (by omega)).mpr (by omega)))) cw_X5_71 rfl rfl ⟨Nat.le_of_ble_eq_true rfl, Nat.le_of_ble_eq_true rfl⟩ (Nat.le_of_ble_eq_true rfl) dX5_breaker_3 ⟨Nat.zero_le _, Nat.zero_le _⟩ (fun H locs hP hS => ?_)
  refine lv_iload_n hx hb dX5_breaker_6 rfl (lv_at hl 2 rfl) ?_
  refine lv_iconst (v := nI 0) hx hb dX5_breaker_7 (by decide) ?_
  refine lv_bipush (v := nI 6) hx hb dX5_breaker_8 (by decide) ?_
  exact fx_So (As := [.int (v), .int (nI 0), .int (nI 6)]) (rest := []) hx hb hml hown htg hlocks hK hI hP hS hl.1 htb hE (mX5_checkArgument_t l hlt D ct ad Ms kp nx sz B A tn p9 kd v (nI 0) (nI 6)  hbad) cw_X5_71 rfl rfl ⟨Nat.le_of_ble_eq_true rfl, Nat.le_of_ble_eq_true rfl⟩ (Nat.le_of_ble_eq_true rfl) dX5_breaker_10 ⟨Nat.le_refl _, Nat.le_refl _⟩
set_option maxRecDepth 100000 in
set_option maxHeartbeats 4000000 in
theorem mX5_socket_tA2 (l : Launch) (hlt : l.stackTraces = false) (D : va_G) (ct : Nat → ClassId) (ad : Nat → Nat) (Ms : Nat → Nat → Int32) (kp : Nat → Int32) (nx sz : Nat) (B A : Nat → Int32) (tn p9 : Nat) (kd : Int32) (q : Nat) (v : Int32)   (hq12 : q < 12) (hbad : v < nI 0 ∨ nI 1 < v) : TMet l yX5_socket cX5_socket 3 (some .int) 7 104 D ct 198 ad [.ref (ad 0), .int (nI q), .int (v)] (csc ct ad Ms kp (nI nx) (nI sz) B A (nI tn) (nI p9) kd) EA (csc ct ad Ms kp (nI nx) (nI sz) B A (nI tn) (nI p9) kd) := by
  refine TMet.of (by decide +kernel) (Nat.le_of_ble_eq_true rfl) ?_
  intro p e s m args below meth c ls hx hb hr hml hown hlocks htg hK hI hP hS hl htb hE
  have hl : lv_has ls 3 [(0, .ref (ad 0)), (1, .int (nI q)), (2, .int (v))] := hl
  refine lv_iload_n hx hb dX5_socket_0 rfl (lv_at hl 1 rfl) ?_
  refine lv_iconst (v := nI 0) hx hb dX5_socket_1 (by decide) ?_
  refine lv_bipush (v := nI 11) hx hb dX5_socket_2 (by decide) ?_
  refine cs_cS0 (As := [.int (nI q), .int (nI 0), .int (nI 11)]) (rest := []) hx hb hown htg hK hI hS hP hml hl.1 (mX5_checkArgument l D ct ad Ms kp nx sz B A tn p9 kd (nI q) (nI 0) (nI 11) (Int32.not_lt.mpr ((n_le (by omega) (by omega)).mpr (by omega))) (Int32.not_lt.mpr ((n_le (by omega) (by omega)).mpr (by omega)))) cw_X5_71 rfl rfl ⟨Nat.le_of_ble_eq_true rfl, Nat.le_of_ble_eq_true rfl⟩ (Nat.le_of_ble_eq_true rfl) dX5_socket_4 ⟨Nat.zero_le _, Nat.zero_le _⟩ (fun H locs hP hS => ?_)
  refine lv_iload_n hx hb dX5_socket_7 rfl (lv_at hl 2 rfl) ?_
  refine lv_iconst (v := nI 0) hx hb dX5_socket_8 (by decide) ?_
  refine lv_iconst (v := nI 1) hx hb dX5_socket_9 (by decide) ?_
  exact fx_So (As := [.int (v), .int (nI 0), .int (nI 1)]) (rest := []) hx hb hml hown htg hlocks hK hI hP hS hl.1 htb hE (mX5_checkArgument_t l hlt D ct ad Ms kp nx sz B A tn p9 kd v (nI 0) (nI 1)  hbad) cw_X5_71 rfl rfl ⟨Nat.le_of_ble_eq_true rfl, Nat.le_of_ble_eq_true rfl⟩ (Nat.le_of_ble_eq_true rfl) dX5_socket_10 ⟨Nat.le_refl _, Nat.le_refl _⟩
set_option maxRecDepth 100000 in
set_option maxHeartbeats 4000000 in
theorem mX5_ifPlugged_tA1 (l : Launch) (hlt : l.stackTraces = false) (D : va_G) (ct : Nat → ClassId) (ad : Nat → Nat) (Ms : Nat → Nat → Int32) (kp : Nat → Int32) (nx sz : Nat) (B A : Nat → Int32) (tn p9 : Nat) (kd : Int32) (k : Nat) (v : Int32) (x : Int32) (w : Int32) (n : Nat)  (hw : mW (Ms 0) n) (hkn : k < n) (hbad : v < nI 0 ∨ nI 11 < v) : TMet l yX5_ifPlugged cX5_ifPlugged 5 (some .int) 7 104 D ct 198 ad [.ref (ad 0), .int (nI k), .int (v), .int (x), .int (w)] (csc ct ad Ms kp (nI nx) (nI sz) B A (nI tn) (nI p9) kd) EA (csc ct ad Ms kp (nI nx) (nI sz) B A (nI tn) (nI p9) kd) := by
  refine TMet.of (by decide +kernel) (Nat.le_of_ble_eq_true rfl) ?_
  intro p e s m args below meth c ls hx hb hr hml hown hlocks htg hK hI hP hS hl htb hE
  have hl : lv_has ls 5 [(0, .ref (ad 0)), (1, .int (nI k)), (2, .int (v)), (3, .int (x)), (4, .int (w))] := hl
  have hn10 := hw.2
  refine lv_aload_n hx hb dX5_ifPlugged_0 rfl (lv_at hl 0 rfl) ?_
  refine lv_iload_n hx hb dX5_ifPlugged_1 rfl (lv_at hl 1 rfl) ?_
  refine cs_co0 (As := [.int (nI k)]) (rest := []) hx hb hown htg hK hI hS hP hml hl.1 (mX5_checkStall l D ct ad Ms kp nx sz B A tn p9 kd k n hw (by omega)) cw_X5_67 rfl rfl ⟨Nat.le_of_ble_eq_true rfl, Nat.le_of_ble_eq_true rfl⟩ (Nat.le_of_ble_eq_true rfl) dX5_ifPlugged_2 ⟨Nat.zero_le _, Nat.zero_le _⟩ (fun H locs hP hS => ?_)
  refine lv_iload_n hx hb dX5_ifPlugged_5 rfl (lv_at hl 2 rfl) ?_
  refine lv_iconst (v := nI 0) hx hb dX5_ifPlugged_6 (by decide) ?_
  refine lv_bipush (v := nI 11) hx hb dX5_ifPlugged_7 (by decide) ?_
  exact fx_So (As := [.int (v), .int (nI 0), .int (nI 11)]) (rest := []) hx hb hml hown htg hlocks hK hI hP hS hl.1 htb hE (mX5_checkArgument_t l hlt D ct ad Ms kp nx sz B A tn p9 kd v (nI 0) (nI 11)  hbad) cw_X5_71 rfl rfl ⟨Nat.le_of_ble_eq_true rfl, Nat.le_of_ble_eq_true rfl⟩ (Nat.le_of_ble_eq_true rfl) dX5_ifPlugged_9 ⟨Nat.le_refl _, Nat.le_refl _⟩
set_option maxRecDepth 100000 in
set_option maxHeartbeats 4000000 in
theorem mX5_ifPlugged_tA2 (l : Launch) (hlt : l.stackTraces = false) (D : va_G) (ct : Nat → ClassId) (ad : Nat → Nat) (Ms : Nat → Nat → Int32) (kp : Nat → Int32) (nx sz : Nat) (B A : Nat → Int32) (tn p9 : Nat) (kd : Int32) (k : Nat) (q : Nat) (v : Int32) (w : Int32) (n : Nat)  (hw : mW (Ms 0) n) (hkn : k < n) (hq12 : q < 12) (hbad : v < nI 1 ∨ nI 48 < v) : TMet l yX5_ifPlugged cX5_ifPlugged 5 (some .int) 7 104 D ct 198 ad [.ref (ad 0), .int (nI k), .int (nI q), .int (v), .int (w)] (csc ct ad Ms kp (nI nx) (nI sz) B A (nI tn) (nI p9) kd) EA (csc ct ad Ms kp (nI nx) (nI sz) B A (nI tn) (nI p9) kd) := by
  refine TMet.of (by decide +kernel) (Nat.le_of_ble_eq_true rfl) ?_
  intro p e s m args below meth c ls hx hb hr hml hown hlocks htg hK hI hP hS hl htb hE
  have hl : lv_has ls 5 [(0, .ref (ad 0)), (1, .int (nI k)), (2, .int (nI q)), (3, .int (v)), (4, .int (w))] := hl
  have hn10 := hw.2
  refine lv_aload_n hx hb dX5_ifPlugged_0 rfl (lv_at hl 0 rfl) ?_
  refine lv_iload_n hx hb dX5_ifPlugged_1 rfl (lv_at hl 1 rfl) ?_
  refine cs_co0 (As := [.int (nI k)]) (rest := []) hx hb hown htg hK hI hS hP hml hl.1 (mX5_checkStall l D ct ad Ms kp nx sz B A tn p9 kd k n hw (by omega)) cw_X5_67 rfl rfl ⟨Nat.le_of_ble_eq_true rfl, Nat.le_of_ble_eq_true rfl⟩ (Nat.le_of_ble_eq_true rfl) dX5_ifPlugged_2 ⟨Nat.zero_le _, Nat.zero_le _⟩ (fun H locs hP hS => ?_)
  refine lv_iload_n hx hb dX5_ifPlugged_5 rfl (lv_at hl 2 rfl) ?_
  refine lv_iconst (v := nI 0) hx hb dX5_ifPlugged_6 (by decide) ?_
  refine lv_bipush (v := nI 11) hx hb dX5_ifPlugged_7 (by decide) ?_
  refine cs_cS0 (As := [.int (nI q), .int (nI 0), .int (nI 11)]) (rest := []) hx hb hown htg hK hI hS hP hml hl.1 (mX5_checkArgument l D ct ad Ms kp nx sz B A tn p9 kd (nI q) (nI 0) (nI 11) (Int32.not_lt.mpr ((n_le (by omega) (by omega)).mpr (by omega))) (Int32.not_lt.mpr ((n_le (by omega) (by omega)).mpr (by omega)))) cw_X5_71 rfl rfl ⟨Nat.le_of_ble_eq_true rfl, Nat.le_of_ble_eq_true rfl⟩ (Nat.le_of_ble_eq_true rfl) dX5_ifPlugged_9 ⟨Nat.zero_le _, Nat.zero_le _⟩ (fun H locs hP hS => ?_)
  refine lv_iload_n hx hb dX5_ifPlugged_12 rfl (lv_at hl 3 rfl) ?_
  refine lv_iconst (v := nI 1) hx hb dX5_ifPlugged_13 (by decide) ?_
  refine lv_bipush (v := nI 48) hx hb dX5_ifPlugged_14 (by decide) ?_
  exact fx_So (As := [.int (v), .int (nI 1), .int (nI 48)]) (rest := []) hx hb hml hown htg hlocks hK hI hP hS hl.1 htb hE (mX5_checkArgument_t l hlt D ct ad Ms kp nx sz B A tn p9 kd v (nI 1) (nI 48)  hbad) cw_X5_71 rfl rfl ⟨Nat.le_of_ble_eq_true rfl, Nat.le_of_ble_eq_true rfl⟩ (Nat.le_of_ble_eq_true rfl) dX5_ifPlugged_16 ⟨Nat.le_refl _, Nat.le_refl _⟩
set_option maxRecDepth 100000 in
set_option maxHeartbeats 4000000 in
theorem mX5_ifPlugged_tA3 (l : Launch) (hlt : l.stackTraces = false) (D : va_G) (ct : Nat → ClassId) (ad : Nat → Nat) (Ms : Nat → Nat → Int32) (kp : Nat → Int32) (nx sz : Nat) (B A : Nat → Int32) (tn p9 : Nat) (kd : Int32) (k : Nat) (q : Nat) (tm : Nat) (v : Int32) (n : Nat)  (hw : mW (Ms 0) n) (hkn : k < n) (hq12 : q < 12) (ht1 : 1 ≤ tm) (ht48 : tm ≤ 48) (hbad : v < nI 0 ∨ nI 2 < v) : TMet l yX5_ifPlugged cX5_ifPlugged 5 (some .int) 7 104 D ct 198 ad [.ref (ad 0), .int (nI k), .int (nI q), .int (nI tm), .int (v)] (csc ct ad Ms kp (nI nx) (nI sz) B A (nI tn) (nI p9) kd) EA (csc ct ad Ms kp (nI nx) (nI sz) B A (nI tn) (nI p9) kd) := by
  refine TMet.of (by decide +kernel) (Nat.le_of_ble_eq_true rfl) ?_
  intro p e s m args below meth c ls hx hb hr hml hown hlocks htg hK hI hP hS hl htb hE
  have hl : lv_has ls 5 [(0, .ref (ad 0)), (1, .int (nI k)), (2, .int (nI q)), (3, .int (nI tm)), (4, .int (v))] := hl
  have hn10 := hw.2
  refine lv_aload_n hx hb dX5_ifPlugged_0 rfl (lv_at hl 0 rfl) ?_
  refine lv_iload_n hx hb dX5_ifPlugged_1 rfl (lv_at hl 1 rfl) ?_
  refine cs_co0 (As := [.int (nI k)]) (rest := []) hx hb hown htg hK hI hS hP hml hl.1 (mX5_checkStall l D ct ad Ms kp nx sz B A tn p9 kd k n hw (by omega)) cw_X5_67 rfl rfl ⟨Nat.le_of_ble_eq_true rfl, Nat.le_of_ble_eq_true rfl⟩ (Nat.le_of_ble_eq_true rfl) dX5_ifPlugged_2 ⟨Nat.zero_le _, Nat.zero_le _⟩ (fun H locs hP hS => ?_)
  refine lv_iload_n hx hb dX5_ifPlugged_5 rfl (lv_at hl 2 rfl) ?_
  refine lv_iconst (v := nI 0) hx hb dX5_ifPlugged_6 (by decide) ?_
  refine lv_bipush (v := nI 11) hx hb dX5_ifPlugged_7 (by decide) ?_
  refine cs_cS0 (As := [.int (nI q), .int (nI 0), .int (nI 11)]) (rest := []) hx hb hown htg hK hI hS hP hml hl.1 (mX5_checkArgument l D ct ad Ms kp nx sz B A tn p9 kd (nI q) (nI 0) (nI 11) (Int32.not_lt.mpr ((n_le (by omega) (by omega)).mpr (by omega))) (Int32.not_lt.mpr ((n_le (by omega) (by omega)).mpr (by omega)))) cw_X5_71 rfl rfl ⟨Nat.le_of_ble_eq_true rfl, Nat.le_of_ble_eq_true rfl⟩ (Nat.le_of_ble_eq_true rfl) dX5_ifPlugged_9 ⟨Nat.zero_le _, Nat.zero_le _⟩ (fun H locs hP hS => ?_)
  refine lv_iload_n hx hb dX5_ifPlugged_12 rfl (lv_at hl 3 rfl) ?_
  refine lv_iconst (v := nI 1) hx hb dX5_ifPlugged_13 (by decide) ?_
  refine lv_bipush (v := nI 48) hx hb dX5_ifPlugged_14 (by decide) ?_
  refine cs_cS0 (As := [.int (nI tm), .int (nI 1), .int (nI 48)]) (rest := []) hx hb hown htg hK hI hS hP hml hl.1 (mX5_checkArgument l D ct ad Ms kp nx sz B A tn p9 kd (nI tm) (nI 1) (nI 48) (Int32.not_lt.mpr ((n_le (by omega) (by omega)).mpr (by omega))) (Int32.not_lt.mpr ((n_le (by omega) (by omega)).mpr (by omega)))) cw_X5_71 rfl rfl ⟨Nat.le_of_ble_eq_true rfl, Nat.le_of_ble_eq_true rfl⟩ (Nat.le_of_ble_eq_true rfl) dX5_ifPlugged_16 ⟨Nat.zero_le _, Nat.zero_le _⟩ (fun H locs hP hS => ?_)
  refine lv_iload hx hb dX5_ifPlugged_19 (lv_at hl 4 rfl) ?_
  refine lv_iconst (v := nI 0) hx hb dX5_ifPlugged_21 (by decide) ?_
  refine lv_iconst (v := nI 2) hx hb dX5_ifPlugged_22 (by decide) ?_
  exact fx_So (As := [.int (v), .int (nI 0), .int (nI 2)]) (rest := []) hx hb hml hown htg hlocks hK hI hP hS hl.1 htb hE (mX5_checkArgument_t l hlt D ct ad Ms kp nx sz B A tn p9 kd v (nI 0) (nI 2)  hbad) cw_X5_71 rfl rfl ⟨Nat.le_of_ble_eq_true rfl, Nat.le_of_ble_eq_true rfl⟩ (Nat.le_of_ble_eq_true rfl) dX5_ifPlugged_23 ⟨Nat.le_refl _, Nat.le_refl _⟩
set_option maxRecDepth 100000 in
set_option maxHeartbeats 4000000 in
theorem mX5_open_tA (l : Launch) (hlt : l.stackTraces = false) (D : va_G) (ct : Nat → ClassId) (ad : Nat → Nat) (Ms : Nat → Nat → Int32) (kp : Nat → Int32) (nx sz : Nat) (B A : Nat → Int32) (tn p9 : Nat) (kd : Int32)   (w0 : Bool × Nat × (Nat → Int32) × Int32) (hw0 : pW B tn 60 0 A kd = w0) (htn : tn ≤ 60) (hok9 : w0.1 = false) : TMet l yX5_open cX5_open 2 (some .int) 6 87 D ct 198 ad [.ref (ad 0)] (csc ct ad Ms kp (nI nx) (nI sz) B A (nI tn) (nI p9) kd) EA (csc ct ad Ms kp (nI nx) (nI sz) B w0.2.2.1 (nI tn) (nI w0.2.1) w0.2.2.2) := by
  refine TMet.of (by decide +kernel) (Nat.le_of_ble_eq_true rfl) ?_
  intro p e s m args below meth c ls hx hb hr hml hown hlocks htg hK hI hP hS hl htb hE
  have hl : lv_has ls 2 [(0, .ref (ad 0))] := hl
  refine lv_aload_n hx hb dX5_open_0 rfl (lv_at hl 0 rfl) ?_
  refine cs_g5 hx hb hown htg hK hP fl_X5_37 dX5_open_1 ?_
  obtain ⟨rr1, hrr1⟩ : ∃ z9, pW B tn 60 0 A kd = z9 := ⟨_, rfl⟩
  refine cs_cpr (As := []) (rest := []) hx hb hown htg hK hI hS hP hml hl.1 (mX3_readWhole l D ct (fun z => ad (5 + z)) B A tn p9 kd rr1 hrr1 (by omega)) cw_X5_162 rfl rfl ⟨Nat.le_of_ble_eq_true rfl, Nat.le_of_ble_eq_true rfl⟩ (Nat.le_of_ble_eq_true rfl) dX5_open_4 ⟨Nat.zero_le _, Nat.zero_le _⟩ (fun H locs hP hS => ?_)
  refine lv_ifneB (tgt := 20) hx hb dX5_open_7 (by decide) (fun c7 => ?_) (fun c7 => ?_)
  · rw [show rr1 = w0 from hrr1.symm.trans hw0, hok9] at c7; exact absurd c7 (by decide)
  · obtain rfl : rr1 = w0 := hrr1.symm.trans hw0
    exact fx_throw (E := EA) (text := "the buffer does not tell a plan") (ik := 41) (is := 168) (ic := 45) hlt hx hb hml hown htg hlocks hK hI hP hS hl.1 htb hE (by decide) xl_A xm_A xn_A xo_A (by decide) (by decide) (List.mem_of_getElem? (i := 8) rfl) dX5_open_10 dX5_open_13 dX5_open_14 dX5_open_16 dX5_open_19 ⟨Nat.le_of_ble_eq_true rfl, Nat.le_of_ble_eq_true rfl, Nat.le_refl _, Nat.le_refl _⟩
