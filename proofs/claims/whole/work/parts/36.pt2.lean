/-! THE CLASS'S PLAN: numbers, orders, the whole -/
set_option maxRecDepth 100000 in
set_option maxHeartbeats 4000000 in
theorem mX3_readNumber (l : Launch) (D : va_G) (ct : Nat → ClassId) (ad : Nat → Nat) (B A : Nat → Int32) (tn p9 : Nat) (kd : Int32) (pl : Nat) (lo : Int32) (hi : Int32) (rr : Bool × Nat × Int32) (hrr : pN B tn p9 lo hi = rr) (htn : tn ≤ 60) (hp : p9 ≤ 60) (hpl : pl < 4) (hlo : 0 ≤ lo) : FMet l yX3_readNumber cX3_readNumber 6 (some .boolean) 1 21 D ct 3 ad [.ref (ad 0), .int (nI pl), .int (lo), .int (hi)] (ptc ct ad B A (nI tn) (nI p9) kd) (some (.int (bi rr.1))) (ptc ct ad B (nA A pl rr) (nI tn) (nI rr.2.1) kd) := by
  refine FMet.of (by decide +kernel) (Nat.le_of_ble_eq_true rfl) ?_
  intro p e s m args below meth c ls hx hb hr hml hown hlocks htg hK hI hP hS hl
  have hl : lv_has ls 6 [(0, .ref (ad 0)), (1, .int (nI pl)), (2, .int (lo)), (3, .int (hi))] := hl
  refine lv_aload_n hx hb dX3_readNumber_0 rfl (lv_at hl 0 rfl) ?_
  refine lv_aload_n hx hb dX3_readNumber_1 rfl (lv_at hl 0 rfl) ?_
  refine pt_g2 hx hb hown htg hK hP fl_X3_19 dX3_readNumber_2 ?_
  refine pt_cr (As := [.int (nI p9)]) (rest := []) hx hb hown htg hK hI hS hP hml hl.1 (mX3_digitAt l D ct ad B A tn p9 kd p9 (by omega) (by omega)) cw_X3_42 rfl rfl ⟨Nat.le_of_ble_eq_true rfl, Nat.le_of_ble_eq_true rfl⟩ (Nat.le_of_ble_eq_true rfl) dX3_readNumber_5 ⟨Nat.le_refl _, Nat.le_refl _⟩ (fun H locs hP hS => ?_)
  refine lv_istore (lv' := [(4, .int (pD B tn p9)), (0, .ref (ad 0)), (1, .int (nI pl)), (2, .int (lo)), (3, .int (hi))]) hx hb dX3_readNumber_8 hl (by decide) rfl (fun ls hl => ?_)
  refine lv_iload hx hb dX3_readNumber_10 (lv_at hl 0 rfl) ?_
  refine lv_iload_n hx hb dX3_readNumber_12 rfl (lv_at hl 3 rfl) ?_
  refine lv_icmp_geR (tgt := 18) hx hb dX3_readNumber_13 (by decide) (fun c13 => ?_) (fun c13 => ?_)
  · refine lv_aload_n hx hb dX3_readNumber_18 rfl (lv_at hl 1 rfl) ?_
    refine lv_dup hx hb dX3_readNumber_19 rfl ?_
    refine pt_g2 hx hb hown htg hK hP fl_X3_19 dX3_readNumber_20 ?_
    refine lv_iconst (v := nI 1) hx hb dX3_readNumber_23 (by decide) ?_
    refine lv_iaddN hx hb dX3_readNumber_24 ?_
    refine pt_p2 hx hb hown htg hK hI hS hP fl_X3_19 dX3_readNumber_25 (fun H locs hP hS => ?_)
    have lp28 : ∀ (fu28 : Nat) (f : Nat) (v : Int32) (j : Nat), 62 ≤ f + j → j ≤ tn → pL B tn hi f v j = pL B tn hi 61 (pD B tn p9) (p9 + 1) → f < fu28 → ∀ (H : Heap) (locs : List Loc), fP D 3 ad (ptc ct ad B A (nI tn) (nI j) kd) H → va_S (fA 3 ad) s.heap H locs → ∀ (ls : Array Slot), lv_has ls 6 [(4, .int (v)), (0, .ref (ad 0)), (1, .int (nI pl)), (2, .int (lo)), (3, .int (hi))] → W p l e ({ frames := 1, cells := 0, slots := 0, locals := 21 }) s m args below meth c H locs 0 0 (MQ below (fQ D ct 3 ad (some (.int (bi rr.1))) (ptc ct ad B (nA A pl rr) (nI tn) (nI rr.2.1) kd)) args s 0 0 (fA 3 ad)) (F0 m 28 ls []) := by
      intro fu28
      induction fu28 with
      | zero => intro f v j hfp hp2 hres hfu28; exact absurd hfu28 (Nat.not_lt_zero _)
      | succ fu28 ih28 =>
        intro f v j hfp hp2 hres hfu28 H locs hP hS ls hl
        refine lv_aload_n hx hb dX3_readNumber_28 rfl (lv_at hl 1 rfl) ?_
        refine pt_g2 hx hb hown htg hK hP fl_X3_19 dX3_readNumber_29 ?_
        refine lv_aload_n hx hb dX3_readNumber_32 rfl (lv_at hl 1 rfl) ?_
        refine pt_g1 hx hb hown htg hK hP fl_X3_27 dX3_readNumber_33 ?_
        refine lv_icmp_geN (tgt := 98) hx hb (by omega) (by omega) dX3_readNumber_36 (by decide) (fun c36 => ?_) (fun c36 => ?_)
        · have hC9 : pC B tn hi v j = false := by simp only [pC, c13, Int32.not_lt.mpr c13, c36, Nat.not_lt.mpr c36, decide_true, decide_false, Bool.and_true, Bool.true_and, Bool.and_false, Bool.false_and, Bool.or_true, Bool.true_or, Bool.or_false, Bool.false_or, Bool.and_self, Bool.or_self, if_true, if_false, eq_self, Bool.false_eq_true, Bool.true_eq_false, reduceCtorEq, not_true_eq_false, not_false_eq_true, and_true, true_and, and_false, false_and, or_true, true_or, or_false, false_or, and_self, or_self, Int32.add_zero, Bool.not_false, Bool.not_true]
          have hr9 : rr = (true, j, v) := by rw [← hrr, pN, if_neg (Int32.not_lt.mpr c13), ← hres, pL_no hC9]
          refine lv_aload_n hx hb dX3_readNumber_98 rfl (lv_at hl 1 rfl) ?_
          refine pt_g4 hx hb hown htg hK hP fl_X3_15 dX3_readNumber_99 ?_
          refine lv_iload_n hx hb dX3_readNumber_102 rfl (lv_at hl 2 rfl) ?_
          refine lv_iload hx hb dX3_readNumber_103 (lv_at hl 0 rfl) ?_
          refine pt_wn hx hb hK hI hS hP (by omega) dX3_readNumber_105 (fun H locs hP hS => ?_)
          refine lv_iconst (v := nI 1) hx hb dX3_readNumber_106 (by decide) ?_
          refine fr_iret hx hb hr hlocks hK hI hS rfl dX3_readNumber_107 ?_ ?_
          · exact (congrArg bi (show rr.1 = true from by first | (rw [hr9]; done) | (rw [hr9]; rfl) | (rw [← hrr, pN, if_pos c13]; done) | (rw [nA, ← hrr, pN, if_pos c13]; rfl))).symm
          · refine fP.eqc (congrArg (fun v9 => ptc ct ad B v9 (nI tn) (nI rr.2.1) kd) (show (nA A pl rr) = (upd A pl v) from by first | (rw [hr9]; done) | (rw [hr9]; rfl) | (rw [← hrr, pN, if_pos c13]; done) | (rw [nA, ← hrr, pN, if_pos c13]; rfl)).symm) ?_
            refine fP.eqc (congrArg (fun v9 => ptc ct ad B (upd A pl v) (nI tn) (nI v9) kd) (show rr.2.1 = j from by first | (rw [hr9]; done) | (rw [hr9]; rfl) | (rw [← hrr, pN, if_pos c13]; done) | (rw [nA, ← hrr, pN, if_pos c13]; rfl)).symm) ?_
            exact hP
        · refine lv_iload hx hb dX3_readNumber_39 (lv_at hl 0 rfl) ?_
          refine lv_ifleR (tgt := 98) hx hb dX3_readNumber_41 (by decide) (fun c41 => ?_) (fun c41 => ?_)
          · have hC9 : pC B tn hi v j = false := by simp only [pC, c13, Int32.not_lt.mpr c13, c36, Nat.not_le.mpr c36, c41, Int32.not_lt.mpr c41, decide_true, decide_false, Bool.and_true, Bool.true_and, Bool.and_false, Bool.false_and, Bool.or_true, Bool.true_or, Bool.or_false, Bool.false_or, Bool.and_self, Bool.or_self, if_true, if_false, eq_self, Bool.false_eq_true, Bool.true_eq_false, reduceCtorEq, not_true_eq_false, not_false_eq_true, and_true, true_and, and_false, false_and, or_true, true_or, or_false, false_or, and_self, or_self, Int32.add_zero, Bool.not_false, Bool.not_true]
            have hr9 : rr = (true, j, v) := by rw [← hrr, pN, if_neg (Int32.not_lt.mpr c13), ← hres, pL_no hC9]
            refine lv_aload_n hx hb dX3_readNumber_98 rfl (lv_at hl 1 rfl) ?_
            refine pt_g4 hx hb hown htg hK hP fl_X3_15 dX3_readNumber_99 ?_
            refine lv_iload_n hx hb dX3_readNumber_102 rfl (lv_at hl 2 rfl) ?_
            refine lv_iload hx hb dX3_readNumber_103 (lv_at hl 0 rfl) ?_
            refine pt_wn hx hb hK hI hS hP (by omega) dX3_readNumber_105 (fun H locs hP hS => ?_)
            refine lv_iconst (v := nI 1) hx hb dX3_readNumber_106 (by decide) ?_
            refine fr_iret hx hb hr hlocks hK hI hS rfl dX3_readNumber_107 ?_ ?_
            · exact (congrArg bi (show rr.1 = true from by first | (rw [hr9]; done) | (rw [hr9]; rfl) | (rw [← hrr, pN, if_pos c13]; done) | (rw [nA, ← hrr, pN, if_pos c13]; rfl))).symm
            · refine fP.eqc (congrArg (fun v9 => ptc ct ad B v9 (nI tn) (nI rr.2.1) kd) (show (nA A pl rr) = (upd A pl v) from by first | (rw [hr9]; done) | (rw [hr9]; rfl) | (rw [← hrr, pN, if_pos c13]; done) | (rw [nA, ← hrr, pN, if_pos c13]; rfl)).symm) ?_
              refine fP.eqc (congrArg (fun v9 => ptc ct ad B (upd A pl v) (nI tn) (nI v9) kd) (show rr.2.1 = j from by first | (rw [hr9]; done) | (rw [hr9]; rfl) | (rw [← hrr, pN, if_pos c13]; done) | (rw [nA, ← hrr, pN, if_pos c13]; rfl)).symm) ?_
              exact hP
          · refine lv_aload_n hx hb dX3_readNumber_44 rfl (lv_at hl 1 rfl) ?_
            refine lv_aload_n hx hb dX3_readNumber_45 rfl (lv_at hl 1 rfl) ?_
            refine pt_g2 hx hb hown htg hK hP fl_X3_19 dX3_readNumber_46 ?_
            refine pt_cr (As := [.int (nI j)]) (rest := []) hx hb hown htg hK hI hS hP hml hl.1 (mX3_digitAt l D ct ad B A tn j kd j (by omega) (by omega)) cw_X3_42 rfl rfl ⟨Nat.le_of_ble_eq_true rfl, Nat.le_of_ble_eq_true rfl⟩ (Nat.le_of_ble_eq_true rfl) dX3_readNumber_49 ⟨Nat.le_refl _, Nat.le_refl _⟩ (fun H locs hP hS => ?_)
            refine lv_istore (lv' := [(5, .int (pD B tn j)), (4, .int (v)), (0, .ref (ad 0)), (1, .int (nI pl)), (2, .int (lo)), (3, .int (hi))]) hx hb dX3_readNumber_52 hl (by decide) rfl (fun ls hl => ?_)
            refine lv_iload hx hb dX3_readNumber_54 (lv_at hl 0 rfl) ?_
            refine lv_iconst (v := -1) hx hb dX3_readNumber_56 (by decide) ?_
            refine lv_icmp_eq (tgt := 98) hx hb dX3_readNumber_57 (by decide) (fun c57 => ?_) (fun c57 => ?_)
            · have hC9 : pC B tn hi v j = false := by simp only [pC, c13, Int32.not_lt.mpr c13, c36, Nat.not_le.mpr c36, c41, Int32.not_le.mpr c41, c57, decide_true, decide_false, Bool.and_true, Bool.true_and, Bool.and_false, Bool.false_and, Bool.or_true, Bool.true_or, Bool.or_false, Bool.false_or, Bool.and_self, Bool.or_self, if_true, if_false, eq_self, Bool.false_eq_true, Bool.true_eq_false, reduceCtorEq, not_true_eq_false, not_false_eq_true, and_true, true_and, and_false, false_and, or_true, true_or, or_false, false_or, and_self, or_self, Int32.add_zero, Bool.not_false, Bool.not_true]
              have hr9 : rr = (true, j, v) := by rw [← hrr, pN, if_neg (Int32.not_lt.mpr c13), ← hres, pL_no hC9]
              refine lv_aload_n hx hb dX3_readNumber_98 rfl (lv_at hl 2 rfl) ?_
              refine pt_g4 hx hb hown htg hK hP fl_X3_15 dX3_readNumber_99 ?_
              refine lv_iload_n hx hb dX3_readNumber_102 rfl (lv_at hl 3 rfl) ?_
              refine lv_iload hx hb dX3_readNumber_103 (lv_at hl 1 rfl) ?_
              refine pt_wn hx hb hK hI hS hP (by omega) dX3_readNumber_105 (fun H locs hP hS => ?_)
              refine lv_iconst (v := nI 1) hx hb dX3_readNumber_106 (by decide) ?_
              refine fr_iret hx hb hr hlocks hK hI hS rfl dX3_readNumber_107 ?_ ?_
              · exact (congrArg bi (show rr.1 = true from by first | (rw [hr9]; done) | (rw [hr9]; rfl) | (rw [← hrr, pN, if_pos c13]; done) | (rw [nA, ← hrr, pN, if_pos c13]; rfl))).symm
              · refine fP.eqc (congrArg (fun v9 => ptc ct ad B v9 (nI tn) (nI rr.2.1) kd) (show (nA A pl rr) = (upd A pl v) from by first | (rw [hr9]; done) | (rw [hr9]; rfl) | (rw [← hrr, pN, if_pos c13]; done) | (rw [nA, ← hrr, pN, if_pos c13]; rfl)).symm) ?_
                refine fP.eqc (congrArg (fun v9 => ptc ct ad B (upd A pl v) (nI tn) (nI v9) kd) (show rr.2.1 = j from by first | (rw [hr9]; done) | (rw [hr9]; rfl) | (rw [← hrr, pN, if_pos c13]; done) | (rw [nA, ← hrr, pN, if_pos c13]; rfl)).symm) ?_
                exact hP
            · refine lv_bipush (v := nI 10) hx hb dX3_readNumber_60 (by decide) ?_
              refine lv_iload hx hb dX3_readNumber_62 (lv_at hl 1 rfl) ?_
              refine lv_imul hx hb dX3_readNumber_64 ?_
              refine lv_iload hx hb dX3_readNumber_65 (lv_at hl 0 rfl) ?_
              refine lv_iadd hx hb dX3_readNumber_67 ?_
              refine lv_iload_n hx hb dX3_readNumber_68 rfl (lv_at hl 5 rfl) ?_
              refine lv_icmp_leR (tgt := 75) hx hb dX3_readNumber_69 (by decide) (fun c69 => ?_) (fun c69 => ?_)
              · have hC9 : pC B tn hi v j = true := by simp only [pC, c13, Int32.not_lt.mpr c13, c36, Nat.not_le.mpr c36, c41, Int32.not_le.mpr c41, c57, c69, Int32.not_lt.mpr c69, decide_true, decide_false, Bool.and_true, Bool.true_and, Bool.and_false, Bool.false_and, Bool.or_true, Bool.true_or, Bool.or_false, Bool.false_or, Bool.and_self, Bool.or_self, if_true, if_false, eq_self, Bool.false_eq_true, Bool.true_eq_false, reduceCtorEq, not_true_eq_false, not_false_eq_true, and_true, true_and, and_false, false_and, or_true, true_or, or_false, false_or, and_self, or_self, Int32.add_zero, Bool.not_false, Bool.not_true]
                have hpt := pC_lt hC9
                refine lv_bipush (v := nI 10) hx hb dX3_readNumber_75 (by decide) ?_
                refine lv_iload hx hb dX3_readNumber_77 (lv_at hl 1 rfl) ?_
                refine lv_imul hx hb dX3_readNumber_79 ?_
                refine lv_iload hx hb dX3_readNumber_80 (lv_at hl 0 rfl) ?_
                refine lv_iadd hx hb dX3_readNumber_82 ?_
                refine lv_istore (lv' := [(4, .int (((nI 10) * v) + (pD B tn j))), (5, .int (pD B tn j)), (0, .ref (ad 0)), (1, .int (nI pl)), (2, .int (lo)), (3, .int (hi))]) hx hb dX3_readNumber_83 hl (by decide) rfl (fun ls hl => ?_)
                refine lv_aload_n hx hb dX3_readNumber_85 rfl (lv_at hl 2 rfl) ?_
                refine lv_dup hx hb dX3_readNumber_86 rfl ?_
                refine pt_g2 hx hb hown htg hK hP fl_X3_19 dX3_readNumber_87 ?_
                refine lv_iconst (v := nI 1) hx hb dX3_readNumber_90 (by decide) ?_
                refine lv_iaddN hx hb dX3_readNumber_91 ?_
                refine pt_p2 hx hb hown htg hK hI hS hP fl_X3_19 dX3_readNumber_92 (fun H locs hP hS => ?_)
                refine lv_goto (tgt := 28) hx hb dX3_readNumber_95 (by decide) ?_
                have hl := lv_sub (l' := [(4, .int (((nI 10) * v) + (pD B tn j))), (0, .ref (ad 0)), (1, .int (nI pl)), (2, .int (lo)), (3, .int (hi))]) hl [0, 2, 3, 4, 5] rfl
                have le4 : Value.int (((nI 10) * v) + (pD B tn j)) = Value.int ((((nI 10) * v) + (pD B tn j))) := by rfl
                have hl := lv_hasE hl (lcons le4 (lcons rfl (lcons rfl (lcons rfl (lcons rfl rfl)))))
                exact ih28 (f - 1) (((nI 10) * v) + (pD B tn j)) (j + 1) (by omega) (by omega) ((pL_go (by omega) hC9).symm.trans hres) (by omega) _ _ hP hS _ hl
              · refine lv_goto (tgt := 98) hx hb dX3_readNumber_72 (by decide) ?_
                have hC9 : pC B tn hi v j = false := by simp only [pC, c13, Int32.not_lt.mpr c13, c36, Nat.not_le.mpr c36, c41, Int32.not_le.mpr c41, c57, c69, Int32.not_le.mpr c69, decide_true, decide_false, Bool.and_true, Bool.true_and, Bool.and_false, Bool.false_and, Bool.or_true, Bool.true_or, Bool.or_false, Bool.false_or, Bool.and_self, Bool.or_self, if_true, if_false, eq_self, Bool.false_eq_true, Bool.true_eq_false, reduceCtorEq, not_true_eq_false, not_false_eq_true, and_true, true_and, and_false, false_and, or_true, true_or, or_false, false_or, and_self, or_self, Int32.add_zero, Bool.not_false, Bool.not_true]
                have hr9 : rr = (true, j, v) := by rw [← hrr, pN, if_neg (Int32.not_lt.mpr c13), ← hres, pL_no hC9]
                refine lv_aload_n hx hb dX3_readNumber_98 rfl (lv_at hl 2 rfl) ?_
                refine pt_g4 hx hb hown htg hK hP fl_X3_15 dX3_readNumber_99 ?_
                refine lv_iload_n hx hb dX3_readNumber_102 rfl (lv_at hl 3 rfl) ?_
                refine lv_iload hx hb dX3_readNumber_103 (lv_at hl 1 rfl) ?_
                refine pt_wn hx hb hK hI hS hP (by omega) dX3_readNumber_105 (fun H locs hP hS => ?_)
                refine lv_iconst (v := nI 1) hx hb dX3_readNumber_106 (by decide) ?_
                refine fr_iret hx hb hr hlocks hK hI hS rfl dX3_readNumber_107 ?_ ?_
                · exact (congrArg bi (show rr.1 = true from by first | (rw [hr9]; done) | (rw [hr9]; rfl) | (rw [← hrr, pN, if_pos c13]; done) | (rw [nA, ← hrr, pN, if_pos c13]; rfl))).symm
                · refine fP.eqc (congrArg (fun v9 => ptc ct ad B v9 (nI tn) (nI rr.2.1) kd) (show (nA A pl rr) = (upd A pl v) from by first | (rw [hr9]; done) | (rw [hr9]; rfl) | (rw [← hrr, pN, if_pos c13]; done) | (rw [nA, ← hrr, pN, if_pos c13]; rfl)).symm) ?_
                  refine fP.eqc (congrArg (fun v9 => ptc ct ad B (upd A pl v) (nI tn) (nI v9) kd) (show rr.2.1 = j from by first | (rw [hr9]; done) | (rw [hr9]; rfl) | (rw [← hrr, pN, if_pos c13]; done) | (rw [nA, ← hrr, pN, if_pos c13]; rfl)).symm) ?_
                  exact hP
    have hl := lv_sub (l' := [(4, .int (pD B tn p9)), (0, .ref (ad 0)), (1, .int (nI pl)), (2, .int (lo)), (3, .int (hi))]) hl [0, 1, 2, 3, 4] rfl
    have le4 : Value.int (pD B tn p9) = Value.int ((pD B tn p9)) := by rfl
    have hl := lv_hasE hl (lcons le4 (lcons rfl (lcons rfl (lcons rfl (lcons rfl rfl)))))
    exact lp28 (61 + 1) 61 (pD B tn p9) (p9 + 1) (by omega) (by have := pD_lt hlo c13; omega) (rfl) (Nat.lt_succ_self _) _ _ hP hS _ hl
  · refine lv_iconst (v := nI 0) hx hb dX3_readNumber_16 (by decide) ?_
    refine fr_iret hx hb hr hlocks hK hI hS rfl dX3_readNumber_17 ?_ ?_
    · exact (congrArg bi (show rr.1 = false from by first | (rw [hr9]; done) | (rw [hr9]; rfl) | (rw [← hrr, pN, if_pos c13]; done) | (rw [nA, ← hrr, pN, if_pos c13]; rfl))).symm
    · refine fP.eqc (congrArg (fun v9 => ptc ct ad B v9 (nI tn) (nI rr.2.1) kd) (show (nA A pl rr) = A from by first | (rw [hr9]; done) | (rw [hr9]; rfl) | (rw [← hrr, pN, if_pos c13]; done) | (rw [nA, ← hrr, pN, if_pos c13]; rfl)).symm) ?_
      refine fP.eqc (congrArg (fun v9 => ptc ct ad B A (nI tn) (nI v9) kd) (show rr.2.1 = p9 from by first | (rw [hr9]; done) | (rw [hr9]; rfl) | (rw [← hrr, pN, if_pos c13]; done) | (rw [nA, ← hrr, pN, if_pos c13]; rfl)).symm) ?_
      exact hP
set_option maxRecDepth 100000 in
set_option maxHeartbeats 4000000 in
theorem mX3_readOrder (l : Launch) (D : va_G) (ct : Nat → ClassId) (ad : Nat → Nat) (B A : Nat → Int32) (tn p9 : Nat) (kd : Int32)  (rr : Bool × Nat × (Nat → Int32) × Int32) (hrr : pO B tn p9 A kd = rr) (htn : tn ≤ 60) (hp : p9 ≤ 60) : FMet l yX3_readOrder cX3_readOrder 1 (some .boolean) 2 46 D ct 3 ad [.ref (ad 0)] (ptc ct ad B A (nI tn) (nI p9) kd) (some (.int (bi rr.1))) (ptc ct ad B rr.2.2.1 (nI tn) (nI rr.2.1) rr.2.2.2) := by
  refine FMet.of (by decide +kernel) (Nat.le_of_ble_eq_true rfl) ?_
  intro p e s m args below meth c ls hx hb hr hml hown hlocks htg hK hI hP hS hl
  have hl : lv_has ls 1 [(0, .ref (ad 0))] := hl
  refine lv_aload_n hx hb dX3_readOrder_0 rfl (lv_at hl 0 rfl) ?_
  refine lv_bipush (v := nI 115) hx hb dX3_readOrder_1 (by decide) ?_
  refine pt_cr (As := [.int (nI 115)]) (rest := []) hx hb hown htg hK hI hS hP hml hl.1 (mX3_readSign l D ct ad B A tn p9 kd (nI 115) (by omega) (by omega)) cw_X3_30 rfl rfl ⟨Nat.le_of_ble_eq_true rfl, Nat.le_of_ble_eq_true rfl⟩ (Nat.le_of_ble_eq_true rfl) dX3_readOrder_3 ⟨Nat.le_refl _, Nat.le_refl _⟩ (fun H locs hP hS => ?_)
  have := sP_le (B := B) (tn := tn) (p := p9) (c := (nI 115)) (by omega) (by omega)
  refine lv_ifeqB (tgt := 93) hx hb dX3_readOrder_6 (by decide) (fun c6 => ?_) (fun c6 => ?_)
  · refine lv_aload_n hx hb dX3_readOrder_93 rfl (lv_at hl 0 rfl) ?_
    refine lv_bipush (v := nI 112) hx hb dX3_readOrder_94 (by decide) ?_
    have hP := fP.eqc (congrArg (fun v9 => ptc ct ad B A (nI tn) (nI v9) kd) (show (sP B tn p9 (nI 115)) = p9 from if_neg (by rw [c6]; exact Bool.false_ne_true))) hP
    refine pt_cr (As := [.int (nI 112)]) (rest := []) hx hb hown htg hK hI hS hP hml hl.1 (mX3_readSign l D ct ad B A tn p9 kd (nI 112) (by omega) (by omega)) cw_X3_30 rfl rfl ⟨Nat.le_of_ble_eq_true rfl, Nat.le_of_ble_eq_true rfl⟩ (Nat.le_of_ble_eq_true rfl) dX3_readOrder_96 ⟨Nat.le_refl _, Nat.le_refl _⟩ (fun H locs hP hS => ?_)
    have := sP_le (B := B) (tn := tn) (p := p9) (c := (nI 112)) (by omega) (by omega)
    refine lv_ifeqB (tgt := 145) hx hb dX3_readOrder_99 (by decide) (fun c99 => ?_) (fun c99 => ?_)
    · refine lv_aload_n hx hb dX3_readOrder_145 rfl (lv_at hl 0 rfl) ?_
      refine lv_bipush (v := nI 104) hx hb dX3_readOrder_146 (by decide) ?_
      have hP := fP.eqc (congrArg (fun v9 => ptc ct ad B A (nI tn) (nI v9) kd) (show (sP B tn p9 (nI 112)) = p9 from if_neg (by rw [c99]; exact Bool.false_ne_true))) hP
      refine pt_cr (As := [.int (nI 104)]) (rest := []) hx hb hown htg hK hI hS hP hml hl.1 (mX3_readSign l D ct ad B A tn p9 kd (nI 104) (by omega) (by omega)) cw_X3_30 rfl rfl ⟨Nat.le_of_ble_eq_true rfl, Nat.le_of_ble_eq_true rfl⟩ (Nat.le_of_ble_eq_true rfl) dX3_readOrder_148 ⟨Nat.le_refl _, Nat.le_refl _⟩ (fun H locs hP hS => ?_)
      have := sP_le (B := B) (tn := tn) (p := p9) (c := (nI 104)) (by omega) (by omega)
      refine lv_ifeqB (tgt := 169) hx hb dX3_readOrder_151 (by decide) (fun c151 => ?_) (fun c151 => ?_)
      · refine lv_iconst (v := nI 0) hx hb dX3_readOrder_169 (by decide) ?_
        refine fr_iret hx hb hr hlocks hK hI hS rfl dX3_readOrder_170 ?_ ?_
        · exact (congrArg bi (show rr.1 = false from by (rw [← hrr]; simp only [pO, pOs, pOp, pOh, pNS, pSS, nA, sP, c6, c99, c151, decide_true, decide_false, Bool.and_true, Bool.true_and, Bool.and_false, Bool.false_and, Bool.or_true, Bool.true_or, Bool.or_false, Bool.false_or, Bool.and_self, Bool.or_self, if_true, if_false, eq_self, Bool.false_eq_true, Bool.true_eq_false, reduceCtorEq, not_true_eq_false, not_false_eq_true, and_true, true_and, and_false, false_and, or_true, true_or, or_false, false_or, and_self, or_self, Int32.add_zero]))).symm
        · refine fP.eqc (congrArg (fun v9 => ptc ct ad B v9 (nI tn) (nI rr.2.1) rr.2.2.2) (show rr.2.2.1 = A from by (rw [← hrr]; simp only [pO, pOs, pOp, pOh, pNS, pSS, nA, sP, c6, c99, c151, decide_true, decide_false, Bool.and_true, Bool.true_and, Bool.and_false, Bool.false_and, Bool.or_true, Bool.true_or, Bool.or_false, Bool.false_or, Bool.and_self, Bool.or_self, if_true, if_false, eq_self, Bool.false_eq_true, Bool.true_eq_false, reduceCtorEq, not_true_eq_false, not_false_eq_true, and_true, true_and, and_false, false_and, or_true, true_or, or_false, false_or, and_self, or_self, Int32.add_zero])).symm) ?_
          refine fP.eqc (congrArg (fun v9 => ptc ct ad B A (nI tn) (nI v9) rr.2.2.2) (show rr.2.1 = (sP B tn p9 (nI 104)) from by (rw [← hrr]; simp only [pO, pOs, pOp, pOh, pNS, pSS, nA, sP, c6, c99, c151, decide_true, decide_false, Bool.and_true, Bool.true_and, Bool.and_false, Bool.false_and, Bool.or_true, Bool.true_or, Bool.or_false, Bool.false_or, Bool.and_self, Bool.or_self, if_true, if_false, eq_self, Bool.false_eq_true, Bool.true_eq_false, reduceCtorEq, not_true_eq_false, not_false_eq_true, and_true, true_and, and_false, false_and, or_true, true_or, or_false, false_or, and_self, or_self, Int32.add_zero])).symm) ?_
          refine fP.eqc (congrArg (fun v9 => ptc ct ad B A (nI tn) (nI (sP B tn p9 (nI 104))) v9) (show rr.2.2.2 = kd from by (rw [← hrr]; simp only [pO, pOs, pOp, pOh, pNS, pSS, nA, sP, c6, c99, c151, decide_true, decide_false, Bool.and_true, Bool.true_and, Bool.and_false, Bool.false_and, Bool.or_true, Bool.true_or, Bool.or_false, Bool.false_or, Bool.and_self, Bool.or_self, if_true, if_false, eq_self, Bool.false_eq_true, Bool.true_eq_false, reduceCtorEq, not_true_eq_false, not_false_eq_true, and_true, true_and, and_false, false_and, or_true, true_or, or_false, false_or, and_self, or_self, Int32.add_zero])).symm) ?_
          exact hP
      · refine lv_aload_n hx hb dX3_readOrder_154 rfl (lv_at hl 0 rfl) ?_
        refine lv_bipush (v := nI 104) hx hb dX3_readOrder_155 (by decide) ?_
        have hP := fP.eqc (congrArg (fun v9 => ptc ct ad B A (nI tn) (nI v9) kd) (show (sP B tn p9 (nI 104)) = (p9 + 1) from if_pos c151)) hP
        have := pS_lt c151
        refine pt_p3 hx hb hown htg hK hI hS hP rfl rfl fl_X3_34 dX3_readOrder_157 (fun H locs hP hS => ?_)
        refine lv_aload_n hx hb dX3_readOrder_160 rfl (lv_at hl 0 rfl) ?_
        refine lv_iconst (v := nI 0) hx hb dX3_readOrder_161 (by decide) ?_
        refine lv_iconst (v := nI 1) hx hb dX3_readOrder_162 (by decide) ?_
        refine lv_bipush (v := nI 48) hx hb dX3_readOrder_163 (by decide) ?_
        obtain ⟨rr1, hrr1⟩ : ∃ z9, pN B tn (p9 + 1) (nI 1) (nI 48) = z9 := ⟨_, rfl⟩
        refine pt_cr (As := [.int (nI 0), .int (nI 1), .int (nI 48)]) (rest := []) hx hb hown htg hK hI hS hP hml hl.1 (mX3_readNumber l D ct ad B A tn (p9 + 1) (nI 104) 0 (nI 1) (nI 48) rr1 hrr1 (by omega) (by omega) (by omega) (by decide)) cw_X3_38 rfl rfl ⟨Nat.le_of_ble_eq_true rfl, Nat.le_of_ble_eq_true rfl⟩ (Nat.le_of_ble_eq_true rfl) dX3_readOrder_165 ⟨Nat.le_refl _, Nat.le_refl _⟩ (fun H locs hP hS => ?_)
        have := pN_le hrr1 (by omega) (by omega) (by decide)
        refine fr_iret hx hb hr hlocks hK hI hS bi_n dX3_readOrder_168 ?_ ?_
        · exact congrArg bi (show rr1.1 = rr.1 from by (rw [← hrr]; simp only [pO, pOs, pOp, pOh, pNS, pSS, nA, sP, c6, c99, c151, hrr1, decide_true, decide_false, Bool.and_true, Bool.true_and, Bool.and_false, Bool.false_and, Bool.or_true, Bool.true_or, Bool.or_false, Bool.false_or, Bool.and_self, Bool.or_self, if_true, if_false, eq_self, Bool.false_eq_true, Bool.true_eq_false, reduceCtorEq, not_true_eq_false, not_false_eq_true, and_true, true_and, and_false, false_and, or_true, true_or, or_false, false_or, and_self, or_self, Int32.add_zero]))
        · refine fP.eqc (congrArg (fun v9 => ptc ct ad B v9 (nI tn) (nI rr.2.1) rr.2.2.2) (show rr.2.2.1 = (nA A 0 rr1) from by (rw [← hrr]; simp only [pO, pOs, pOp, pOh, pNS, pSS, nA, sP, c6, c99, c151, hrr1, decide_true, decide_false, Bool.and_true, Bool.true_and, Bool.and_false, Bool.false_and, Bool.or_true, Bool.true_or, Bool.or_false, Bool.false_or, Bool.and_self, Bool.or_self, if_true, if_false, eq_self, Bool.false_eq_true, Bool.true_eq_false, reduceCtorEq, not_true_eq_false, not_false_eq_true, and_true, true_and, and_false, false_and, or_true, true_or, or_false, false_or, and_self, or_self, Int32.add_zero])).symm) ?_
          refine fP.eqc (congrArg (fun v9 => ptc ct ad B (nA A 0 rr1) (nI tn) (nI v9) rr.2.2.2) (show rr.2.1 = rr1.2.1 from by (rw [← hrr]; simp only [pO, pOs, pOp, pOh, pNS, pSS, nA, sP, c6, c99, c151, hrr1, decide_true, decide_false, Bool.and_true, Bool.true_and, Bool.and_false, Bool.false_and, Bool.or_true, Bool.true_or, Bool.or_false, Bool.false_or, Bool.and_self, Bool.or_self, if_true, if_false, eq_self, Bool.false_eq_true, Bool.true_eq_false, reduceCtorEq, not_true_eq_false, not_false_eq_true, and_true, true_and, and_false, false_and, or_true, true_or, or_false, false_or, and_self, or_self, Int32.add_zero])).symm) ?_
          refine fP.eqc (congrArg (fun v9 => ptc ct ad B (nA A 0 rr1) (nI tn) (nI rr1.2.1) v9) (show rr.2.2.2 = (nI 104) from by (rw [← hrr]; simp only [pO, pOs, pOp, pOh, pNS, pSS, nA, sP, c6, c99, c151, hrr1, decide_true, decide_false, Bool.and_true, Bool.true_and, Bool.and_false, Bool.false_and, Bool.or_true, Bool.true_or, Bool.or_false, Bool.false_or, Bool.and_self, Bool.or_self, if_true, if_false, eq_self, Bool.false_eq_true, Bool.true_eq_false, reduceCtorEq, not_true_eq_false, not_false_eq_true, and_true, true_and, and_false, false_and, or_true, true_or, or_false, false_or, and_self, or_self, Int32.add_zero])).symm) ?_
          exact hP
    · refine lv_aload_n hx hb dX3_readOrder_102 rfl (lv_at hl 0 rfl) ?_
      refine lv_bipush (v := nI 112) hx hb dX3_readOrder_103 (by decide) ?_
      have hP := fP.eqc (congrArg (fun v9 => ptc ct ad B A (nI tn) (nI v9) kd) (show (sP B tn p9 (nI 112)) = (p9 + 1) from if_pos c99)) hP
      have := pS_lt c99
      refine pt_p3 hx hb hown htg hK hI hS hP rfl rfl fl_X3_34 dX3_readOrder_105 (fun H locs hP hS => ?_)
      refine lv_aload_n hx hb dX3_readOrder_108 rfl (lv_at hl 0 rfl) ?_
      refine lv_iconst (v := nI 0) hx hb dX3_readOrder_109 (by decide) ?_
      refine lv_iconst (v := nI 0) hx hb dX3_readOrder_110 (by decide) ?_
      refine lv_bipush (v := nI 9) hx hb dX3_readOrder_111 (by decide) ?_
      obtain ⟨rr2, hrr2⟩ : ∃ z9, pN B tn (p9 + 1) (nI 0) (nI 9) = z9 := ⟨_, rfl⟩
      refine pt_cr (As := [.int (nI 0), .int (nI 0), .int (nI 9)]) (rest := []) hx hb hown htg hK hI hS hP hml hl.1 (mX3_readNumber l D ct ad B A tn (p9 + 1) (nI 112) 0 (nI 0) (nI 9) rr2 hrr2 (by omega) (by omega) (by omega) (by decide)) cw_X3_38 rfl rfl ⟨Nat.le_of_ble_eq_true rfl, Nat.le_of_ble_eq_true rfl⟩ (Nat.le_of_ble_eq_true rfl) dX3_readOrder_113 ⟨Nat.le_refl _, Nat.le_refl _⟩ (fun H locs hP hS => ?_)
      have := pN_le hrr2 (by omega) (by omega) (by decide)
      refine lv_ifeqB (tgt := 143) hx hb dX3_readOrder_116 (by decide) (fun c116 => ?_) (fun c116 => ?_)
      · refine lv_iconst (v := nI 0) hx hb dX3_readOrder_143 (by decide) ?_
        refine fr_iret hx hb hr hlocks hK hI hS rfl dX3_readOrder_144 ?_ ?_
        · exact (congrArg bi (show rr.1 = false from by (rw [← hrr]; simp only [pO, pOs, pOp, pOh, pNS, pSS, nA, sP, c6, c99, hrr2, c116, decide_true, decide_false, Bool.and_true, Bool.true_and, Bool.and_false, Bool.false_and, Bool.or_true, Bool.true_or, Bool.or_false, Bool.false_or, Bool.and_self, Bool.or_self, if_true, if_false, eq_self, Bool.false_eq_true, Bool.true_eq_false, reduceCtorEq, not_true_eq_false, not_false_eq_true, and_true, true_and, and_false, false_and, or_true, true_or, or_false, false_or, and_self, or_self, Int32.add_zero]))).symm
        · refine fP.eqc (congrArg (fun v9 => ptc ct ad B v9 (nI tn) (nI rr.2.1) rr.2.2.2) (show rr.2.2.1 = (nA A 0 rr2) from by (rw [← hrr]; simp only [pO, pOs, pOp, pOh, pNS, pSS, nA, sP, c6, c99, hrr2, c116, decide_true, decide_false, Bool.and_true, Bool.true_and, Bool.and_false, Bool.false_and, Bool.or_true, Bool.true_or, Bool.or_false, Bool.false_or, Bool.and_self, Bool.or_self, if_true, if_false, eq_self, Bool.false_eq_true, Bool.true_eq_false, reduceCtorEq, not_true_eq_false, not_false_eq_true, and_true, true_and, and_false, false_and, or_true, true_or, or_false, false_or, and_self, or_self, Int32.add_zero])).symm) ?_
          refine fP.eqc (congrArg (fun v9 => ptc ct ad B (nA A 0 rr2) (nI tn) (nI v9) rr.2.2.2) (show rr.2.1 = rr2.2.1 from by (rw [← hrr]; simp only [pO, pOs, pOp, pOh, pNS, pSS, nA, sP, c6, c99, hrr2, c116, decide_true, decide_false, Bool.and_true, Bool.true_and, Bool.and_false, Bool.false_and, Bool.or_true, Bool.true_or, Bool.or_false, Bool.false_or, Bool.and_self, Bool.or_self, if_true, if_false, eq_self, Bool.false_eq_true, Bool.true_eq_false, reduceCtorEq, not_true_eq_false, not_false_eq_true, and_true, true_and, and_false, false_and, or_true, true_or, or_false, false_or, and_self, or_self, Int32.add_zero])).symm) ?_
          refine fP.eqc (congrArg (fun v9 => ptc ct ad B (nA A 0 rr2) (nI tn) (nI rr2.2.1) v9) (show rr.2.2.2 = (nI 112) from by (rw [← hrr]; simp only [pO, pOs, pOp, pOh, pNS, pSS, nA, sP, c6, c99, hrr2, c116, decide_true, decide_false, Bool.and_true, Bool.true_and, Bool.and_false, Bool.false_and, Bool.or_true, Bool.true_or, Bool.or_false, Bool.false_or, Bool.and_self, Bool.or_self, if_true, if_false, eq_self, Bool.false_eq_true, Bool.true_eq_false, reduceCtorEq, not_true_eq_false, not_false_eq_true, and_true, true_and, and_false, false_and, or_true, true_or, or_false, false_or, and_self, or_self, Int32.add_zero])).symm) ?_
          exact hP
      · refine lv_aload_n hx hb dX3_readOrder_119 rfl (lv_at hl 0 rfl) ?_
        refine lv_bipush (v := nI 61) hx hb dX3_readOrder_120 (by decide) ?_
        have hP := fP.eqc (congrArg (fun v9 => ptc ct ad B v9 (nI tn) (nI rr2.2.1) (nI 112)) (show (nA A 0 rr2) = (upd A 0 rr2.2.2) from if_pos c116)) hP
        refine pt_cr (As := [.int (nI 61)]) (rest := []) hx hb hown htg hK hI hS hP hml hl.1 (mX3_readSign l D ct ad B (upd A 0 rr2.2.2) tn rr2.2.1 (nI 112) (nI 61) (by omega) (by omega)) cw_X3_30 rfl rfl ⟨Nat.le_of_ble_eq_true rfl, Nat.le_of_ble_eq_true rfl⟩ (Nat.le_of_ble_eq_true rfl) dX3_readOrder_122 ⟨Nat.le_refl _, Nat.le_refl _⟩ (fun H locs hP hS => ?_)
        have := sP_le (B := B) (tn := tn) (p := rr2.2.1) (c := (nI 61)) (by omega) (by omega)
        refine lv_ifeqB (tgt := 143) hx hb dX3_readOrder_125 (by decide) (fun c125 => ?_) (fun c125 => ?_)
        · refine lv_iconst (v := nI 0) hx hb dX3_readOrder_143 (by decide) ?_
          refine fr_iret hx hb hr hlocks hK hI hS rfl dX3_readOrder_144 ?_ ?_
          · exact (congrArg bi (show rr.1 = false from by (rw [← hrr]; simp only [pO, pOs, pOp, pOh, pNS, pSS, nA, sP, c6, c99, hrr2, c116, c125, decide_true, decide_false, Bool.and_true, Bool.true_and, Bool.and_false, Bool.false_and, Bool.or_true, Bool.true_or, Bool.or_false, Bool.false_or, Bool.and_self, Bool.or_self, if_true, if_false, eq_self, Bool.false_eq_true, Bool.true_eq_false, reduceCtorEq, not_true_eq_false, not_false_eq_true, and_true, true_and, and_false, false_and, or_true, true_or, or_false, false_or, and_self, or_self, Int32.add_zero]))).symm
          · refine fP.eqc (congrArg (fun v9 => ptc ct ad B v9 (nI tn) (nI rr.2.1) rr.2.2.2) (show rr.2.2.1 = (upd A 0 rr2.2.2) from by (rw [← hrr]; simp only [pO, pOs, pOp, pOh, pNS, pSS, nA, sP, c6, c99, hrr2, c116, c125, decide_true, decide_false, Bool.and_true, Bool.true_and, Bool.and_false, Bool.false_and, Bool.or_true, Bool.true_or, Bool.or_false, Bool.false_or, Bool.and_self, Bool.or_self, if_true, if_false, eq_self, Bool.false_eq_true, Bool.true_eq_false, reduceCtorEq, not_true_eq_false, not_false_eq_true, and_true, true_and, and_false, false_and, or_true, true_or, or_false, false_or, and_self, or_self, Int32.add_zero])).symm) ?_
            refine fP.eqc (congrArg (fun v9 => ptc ct ad B (upd A 0 rr2.2.2) (nI tn) (nI v9) rr.2.2.2) (show rr.2.1 = (sP B tn rr2.2.1 (nI 61)) from by (rw [← hrr]; simp only [pO, pOs, pOp, pOh, pNS, pSS, nA, sP, c6, c99, hrr2, c116, c125, decide_true, decide_false, Bool.and_true, Bool.true_and, Bool.and_false, Bool.false_and, Bool.or_true, Bool.true_or, Bool.or_false, Bool.false_or, Bool.and_self, Bool.or_self, if_true, if_false, eq_self, Bool.false_eq_true, Bool.true_eq_false, reduceCtorEq, not_true_eq_false, not_false_eq_true, and_true, true_and, and_false, false_and, or_true, true_or, or_false, false_or, and_self, or_self, Int32.add_zero])).symm) ?_
            refine fP.eqc (congrArg (fun v9 => ptc ct ad B (upd A 0 rr2.2.2) (nI tn) (nI (sP B tn rr2.2.1 (nI 61))) v9) (show rr.2.2.2 = (nI 112) from by (rw [← hrr]; simp only [pO, pOs, pOp, pOh, pNS, pSS, nA, sP, c6, c99, hrr2, c116, c125, decide_true, decide_false, Bool.and_true, Bool.true_and, Bool.and_false, Bool.false_and, Bool.or_true, Bool.true_or, Bool.or_false, Bool.false_or, Bool.and_self, Bool.or_self, if_true, if_false, eq_self, Bool.false_eq_true, Bool.true_eq_false, reduceCtorEq, not_true_eq_false, not_false_eq_true, and_true, true_and, and_false, false_and, or_true, true_or, or_false, false_or, and_self, or_self, Int32.add_zero])).symm) ?_
            exact hP
        · refine lv_aload_n hx hb dX3_readOrder_128 rfl (lv_at hl 0 rfl) ?_
          refine lv_iconst (v := nI 1) hx hb dX3_readOrder_129 (by decide) ?_
          refine lv_iconst (v := nI 0) hx hb dX3_readOrder_130 (by decide) ?_
          refine lv_bipush (v := nI 11) hx hb dX3_readOrder_131 (by decide) ?_
          have hP := fP.eqc (congrArg (fun v9 => ptc ct ad B (upd A 0 rr2.2.2) (nI tn) (nI v9) (nI 112)) (show (sP B tn rr2.2.1 (nI 61)) = (rr2.2.1 + 1) from if_pos c125)) hP
          have := pS_lt c125
          obtain ⟨rr3, hrr3⟩ : ∃ z9, pN B tn (rr2.2.1 + 1) (nI 0) (nI 11) = z9 := ⟨_, rfl⟩
          refine pt_cr (As := [.int (nI 1), .int (nI 0), .int (nI 11)]) (rest := []) hx hb hown htg hK hI hS hP hml hl.1 (mX3_readNumber l D ct ad B (upd A 0 rr2.2.2) tn (rr2.2.1 + 1) (nI 112) 1 (nI 0) (nI 11) rr3 hrr3 (by omega) (by omega) (by omega) (by decide)) cw_X3_38 rfl rfl ⟨Nat.le_of_ble_eq_true rfl, Nat.le_of_ble_eq_true rfl⟩ (Nat.le_of_ble_eq_true rfl) dX3_readOrder_133 ⟨Nat.le_refl _, Nat.le_refl _⟩ (fun H locs hP hS => ?_)
          have := pN_le hrr3 (by omega) (by omega) (by decide)
          refine lv_ifeqB (tgt := 143) hx hb dX3_readOrder_136 (by decide) (fun c136 => ?_) (fun c136 => ?_)
          · refine lv_iconst (v := nI 0) hx hb dX3_readOrder_143 (by decide) ?_
            refine fr_iret hx hb hr hlocks hK hI hS rfl dX3_readOrder_144 ?_ ?_
            · exact (congrArg bi (show rr.1 = false from by (rw [← hrr]; simp only [pO, pOs, pOp, pOh, pNS, pSS, nA, sP, c6, c99, hrr2, c116, c125, hrr3, c136, decide_true, decide_false, Bool.and_true, Bool.true_and, Bool.and_false, Bool.false_and, Bool.or_true, Bool.true_or, Bool.or_false, Bool.false_or, Bool.and_self, Bool.or_self, if_true, if_false, eq_self, Bool.false_eq_true, Bool.true_eq_false, reduceCtorEq, not_true_eq_false, not_false_eq_true, and_true, true_and, and_false, false_and, or_true, true_or, or_false, false_or, and_self, or_self, Int32.add_zero]))).symm
            · refine fP.eqc (congrArg (fun v9 => ptc ct ad B v9 (nI tn) (nI rr.2.1) rr.2.2.2) (show rr.2.2.1 = (nA (upd A 0 rr2.2.2) 1 rr3) from by (rw [← hrr]; simp only [pO, pOs, pOp, pOh, pNS, pSS, nA, sP, c6, c99, hrr2, c116, c125, hrr3, c136, decide_true, decide_false, Bool.and_true, Bool.true_and, Bool.and_false, Bool.false_and, Bool.or_true, Bool.true_or, Bool.or_false, Bool.false_or, Bool.and_self, Bool.or_self, if_true, if_false, eq_self, Bool.false_eq_true, Bool.true_eq_false, reduceCtorEq, not_true_eq_false, not_false_eq_true, and_true, true_and, and_false, false_and, or_true, true_or, or_false, false_or, and_self, or_self, Int32.add_zero])).symm) ?_
              refine fP.eqc (congrArg (fun v9 => ptc ct ad B (nA (upd A 0 rr2.2.2) 1 rr3) (nI tn) (nI v9) rr.2.2.2) (show rr.2.1 = rr3.2.1 from by (rw [← hrr]; simp only [pO, pOs, pOp, pOh, pNS, pSS, nA, sP, c6, c99, hrr2, c116, c125, hrr3, c136, decide_true, decide_false, Bool.and_true, Bool.true_and, Bool.and_false, Bool.false_and, Bool.or_true, Bool.true_or, Bool.or_false, Bool.false_or, Bool.and_self, Bool.or_self, if_true, if_false, eq_self, Bool.false_eq_true, Bool.true_eq_false, reduceCtorEq, not_true_eq_false, not_false_eq_true, and_true, true_and, and_false, false_and, or_true, true_or, or_false, false_or, and_self, or_self, Int32.add_zero])).symm) ?_
              refine fP.eqc (congrArg (fun v9 => ptc ct ad B (nA (upd A 0 rr2.2.2) 1 rr3) (nI tn) (nI rr3.2.1) v9) (show rr.2.2.2 = (nI 112) from by (rw [← hrr]; simp only [pO, pOs, pOp, pOh, pNS, pSS, nA, sP, c6, c99, hrr2, c116, c125, hrr3, c136, decide_true, decide_false, Bool.and_true, Bool.true_and, Bool.and_false, Bool.false_and, Bool.or_true, Bool.true_or, Bool.or_false, Bool.false_or, Bool.and_self, Bool.or_self, if_true, if_false, eq_self, Bool.false_eq_true, Bool.true_eq_false, reduceCtorEq, not_true_eq_false, not_false_eq_true, and_true, true_and, and_false, false_and, or_true, true_or, or_false, false_or, and_self, or_self, Int32.add_zero])).symm) ?_
              exact hP
          · refine lv_iconst (v := nI 1) hx hb dX3_readOrder_139 (by decide) ?_
            refine lv_goto (tgt := 144) hx hb dX3_readOrder_140 (by decide) ?_
            refine fr_iret hx hb hr hlocks hK hI hS rfl dX3_readOrder_144 ?_ ?_
            · exact (congrArg bi (show rr.1 = true from by (rw [← hrr]; simp only [pO, pOs, pOp, pOh, pNS, pSS, nA, sP, c6, c99, hrr2, c116, c125, hrr3, c136, decide_true, decide_false, Bool.and_true, Bool.true_and, Bool.and_false, Bool.false_and, Bool.or_true, Bool.true_or, Bool.or_false, Bool.false_or, Bool.and_self, Bool.or_self, if_true, if_false, eq_self, Bool.false_eq_true, Bool.true_eq_false, reduceCtorEq, not_true_eq_false, not_false_eq_true, and_true, true_and, and_false, false_and, or_true, true_or, or_false, false_or, and_self, or_self, Int32.add_zero]))).symm
            · refine fP.eqc (congrArg (fun v9 => ptc ct ad B v9 (nI tn) (nI rr.2.1) rr.2.2.2) (show rr.2.2.1 = (nA (upd A 0 rr2.2.2) 1 rr3) from by (rw [← hrr]; simp only [pO, pOs, pOp, pOh, pNS, pSS, nA, sP, c6, c99, hrr2, c116, c125, hrr3, c136, decide_true, decide_false, Bool.and_true, Bool.true_and, Bool.and_false, Bool.false_and, Bool.or_true, Bool.true_or, Bool.or_false, Bool.false_or, Bool.and_self, Bool.or_self, if_true, if_false, eq_self, Bool.false_eq_true, Bool.true_eq_false, reduceCtorEq, not_true_eq_false, not_false_eq_true, and_true, true_and, and_false, false_and, or_true, true_or, or_false, false_or, and_self, or_self, Int32.add_zero])).symm) ?_
              refine fP.eqc (congrArg (fun v9 => ptc ct ad B (nA (upd A 0 rr2.2.2) 1 rr3) (nI tn) (nI v9) rr.2.2.2) (show rr.2.1 = rr3.2.1 from by (rw [← hrr]; simp only [pO, pOs, pOp, pOh, pNS, pSS, nA, sP, c6, c99, hrr2, c116, c125, hrr3, c136, decide_true, decide_false, Bool.and_true, Bool.true_and, Bool.and_false, Bool.false_and, Bool.or_true, Bool.true_or, Bool.or_false, Bool.false_or, Bool.and_self, Bool.or_self, if_true, if_false, eq_self, Bool.false_eq_true, Bool.true_eq_false, reduceCtorEq, not_true_eq_false, not_false_eq_true, and_true, true_and, and_false, false_and, or_true, true_or, or_false, false_or, and_self, or_self, Int32.add_zero])).symm) ?_
              refine fP.eqc (congrArg (fun v9 => ptc ct ad B (nA (upd A 0 rr2.2.2) 1 rr3) (nI tn) (nI rr3.2.1) v9) (show rr.2.2.2 = (nI 112) from by (rw [← hrr]; simp only [pO, pOs, pOp, pOh, pNS, pSS, nA, sP, c6, c99, hrr2, c116, c125, hrr3, c136, decide_true, decide_false, Bool.and_true, Bool.true_and, Bool.and_false, Bool.false_and, Bool.or_true, Bool.true_or, Bool.or_false, Bool.false_or, Bool.and_self, Bool.or_self, if_true, if_false, eq_self, Bool.false_eq_true, Bool.true_eq_false, reduceCtorEq, not_true_eq_false, not_false_eq_true, and_true, true_and, and_false, false_and, or_true, true_or, or_false, false_or, and_self, or_self, Int32.add_zero])).symm) ?_
              exact hP
  · refine lv_aload_n hx hb dX3_readOrder_9 rfl (lv_at hl 0 rfl) ?_
    refine lv_bipush (v := nI 115) hx hb dX3_readOrder_10 (by decide) ?_
    have hP := fP.eqc (congrArg (fun v9 => ptc ct ad B A (nI tn) (nI v9) kd) (show (sP B tn p9 (nI 115)) = (p9 + 1) from if_pos c6)) hP
    have := pS_lt c6
    refine pt_p3 hx hb hown htg hK hI hS hP rfl rfl fl_X3_34 dX3_readOrder_12 (fun H locs hP hS => ?_)
    refine lv_aload_n hx hb dX3_readOrder_15 rfl (lv_at hl 0 rfl) ?_
    refine lv_iconst (v := nI 0) hx hb dX3_readOrder_16 (by decide) ?_
    refine lv_iconst (v := nI 1) hx hb dX3_readOrder_17 (by decide) ?_
    refine lv_sipush (v := nI 500) hx hb dX3_readOrder_18 (by decide) ?_
    obtain ⟨rr4, hrr4⟩ : ∃ z9, pN B tn (p9 + 1) (nI 1) (nI 500) = z9 := ⟨_, rfl⟩
    refine pt_cr (As := [.int (nI 0), .int (nI 1), .int (nI 500)]) (rest := []) hx hb hown htg hK hI hS hP hml hl.1 (mX3_readNumber l D ct ad B A tn (p9 + 1) (nI 115) 0 (nI 1) (nI 500) rr4 hrr4 (by omega) (by omega) (by omega) (by decide)) cw_X3_38 rfl rfl ⟨Nat.le_of_ble_eq_true rfl, Nat.le_of_ble_eq_true rfl⟩ (Nat.le_of_ble_eq_true rfl) dX3_readOrder_21 ⟨Nat.le_refl _, Nat.le_refl _⟩ (fun H locs hP hS => ?_)
    have := pN_le hrr4 (by omega) (by omega) (by decide)
    refine lv_ifeqB (tgt := 91) hx hb dX3_readOrder_24 (by decide) (fun c24 => ?_) (fun c24 => ?_)
    · refine lv_iconst (v := nI 0) hx hb dX3_readOrder_91 (by decide) ?_
      refine fr_iret hx hb hr hlocks hK hI hS rfl dX3_readOrder_92 ?_ ?_
      · exact (congrArg bi (show rr.1 = false from by (rw [← hrr]; simp only [pO, pOs, pOp, pOh, pNS, pSS, nA, sP, c6, hrr4, c24, decide_true, decide_false, Bool.and_true, Bool.true_and, Bool.and_false, Bool.false_and, Bool.or_true, Bool.true_or, Bool.or_false, Bool.false_or, Bool.and_self, Bool.or_self, if_true, if_false, eq_self, Bool.false_eq_true, Bool.true_eq_false, reduceCtorEq, not_true_eq_false, not_false_eq_true, and_true, true_and, and_false, false_and, or_true, true_or, or_false, false_or, and_self, or_self, Int32.add_zero]))).symm
      · refine fP.eqc (congrArg (fun v9 => ptc ct ad B v9 (nI tn) (nI rr.2.1) rr.2.2.2) (show rr.2.2.1 = (nA A 0 rr4) from by (rw [← hrr]; simp only [pO, pOs, pOp, pOh, pNS, pSS, nA, sP, c6, hrr4, c24, decide_true, decide_false, Bool.and_true, Bool.true_and, Bool.and_false, Bool.false_and, Bool.or_true, Bool.true_or, Bool.or_false, Bool.false_or, Bool.and_self, Bool.or_self, if_true, if_false, eq_self, Bool.false_eq_true, Bool.true_eq_false, reduceCtorEq, not_true_eq_false, not_false_eq_true, and_true, true_and, and_false, false_and, or_true, true_or, or_false, false_or, and_self, or_self, Int32.add_zero])).symm) ?_
        refine fP.eqc (congrArg (fun v9 => ptc ct ad B (nA A 0 rr4) (nI tn) (nI v9) rr.2.2.2) (show rr.2.1 = rr4.2.1 from by (rw [← hrr]; simp only [pO, pOs, pOp, pOh, pNS, pSS, nA, sP, c6, hrr4, c24, decide_true, decide_false, Bool.and_true, Bool.true_and, Bool.and_false, Bool.false_and, Bool.or_true, Bool.true_or, Bool.or_false, Bool.false_or, Bool.and_self, Bool.or_self, if_true, if_false, eq_self, Bool.false_eq_true, Bool.true_eq_false, reduceCtorEq, not_true_eq_false, not_false_eq_true, and_true, true_and, and_false, false_and, or_true, true_or, or_false, false_or, and_self, or_self, Int32.add_zero])).symm) ?_
        refine fP.eqc (congrArg (fun v9 => ptc ct ad B (nA A 0 rr4) (nI tn) (nI rr4.2.1) v9) (show rr.2.2.2 = (nI 115) from by (rw [← hrr]; simp only [pO, pOs, pOp, pOh, pNS, pSS, nA, sP, c6, hrr4, c24, decide_true, decide_false, Bool.and_true, Bool.true_and, Bool.and_false, Bool.false_and, Bool.or_true, Bool.true_or, Bool.or_false, Bool.false_or, Bool.and_self, Bool.or_self, if_true, if_false, eq_self, Bool.false_eq_true, Bool.true_eq_false, reduceCtorEq, not_true_eq_false, not_false_eq_true, and_true, true_and, and_false, false_and, or_true, true_or, or_false, false_or, and_self, or_self, Int32.add_zero])).symm) ?_
        exact hP
    · refine lv_aload_n hx hb dX3_readOrder_27 rfl (lv_at hl 0 rfl) ?_
      refine lv_bipush (v := nI 64) hx hb dX3_readOrder_28 (by decide) ?_
      have hP := fP.eqc (congrArg (fun v9 => ptc ct ad B v9 (nI tn) (nI rr4.2.1) (nI 115)) (show (nA A 0 rr4) = (upd A 0 rr4.2.2) from if_pos c24)) hP
      refine pt_cr (As := [.int (nI 64)]) (rest := []) hx hb hown htg hK hI hS hP hml hl.1 (mX3_readSign l D ct ad B (upd A 0 rr4.2.2) tn rr4.2.1 (nI 115) (nI 64) (by omega) (by omega)) cw_X3_30 rfl rfl ⟨Nat.le_of_ble_eq_true rfl, Nat.le_of_ble_eq_true rfl⟩ (Nat.le_of_ble_eq_true rfl) dX3_readOrder_30 ⟨Nat.le_refl _, Nat.le_refl _⟩ (fun H locs hP hS => ?_)
      have := sP_le (B := B) (tn := tn) (p := rr4.2.1) (c := (nI 64)) (by omega) (by omega)
      refine lv_ifeqB (tgt := 91) hx hb dX3_readOrder_33 (by decide) (fun c33 => ?_) (fun c33 => ?_)
      · refine lv_iconst (v := nI 0) hx hb dX3_readOrder_91 (by decide) ?_
        refine fr_iret hx hb hr hlocks hK hI hS rfl dX3_readOrder_92 ?_ ?_
        · exact (congrArg bi (show rr.1 = false from by (rw [← hrr]; simp only [pO, pOs, pOp, pOh, pNS, pSS, nA, sP, c6, hrr4, c24, c33, decide_true, decide_false, Bool.and_true, Bool.true_and, Bool.and_false, Bool.false_and, Bool.or_true, Bool.true_or, Bool.or_false, Bool.false_or, Bool.and_self, Bool.or_self, if_true, if_false, eq_self, Bool.false_eq_true, Bool.true_eq_false, reduceCtorEq, not_true_eq_false, not_false_eq_true, and_true, true_and, and_false, false_and, or_true, true_or, or_false, false_or, and_self, or_self, Int32.add_zero]))).symm
        · refine fP.eqc (congrArg (fun v9 => ptc ct ad B v9 (nI tn) (nI rr.2.1) rr.2.2.2) (show rr.2.2.1 = (upd A 0 rr4.2.2) from by (rw [← hrr]; simp only [pO, pOs, pOp, pOh, pNS, pSS, nA, sP, c6, hrr4, c24, c33, decide_true, decide_false, Bool.and_true, Bool.true_and, Bool.and_false, Bool.false_and, Bool.or_true, Bool.true_or, Bool.or_false, Bool.false_or, Bool.and_self, Bool.or_self, if_true, if_false, eq_self, Bool.false_eq_true, Bool.true_eq_false, reduceCtorEq, not_true_eq_false, not_false_eq_true, and_true, true_and, and_false, false_and, or_true, true_or, or_false, false_or, and_self, or_self, Int32.add_zero])).symm) ?_
          refine fP.eqc (congrArg (fun v9 => ptc ct ad B (upd A 0 rr4.2.2) (nI tn) (nI v9) rr.2.2.2) (show rr.2.1 = (sP B tn rr4.2.1 (nI 64)) from by (rw [← hrr]; simp only [pO, pOs, pOp, pOh, pNS, pSS, nA, sP, c6, hrr4, c24, c33, decide_true, decide_false, Bool.and_true, Bool.true_and, Bool.and_false, Bool.false_and, Bool.or_true, Bool.true_or, Bool.or_false, Bool.false_or, Bool.and_self, Bool.or_self, if_true, if_false, eq_self, Bool.false_eq_true, Bool.true_eq_false, reduceCtorEq, not_true_eq_false, not_false_eq_true, and_true, true_and, and_false, false_and, or_true, true_or, or_false, false_or, and_self, or_self, Int32.add_zero])).symm) ?_
          refine fP.eqc (congrArg (fun v9 => ptc ct ad B (upd A 0 rr4.2.2) (nI tn) (nI (sP B tn rr4.2.1 (nI 64))) v9) (show rr.2.2.2 = (nI 115) from by (rw [← hrr]; simp only [pO, pOs, pOp, pOh, pNS, pSS, nA, sP, c6, hrr4, c24, c33, decide_true, decide_false, Bool.and_true, Bool.true_and, Bool.and_false, Bool.false_and, Bool.or_true, Bool.true_or, Bool.or_false, Bool.false_or, Bool.and_self, Bool.or_self, if_true, if_false, eq_self, Bool.false_eq_true, Bool.true_eq_false, reduceCtorEq, not_true_eq_false, not_false_eq_true, and_true, true_and, and_false, false_and, or_true, true_or, or_false, false_or, and_self, or_self, Int32.add_zero])).symm) ?_
          exact hP
      · refine lv_aload_n hx hb dX3_readOrder_36 rfl (lv_at hl 0 rfl) ?_
        refine lv_iconst (v := nI 1) hx hb dX3_readOrder_37 (by decide) ?_
        refine lv_iconst (v := nI 0) hx hb dX3_readOrder_38 (by decide) ?_
        refine lv_bipush (v := nI 23) hx hb dX3_readOrder_39 (by decide) ?_
        have hP := fP.eqc (congrArg (fun v9 => ptc ct ad B (upd A 0 rr4.2.2) (nI tn) (nI v9) (nI 115)) (show (sP B tn rr4.2.1 (nI 64)) = (rr4.2.1 + 1) from if_pos c33)) hP
        have := pS_lt c33
        obtain ⟨rr5, hrr5⟩ : ∃ z9, pN B tn (rr4.2.1 + 1) (nI 0) (nI 23) = z9 := ⟨_, rfl⟩
        refine pt_cr (As := [.int (nI 1), .int (nI 0), .int (nI 23)]) (rest := []) hx hb hown htg hK hI hS hP hml hl.1 (mX3_readNumber l D ct ad B (upd A 0 rr4.2.2) tn (rr4.2.1 + 1) (nI 115) 1 (nI 0) (nI 23) rr5 hrr5 (by omega) (by omega) (by omega) (by decide)) cw_X3_38 rfl rfl ⟨Nat.le_of_ble_eq_true rfl, Nat.le_of_ble_eq_true rfl⟩ (Nat.le_of_ble_eq_true rfl) dX3_readOrder_41 ⟨Nat.le_refl _, Nat.le_refl _⟩ (fun H locs hP hS => ?_)
        have := pN_le hrr5 (by omega) (by omega) (by decide)
        refine lv_ifeqB (tgt := 91) hx hb dX3_readOrder_44 (by decide) (fun c44 => ?_) (fun c44 => ?_)
        · refine lv_iconst (v := nI 0) hx hb dX3_readOrder_91 (by decide) ?_
          refine fr_iret hx hb hr hlocks hK hI hS rfl dX3_readOrder_92 ?_ ?_
          · exact (congrArg bi (show rr.1 = false from by (rw [← hrr]; simp only [pO, pOs, pOp, pOh, pNS, pSS, nA, sP, c6, hrr4, c24, c33, hrr5, c44, decide_true, decide_false, Bool.and_true, Bool.true_and, Bool.and_false, Bool.false_and, Bool.or_true, Bool.true_or, Bool.or_false, Bool.false_or, Bool.and_self, Bool.or_self, if_true, if_false, eq_self, Bool.false_eq_true, Bool.true_eq_false, reduceCtorEq, not_true_eq_false, not_false_eq_true, and_true, true_and, and_false, false_and, or_true, true_or, or_false, false_or, and_self, or_self, Int32.add_zero]))).symm
          · refine fP.eqc (congrArg (fun v9 => ptc ct ad B v9 (nI tn) (nI rr.2.1) rr.2.2.2) (show rr.2.2.1 = (nA (upd A 0 rr4.2.2) 1 rr5) from by (rw [← hrr]; simp only [pO, pOs, pOp, pOh, pNS, pSS, nA, sP, c6, hrr4, c24, c33, hrr5, c44, decide_true, decide_false, Bool.and_true, Bool.true_and, Bool.and_false, Bool.false_and, Bool.or_true, Bool.true_or, Bool.or_false, Bool.false_or, Bool.and_self, Bool.or_self, if_true, if_false, eq_self, Bool.false_eq_true, Bool.true_eq_false, reduceCtorEq, not_true_eq_false, not_false_eq_true, and_true, true_and, and_false, false_and, or_true, true_or, or_false, false_or, and_self, or_self, Int32.add_zero])).symm) ?_
            refine fP.eqc (congrArg (fun v9 => ptc ct ad B (nA (upd A 0 rr4.2.2) 1 rr5) (nI tn) (nI v9) rr.2.2.2) (show rr.2.1 = rr5.2.1 from by (rw [← hrr]; simp only [pO, pOs, pOp, pOh, pNS, pSS, nA, sP, c6, hrr4, c24, c33, hrr5, c44, decide_true, decide_false, Bool.and_true, Bool.true_and, Bool.and_false, Bool.false_and, Bool.or_true, Bool.true_or, Bool.or_false, Bool.false_or, Bool.and_self, Bool.or_self, if_true, if_false, eq_self, Bool.false_eq_true, Bool.true_eq_false, reduceCtorEq, not_true_eq_false, not_false_eq_true, and_true, true_and, and_false, false_and, or_true, true_or, or_false, false_or, and_self, or_self, Int32.add_zero])).symm) ?_
            refine fP.eqc (congrArg (fun v9 => ptc ct ad B (nA (upd A 0 rr4.2.2) 1 rr5) (nI tn) (nI rr5.2.1) v9) (show rr.2.2.2 = (nI 115) from by (rw [← hrr]; simp only [pO, pOs, pOp, pOh, pNS, pSS, nA, sP, c6, hrr4, c24, c33, hrr5, c44, decide_true, decide_false, Bool.and_true, Bool.true_and, Bool.and_false, Bool.false_and, Bool.or_true, Bool.true_or, Bool.or_false, Bool.false_or, Bool.and_self, Bool.or_self, if_true, if_false, eq_self, Bool.false_eq_true, Bool.true_eq_false, reduceCtorEq, not_true_eq_false, not_false_eq_true, and_true, true_and, and_false, false_and, or_true, true_or, or_false, false_or, and_self, or_self, Int32.add_zero])).symm) ?_
            exact hP
        · refine lv_aload_n hx hb dX3_readOrder_47 rfl (lv_at hl 0 rfl) ?_
          refine lv_bipush (v := nI 45) hx hb dX3_readOrder_48 (by decide) ?_
          have hP := fP.eqc (congrArg (fun v9 => ptc ct ad B v9 (nI tn) (nI rr5.2.1) (nI 115)) (show (nA (upd A 0 rr4.2.2) 1 rr5) = (upd (upd A 0 rr4.2.2) 1 rr5.2.2) from if_pos c44)) hP
          refine pt_cr (As := [.int (nI 45)]) (rest := []) hx hb hown htg hK hI hS hP hml hl.1 (mX3_readSign l D ct ad B (upd (upd A 0 rr4.2.2) 1 rr5.2.2) tn rr5.2.1 (nI 115) (nI 45) (by omega) (by omega)) cw_X3_30 rfl rfl ⟨Nat.le_of_ble_eq_true rfl, Nat.le_of_ble_eq_true rfl⟩ (Nat.le_of_ble_eq_true rfl) dX3_readOrder_50 ⟨Nat.le_refl _, Nat.le_refl _⟩ (fun H locs hP hS => ?_)
          have := sP_le (B := B) (tn := tn) (p := rr5.2.1) (c := (nI 45)) (by omega) (by omega)
          refine lv_ifeqB (tgt := 91) hx hb dX3_readOrder_53 (by decide) (fun c53 => ?_) (fun c53 => ?_)
          · refine lv_iconst (v := nI 0) hx hb dX3_readOrder_91 (by decide) ?_
            refine fr_iret hx hb hr hlocks hK hI hS rfl dX3_readOrder_92 ?_ ?_
            · exact (congrArg bi (show rr.1 = false from by (rw [← hrr]; simp only [pO, pOs, pOp, pOh, pNS, pSS, nA, sP, c6, hrr4, c24, c33, hrr5, c44, c53, decide_true, decide_false, Bool.and_true, Bool.true_and, Bool.and_false, Bool.false_and, Bool.or_true, Bool.true_or, Bool.or_false, Bool.false_or, Bool.and_self, Bool.or_self, if_true, if_false, eq_self, Bool.false_eq_true, Bool.true_eq_false, reduceCtorEq, not_true_eq_false, not_false_eq_true, and_true, true_and, and_false, false_and, or_true, true_or, or_false, false_or, and_self, or_self, Int32.add_zero]))).symm
            · refine fP.eqc (congrArg (fun v9 => ptc ct ad B v9 (nI tn) (nI rr.2.1) rr.2.2.2) (show rr.2.2.1 = (upd (upd A 0 rr4.2.2) 1 rr5.2.2) from by (rw [← hrr]; simp only [pO, pOs, pOp, pOh, pNS, pSS, nA, sP, c6, hrr4, c24, c33, hrr5, c44, c53, decide_true, decide_false, Bool.and_true, Bool.true_and, Bool.and_false, Bool.false_and, Bool.or_true, Bool.true_or, Bool.or_false, Bool.false_or, Bool.and_self, Bool.or_self, if_true, if_false, eq_self, Bool.false_eq_true, Bool.true_eq_false, reduceCtorEq, not_true_eq_false, not_false_eq_true, and_true, true_and, and_false, false_and, or_true, true_or, or_false, false_or, and_self, or_self, Int32.add_zero])).symm) ?_
              refine fP.eqc (congrArg (fun v9 => ptc ct ad B (upd (upd A 0 rr4.2.2) 1 rr5.2.2) (nI tn) (nI v9) rr.2.2.2) (show rr.2.1 = (sP B tn rr5.2.1 (nI 45)) from by (rw [← hrr]; simp only [pO, pOs, pOp, pOh, pNS, pSS, nA, sP, c6, hrr4, c24, c33, hrr5, c44, c53, decide_true, decide_false, Bool.and_true, Bool.true_and, Bool.and_false, Bool.false_and, Bool.or_true, Bool.true_or, Bool.or_false, Bool.false_or, Bool.and_self, Bool.or_self, if_true, if_false, eq_self, Bool.false_eq_true, Bool.true_eq_false, reduceCtorEq, not_true_eq_false, not_false_eq_true, and_true, true_and, and_false, false_and, or_true, true_or, or_false, false_or, and_self, or_self, Int32.add_zero])).symm) ?_
              refine fP.eqc (congrArg (fun v9 => ptc ct ad B (upd (upd A 0 rr4.2.2) 1 rr5.2.2) (nI tn) (nI (sP B tn rr5.2.1 (nI 45))) v9) (show rr.2.2.2 = (nI 115) from by (rw [← hrr]; simp only [pO, pOs, pOp, pOh, pNS, pSS, nA, sP, c6, hrr4, c24, c33, hrr5, c44, c53, decide_true, decide_false, Bool.and_true, Bool.true_and, Bool.and_false, Bool.false_and, Bool.or_true, Bool.true_or, Bool.or_false, Bool.false_or, Bool.and_self, Bool.or_self, if_true, if_false, eq_self, Bool.false_eq_true, Bool.true_eq_false, reduceCtorEq, not_true_eq_false, not_false_eq_true, and_true, true_and, and_false, false_and, or_true, true_or, or_false, false_or, and_self, or_self, Int32.add_zero])).symm) ?_
              exact hP
          · refine lv_aload_n hx hb dX3_readOrder_56 rfl (lv_at hl 0 rfl) ?_
            refine lv_iconst (v := nI 2) hx hb dX3_readOrder_57 (by decide) ?_
            refine lv_iconst (v := nI 0) hx hb dX3_readOrder_58 (by decide) ?_
            refine lv_bipush (v := nI 23) hx hb dX3_readOrder_59 (by decide) ?_
            have hP := fP.eqc (congrArg (fun v9 => ptc ct ad B (upd (upd A 0 rr4.2.2) 1 rr5.2.2) (nI tn) (nI v9) (nI 115)) (show (sP B tn rr5.2.1 (nI 45)) = (rr5.2.1 + 1) from if_pos c53)) hP
            have := pS_lt c53
            obtain ⟨rr6, hrr6⟩ : ∃ z9, pN B tn (rr5.2.1 + 1) (nI 0) (nI 23) = z9 := ⟨_, rfl⟩
            refine pt_cr (As := [.int (nI 2), .int (nI 0), .int (nI 23)]) (rest := []) hx hb hown htg hK hI hS hP hml hl.1 (mX3_readNumber l D ct ad B (upd (upd A 0 rr4.2.2) 1 rr5.2.2) tn (rr5.2.1 + 1) (nI 115) 2 (nI 0) (nI 23) rr6 hrr6 (by omega) (by omega) (by omega) (by decide)) cw_X3_38 rfl rfl ⟨Nat.le_of_ble_eq_true rfl, Nat.le_of_ble_eq_true rfl⟩ (Nat.le_of_ble_eq_true rfl) dX3_readOrder_61 ⟨Nat.le_refl _, Nat.le_refl _⟩ (fun H locs hP hS => ?_)
            have := pN_le hrr6 (by omega) (by omega) (by decide)
            refine lv_ifeqB (tgt := 91) hx hb dX3_readOrder_64 (by decide) (fun c64 => ?_) (fun c64 => ?_)
            · refine lv_iconst (v := nI 0) hx hb dX3_readOrder_91 (by decide) ?_
              refine fr_iret hx hb hr hlocks hK hI hS rfl dX3_readOrder_92 ?_ ?_
              · exact (congrArg bi (show rr.1 = false from by (rw [← hrr]; simp only [pO, pOs, pOp, pOh, pNS, pSS, nA, sP, c6, hrr4, c24, c33, hrr5, c44, c53, hrr6, c64, decide_true, decide_false, Bool.and_true, Bool.true_and, Bool.and_false, Bool.false_and, Bool.or_true, Bool.true_or, Bool.or_false, Bool.false_or, Bool.and_self, Bool.or_self, if_true, if_false, eq_self, Bool.false_eq_true, Bool.true_eq_false, reduceCtorEq, not_true_eq_false, not_false_eq_true, and_true, true_and, and_false, false_and, or_true, true_or, or_false, false_or, and_self, or_self, Int32.add_zero]))).symm
              · refine fP.eqc (congrArg (fun v9 => ptc ct ad B v9 (nI tn) (nI rr.2.1) rr.2.2.2) (show rr.2.2.1 = (nA (upd (upd A 0 rr4.2.2) 1 rr5.2.2) 2 rr6) from by (rw [← hrr]; simp only [pO, pOs, pOp, pOh, pNS, pSS, nA, sP, c6, hrr4, c24, c33, hrr5, c44, c53, hrr6, c64, decide_true, decide_false, Bool.and_true, Bool.true_and, Bool.and_false, Bool.false_and, Bool.or_true, Bool.true_or, Bool.or_false, Bool.false_or, Bool.and_self, Bool.or_self, if_true, if_false, eq_self, Bool.false_eq_true, Bool.true_eq_false, reduceCtorEq, not_true_eq_false, not_false_eq_true, and_true, true_and, and_false, false_and, or_true, true_or, or_false, false_or, and_self, or_self, Int32.add_zero])).symm) ?_
                refine fP.eqc (congrArg (fun v9 => ptc ct ad B (nA (upd (upd A 0 rr4.2.2) 1 rr5.2.2) 2 rr6) (nI tn) (nI v9) rr.2.2.2) (show rr.2.1 = rr6.2.1 from by (rw [← hrr]; simp only [pO, pOs, pOp, pOh, pNS, pSS, nA, sP, c6, hrr4, c24, c33, hrr5, c44, c53, hrr6, c64, decide_true, decide_false, Bool.and_true, Bool.true_and, Bool.and_false, Bool.false_and, Bool.or_true, Bool.true_or, Bool.or_false, Bool.false_or, Bool.and_self, Bool.or_self, if_true, if_false, eq_self, Bool.false_eq_true, Bool.true_eq_false, reduceCtorEq, not_true_eq_false, not_false_eq_true, and_true, true_and, and_false, false_and, or_true, true_or, or_false, false_or, and_self, or_self, Int32.add_zero])).symm) ?_
                refine fP.eqc (congrArg (fun v9 => ptc ct ad B (nA (upd (upd A 0 rr4.2.2) 1 rr5.2.2) 2 rr6) (nI tn) (nI rr6.2.1) v9) (show rr.2.2.2 = (nI 115) from by (rw [← hrr]; simp only [pO, pOs, pOp, pOh, pNS, pSS, nA, sP, c6, hrr4, c24, c33, hrr5, c44, c53, hrr6, c64, decide_true, decide_false, Bool.and_true, Bool.true_and, Bool.and_false, Bool.false_and, Bool.or_true, Bool.true_or, Bool.or_false, Bool.false_or, Bool.and_self, Bool.or_self, if_true, if_false, eq_self, Bool.false_eq_true, Bool.true_eq_false, reduceCtorEq, not_true_eq_false, not_false_eq_true, and_true, true_and, and_false, false_and, or_true, true_or, or_false, false_or, and_self, or_self, Int32.add_zero])).symm) ?_
                exact hP
            · refine lv_aload_n hx hb dX3_readOrder_67 rfl (lv_at hl 0 rfl) ?_
              refine lv_bipush (v := nI 42) hx hb dX3_readOrder_68 (by decide) ?_
              have hP := fP.eqc (congrArg (fun v9 => ptc ct ad B v9 (nI tn) (nI rr6.2.1) (nI 115)) (show (nA (upd (upd A 0 rr4.2.2) 1 rr5.2.2) 2 rr6) = (upd (upd (upd A 0 rr4.2.2) 1 rr5.2.2) 2 rr6.2.2) from if_pos c64)) hP
              refine pt_cr (As := [.int (nI 42)]) (rest := []) hx hb hown htg hK hI hS hP hml hl.1 (mX3_readSign l D ct ad B (upd (upd (upd A 0 rr4.2.2) 1 rr5.2.2) 2 rr6.2.2) tn rr6.2.1 (nI 115) (nI 42) (by omega) (by omega)) cw_X3_30 rfl rfl ⟨Nat.le_of_ble_eq_true rfl, Nat.le_of_ble_eq_true rfl⟩ (Nat.le_of_ble_eq_true rfl) dX3_readOrder_70 ⟨Nat.le_refl _, Nat.le_refl _⟩ (fun H locs hP hS => ?_)
              have := sP_le (B := B) (tn := tn) (p := rr6.2.1) (c := (nI 42)) (by omega) (by omega)
              refine lv_ifeqB (tgt := 91) hx hb dX3_readOrder_73 (by decide) (fun c73 => ?_) (fun c73 => ?_)
              · refine lv_iconst (v := nI 0) hx hb dX3_readOrder_91 (by decide) ?_
                refine fr_iret hx hb hr hlocks hK hI hS rfl dX3_readOrder_92 ?_ ?_
                · exact (congrArg bi (show rr.1 = false from by (rw [← hrr]; simp only [pO, pOs, pOp, pOh, pNS, pSS, nA, sP, c6, hrr4, c24, c33, hrr5, c44, c53, hrr6, c64, c73, decide_true, decide_false, Bool.and_true, Bool.true_and, Bool.and_false, Bool.false_and, Bool.or_true, Bool.true_or, Bool.or_false, Bool.false_or, Bool.and_self, Bool.or_self, if_true, if_false, eq_self, Bool.false_eq_true, Bool.true_eq_false, reduceCtorEq, not_true_eq_false, not_false_eq_true, and_true, true_and, and_false, false_and, or_true, true_or, or_false, false_or, and_self, or_self, Int32.add_zero]))).symm
                · refine fP.eqc (congrArg (fun v9 => ptc ct ad B v9 (nI tn) (nI rr.2.1) rr.2.2.2) (show rr.2.2.1 = (upd (upd (upd A 0 rr4.2.2) 1 rr5.2.2) 2 rr6.2.2) from by (rw [← hrr]; simp only [pO, pOs, pOp, pOh, pNS, pSS, nA, sP, c6, hrr4, c24, c33, hrr5, c44, c53, hrr6, c64, c73, decide_true, decide_false, Bool.and_true, Bool.true_and, Bool.and_false, Bool.false_and, Bool.or_true, Bool.true_or, Bool.or_false, Bool.false_or, Bool.and_self, Bool.or_self, if_true, if_false, eq_self, Bool.false_eq_true, Bool.true_eq_false, reduceCtorEq, not_true_eq_false, not_false_eq_true, and_true, true_and, and_false, false_and, or_true, true_or, or_false, false_or, and_self, or_self, Int32.add_zero])).symm) ?_
                  refine fP.eqc (congrArg (fun v9 => ptc ct ad B (upd (upd (upd A 0 rr4.2.2) 1 rr5.2.2) 2 rr6.2.2) (nI tn) (nI v9) rr.2.2.2) (show rr.2.1 = (sP B tn rr6.2.1 (nI 42)) from by (rw [← hrr]; simp only [pO, pOs, pOp, pOh, pNS, pSS, nA, sP, c6, hrr4, c24, c33, hrr5, c44, c53, hrr6, c64, c73, decide_true, decide_false, Bool.and_true, Bool.true_and, Bool.and_false, Bool.false_and, Bool.or_true, Bool.true_or, Bool.or_false, Bool.false_or, Bool.and_self, Bool.or_self, if_true, if_false, eq_self, Bool.false_eq_true, Bool.true_eq_false, reduceCtorEq, not_true_eq_false, not_false_eq_true, and_true, true_and, and_false, false_and, or_true, true_or, or_false, false_or, and_self, or_self, Int32.add_zero])).symm) ?_
                  refine fP.eqc (congrArg (fun v9 => ptc ct ad B (upd (upd (upd A 0 rr4.2.2) 1 rr5.2.2) 2 rr6.2.2) (nI tn) (nI (sP B tn rr6.2.1 (nI 42))) v9) (show rr.2.2.2 = (nI 115) from by (rw [← hrr]; simp only [pO, pOs, pOp, pOh, pNS, pSS, nA, sP, c6, hrr4, c24, c33, hrr5, c44, c53, hrr6, c64, c73, decide_true, decide_false, Bool.and_true, Bool.true_and, Bool.and_false, Bool.false_and, Bool.or_true, Bool.true_or, Bool.or_false, Bool.false_or, Bool.and_self, Bool.or_self, if_true, if_false, eq_self, Bool.false_eq_true, Bool.true_eq_false, reduceCtorEq, not_true_eq_false, not_false_eq_true, and_true, true_and, and_false, false_and, or_true, true_or, or_false, false_or, and_self, or_self, Int32.add_zero])).symm) ?_
                  exact hP
              · refine lv_aload_n hx hb dX3_readOrder_76 rfl (lv_at hl 0 rfl) ?_
                refine lv_iconst (v := nI 3) hx hb dX3_readOrder_77 (by decide) ?_
                refine lv_iconst (v := nI 1) hx hb dX3_readOrder_78 (by decide) ?_
                refine lv_bipush (v := nI 9) hx hb dX3_readOrder_79 (by decide) ?_
                have hP := fP.eqc (congrArg (fun v9 => ptc ct ad B (upd (upd (upd A 0 rr4.2.2) 1 rr5.2.2) 2 rr6.2.2) (nI tn) (nI v9) (nI 115)) (show (sP B tn rr6.2.1 (nI 42)) = (rr6.2.1 + 1) from if_pos c73)) hP
                have := pS_lt c73
                obtain ⟨rr7, hrr7⟩ : ∃ z9, pN B tn (rr6.2.1 + 1) (nI 1) (nI 9) = z9 := ⟨_, rfl⟩
                refine pt_cr (As := [.int (nI 3), .int (nI 1), .int (nI 9)]) (rest := []) hx hb hown htg hK hI hS hP hml hl.1 (mX3_readNumber l D ct ad B (upd (upd (upd A 0 rr4.2.2) 1 rr5.2.2) 2 rr6.2.2) tn (rr6.2.1 + 1) (nI 115) 3 (nI 1) (nI 9) rr7 hrr7 (by omega) (by omega) (by omega) (by decide)) cw_X3_38 rfl rfl ⟨Nat.le_of_ble_eq_true rfl, Nat.le_of_ble_eq_true rfl⟩ (Nat.le_of_ble_eq_true rfl) dX3_readOrder_81 ⟨Nat.le_refl _, Nat.le_refl _⟩ (fun H locs hP hS => ?_)
                have := pN_le hrr7 (by omega) (by omega) (by decide)
                refine lv_ifeqB (tgt := 91) hx hb dX3_readOrder_84 (by decide) (fun c84 => ?_) (fun c84 => ?_)
                · refine lv_iconst (v := nI 0) hx hb dX3_readOrder_91 (by decide) ?_
                  refine fr_iret hx hb hr hlocks hK hI hS rfl dX3_readOrder_92 ?_ ?_
                  · exact (congrArg bi (show rr.1 = false from by (rw [← hrr]; simp only [pO, pOs, pOp, pOh, pNS, pSS, nA, sP, c6, hrr4, c24, c33, hrr5, c44, c53, hrr6, c64, c73, hrr7, c84, decide_true, decide_false, Bool.and_true, Bool.true_and, Bool.and_false, Bool.false_and, Bool.or_true, Bool.true_or, Bool.or_false, Bool.false_or, Bool.and_self, Bool.or_self, if_true, if_false, eq_self, Bool.false_eq_true, Bool.true_eq_false, reduceCtorEq, not_true_eq_false, not_false_eq_true, and_true, true_and, and_false, false_and, or_true, true_or, or_false, false_or, and_self, or_self, Int32.add_zero]))).symm
                  · refine fP.eqc (congrArg (fun v9 => ptc ct ad B v9 (nI tn) (nI rr.2.1) rr.2.2.2) (show rr.2.2.1 = (nA (upd (upd (upd A 0 rr4.2.2) 1 rr5.2.2) 2 rr6.2.2) 3 rr7) from by (rw [← hrr]; simp only [pO, pOs, pOp, pOh, pNS, pSS, nA, sP, c6, hrr4, c24, c33, hrr5, c44, c53, hrr6, c64, c73, hrr7, c84, decide_true, decide_false, Bool.and_true, Bool.true_and, Bool.and_false, Bool.false_and, Bool.or_true, Bool.true_or, Bool.or_false, Bool.false_or, Bool.and_self, Bool.or_self, if_true, if_false, eq_self, Bool.false_eq_true, Bool.true_eq_false, reduceCtorEq, not_true_eq_false, not_false_eq_true, and_true, true_and, and_false, false_and, or_true, true_or, or_false, false_or, and_self, or_self, Int32.add_zero])).symm) ?_
                    refine fP.eqc (congrArg (fun v9 => ptc ct ad B (nA (upd (upd (upd A 0 rr4.2.2) 1 rr5.2.2) 2 rr6.2.2) 3 rr7) (nI tn) (nI v9) rr.2.2.2) (show rr.2.1 = rr7.2.1 from by (rw [← hrr]; simp only [pO, pOs, pOp, pOh, pNS, pSS, nA, sP, c6, hrr4, c24, c33, hrr5, c44, c53, hrr6, c64, c73, hrr7, c84, decide_true, decide_false, Bool.and_true, Bool.true_and, Bool.and_false, Bool.false_and, Bool.or_true, Bool.true_or, Bool.or_false, Bool.false_or, Bool.and_self, Bool.or_self, if_true, if_false, eq_self, Bool.false_eq_true, Bool.true_eq_false, reduceCtorEq, not_true_eq_false, not_false_eq_true, and_true, true_and, and_false, false_and, or_true, true_or, or_false, false_or, and_self, or_self, Int32.add_zero])).symm) ?_
                    refine fP.eqc (congrArg (fun v9 => ptc ct ad B (nA (upd (upd (upd A 0 rr4.2.2) 1 rr5.2.2) 2 rr6.2.2) 3 rr7) (nI tn) (nI rr7.2.1) v9) (show rr.2.2.2 = (nI 115) from by (rw [← hrr]; simp only [pO, pOs, pOp, pOh, pNS, pSS, nA, sP, c6, hrr4, c24, c33, hrr5, c44, c53, hrr6, c64, c73, hrr7, c84, decide_true, decide_false, Bool.and_true, Bool.true_and, Bool.and_false, Bool.false_and, Bool.or_true, Bool.true_or, Bool.or_false, Bool.false_or, Bool.and_self, Bool.or_self, if_true, if_false, eq_self, Bool.false_eq_true, Bool.true_eq_false, reduceCtorEq, not_true_eq_false, not_false_eq_true, and_true, true_and, and_false, false_and, or_true, true_or, or_false, false_or, and_self, or_self, Int32.add_zero])).symm) ?_
                    exact hP
                · refine lv_iconst (v := nI 1) hx hb dX3_readOrder_87 (by decide) ?_
                  refine lv_goto (tgt := 92) hx hb dX3_readOrder_88 (by decide) ?_
                  refine fr_iret hx hb hr hlocks hK hI hS rfl dX3_readOrder_92 ?_ ?_
                  · exact (congrArg bi (show rr.1 = true from by (rw [← hrr]; simp only [pO, pOs, pOp, pOh, pNS, pSS, nA, sP, c6, hrr4, c24, c33, hrr5, c44, c53, hrr6, c64, c73, hrr7, c84, decide_true, decide_false, Bool.and_true, Bool.true_and, Bool.and_false, Bool.false_and, Bool.or_true, Bool.true_or, Bool.or_false, Bool.false_or, Bool.and_self, Bool.or_self, if_true, if_false, eq_self, Bool.false_eq_true, Bool.true_eq_false, reduceCtorEq, not_true_eq_false, not_false_eq_true, and_true, true_and, and_false, false_and, or_true, true_or, or_false, false_or, and_self, or_self, Int32.add_zero]))).symm
                  · refine fP.eqc (congrArg (fun v9 => ptc ct ad B v9 (nI tn) (nI rr.2.1) rr.2.2.2) (show rr.2.2.1 = (nA (upd (upd (upd A 0 rr4.2.2) 1 rr5.2.2) 2 rr6.2.2) 3 rr7) from by (rw [← hrr]; simp only [pO, pOs, pOp, pOh, pNS, pSS, nA, sP, c6, hrr4, c24, c33, hrr5, c44, c53, hrr6, c64, c73, hrr7, c84, decide_true, decide_false, Bool.and_true, Bool.true_and, Bool.and_false, Bool.false_and, Bool.or_true, Bool.true_or, Bool.or_false, Bool.false_or, Bool.and_self, Bool.or_self, if_true, if_false, eq_self, Bool.false_eq_true, Bool.true_eq_false, reduceCtorEq, not_true_eq_false, not_false_eq_true, and_true, true_and, and_false, false_and, or_true, true_or, or_false, false_or, and_self, or_self, Int32.add_zero])).symm) ?_
                    refine fP.eqc (congrArg (fun v9 => ptc ct ad B (nA (upd (upd (upd A 0 rr4.2.2) 1 rr5.2.2) 2 rr6.2.2) 3 rr7) (nI tn) (nI v9) rr.2.2.2) (show rr.2.1 = rr7.2.1 from by (rw [← hrr]; simp only [pO, pOs, pOp, pOh, pNS, pSS, nA, sP, c6, hrr4, c24, c33, hrr5, c44, c53, hrr6, c64, c73, hrr7, c84, decide_true, decide_false, Bool.and_true, Bool.true_and, Bool.and_false, Bool.false_and, Bool.or_true, Bool.true_or, Bool.or_false, Bool.false_or, Bool.and_self, Bool.or_self, if_true, if_false, eq_self, Bool.false_eq_true, Bool.true_eq_false, reduceCtorEq, not_true_eq_false, not_false_eq_true, and_true, true_and, and_false, false_and, or_true, true_or, or_false, false_or, and_self, or_self, Int32.add_zero])).symm) ?_
                    refine fP.eqc (congrArg (fun v9 => ptc ct ad B (nA (upd (upd (upd A 0 rr4.2.2) 1 rr5.2.2) 2 rr6.2.2) 3 rr7) (nI tn) (nI rr7.2.1) v9) (show rr.2.2.2 = (nI 115) from by (rw [← hrr]; simp only [pO, pOs, pOp, pOh, pNS, pSS, nA, sP, c6, hrr4, c24, c33, hrr5, c44, c53, hrr6, c64, c73, hrr7, c84, decide_true, decide_false, Bool.and_true, Bool.true_and, Bool.and_false, Bool.false_and, Bool.or_true, Bool.true_or, Bool.or_false, Bool.false_or, Bool.and_self, Bool.or_self, if_true, if_false, eq_self, Bool.false_eq_true, Bool.true_eq_false, reduceCtorEq, not_true_eq_false, not_false_eq_true, and_true, true_and, and_false, false_and, or_true, true_or, or_false, false_or, and_self, or_self, Int32.add_zero])).symm) ?_
                    exact hP
set_option maxRecDepth 100000 in
set_option maxHeartbeats 4000000 in
theorem mX3_readWhole (l : Launch) (D : va_G) (ct : Nat → ClassId) (ad : Nat → Nat) (B A : Nat → Int32) (tn p9 : Nat) (kd : Int32)  (rr : Bool × Nat × (Nat → Int32) × Int32) (hrr : pW B tn 60 0 A kd = rr) (htn : tn ≤ 60) : FMet l yX3_readWhole cX3_readWhole 2 (some .boolean) 3 66 D ct 3 ad [.ref (ad 0)] (ptc ct ad B A (nI tn) (nI p9) kd) (some (.int (bi rr.1))) (ptc ct ad B rr.2.2.1 (nI tn) (nI rr.2.1) rr.2.2.2) := by
  refine FMet.of (by decide +kernel) (Nat.le_of_ble_eq_true rfl) ?_
  intro p e s m args below meth c ls hx hb hr hml hown hlocks htg hK hI hP hS hl
  have hl : lv_has ls 2 [(0, .ref (ad 0))] := hl
  refine lv_aload_n hx hb dX3_readWhole_0 rfl (lv_at hl 0 rfl) ?_
  refine lv_iconst (v := nI 0) hx hb dX3_readWhole_1 (by decide) ?_
  refine pt_p2 hx hb hown htg hK hI hS hP fl_X3_19 dX3_readWhole_2 (fun H locs hP hS => ?_)
  refine lv_iconst (v := nI 0) hx hb dX3_readWhole_5 (by decide) ?_
  refine lv_istore_n (lv' := [(1, .int (nI 0)), (0, .ref (ad 0))]) hx hb dX3_readWhole_6 rfl hl (by decide) rfl (fun ls hl => ?_)
  have lp7 : ∀ (fu7 : Nat) (f : Nat) (i : Nat) (j : Nat) (A1 : Nat → Int32) (k1 : Int32), f + i = 60 → j ≤ 60 → pW B tn f j A1 k1 = rr → f < fu7 → ∀ (H : Heap) (locs : List Loc), fP D 3 ad (ptc ct ad B A1 (nI tn) (nI j) k1) H → va_S (fA 3 ad) s.heap H locs → ∀ (ls : Array Slot), lv_has ls 2 [(1, .int (nI i)), (0, .ref (ad 0))] → W p l e ({ frames := 3, cells := 0, slots := 0, locals := 66 }) s m args below meth c H locs 0 0 (MQ below (fQ D ct 3 ad (some (.int (bi rr.1))) (ptc ct ad B rr.2.2.1 (nI tn) (nI rr.2.1) rr.2.2.2)) args s 0 0 (fA 3 ad)) (F0 m 7 ls []) := by
    intro fu7
    induction fu7 with
    | zero => intro f i j A1 k1 hfi hp1 hres hfu7; exact absurd hfu7 (Nat.not_lt_zero _)
    | succ fu7 ih7 =>
      intro f i j A1 k1 hfi hp1 hres hfu7 H locs hP hS ls hl
      refine lv_iload_n hx hb dX3_readWhole_7 rfl (lv_at hl 0 rfl) ?_
      refine lv_bipush (v := nI 60) hx hb dX3_readWhole_8 (by decide) ?_
      refine lv_icmp_geN (tgt := 52) hx hb (by omega) (by omega) dX3_readWhole_10 (by decide) (fun c10 => ?_) (fun c10 => ?_)
      · have hr9 : rr = (false, j, A1, k1) := by rw [← hres, show f = 0 from by omega]; rfl
        refine lv_iconst (v := nI 0) hx hb dX3_readWhole_52 (by decide) ?_
        refine fr_iret hx hb hr hlocks hK hI hS rfl dX3_readWhole_53 ?_ ?_
        · exact (congrArg bi (show rr.1 = false from by rw [hr9])).symm
        · refine fP.eqc (congrArg (fun v9 => ptc ct ad B v9 (nI tn) (nI rr.2.1) rr.2.2.2) (show rr.2.2.1 = A1 from by rw [hr9]).symm) ?_
          refine fP.eqc (congrArg (fun v9 => ptc ct ad B A1 (nI tn) (nI v9) rr.2.2.2) (show rr.2.1 = j from by rw [hr9]).symm) ?_
          refine fP.eqc (congrArg (fun v9 => ptc ct ad B A1 (nI tn) (nI j) v9) (show rr.2.2.2 = k1 from by rw [hr9]).symm) ?_
          exact hP
      · refine lv_aload_n hx hb dX3_readWhole_13 rfl (lv_at hl 1 rfl) ?_
        obtain ⟨rr1, hrr1⟩ : ∃ z9, pO B tn j A1 k1 = z9 := ⟨_, rfl⟩
        refine pt_cr (As := []) (rest := []) hx hb hown htg hK hI hS hP hml hl.1 (mX3_readOrder l D ct ad B A1 tn j k1 rr1 hrr1 (by omega) (by omega)) cw_X3_23 rfl rfl ⟨Nat.le_of_ble_eq_true rfl, Nat.le_of_ble_eq_true rfl⟩ (Nat.le_of_ble_eq_true rfl) dX3_readWhole_14 ⟨Nat.le_refl _, Nat.le_refl _⟩ (fun H locs hP hS => ?_)
        have := pO_le hrr1 (by omega) (by omega)
        refine lv_ifneB (tgt := 22) hx hb dX3_readWhole_17 (by decide) (fun c17 => ?_) (fun c17 => ?_)
        · refine lv_aload_n hx hb dX3_readWhole_22 rfl (lv_at hl 1 rfl) ?_
          refine pt_g2 hx hb hown htg hK hP fl_X3_19 dX3_readWhole_23 ?_
          refine lv_aload_n hx hb dX3_readWhole_26 rfl (lv_at hl 1 rfl) ?_
          refine pt_g1 hx hb hown htg hK hP fl_X3_27 dX3_readWhole_27 ?_
          refine lv_icmp_ltN (tgt := 35) hx hb (by omega) (by omega) dX3_readWhole_30 (by decide) (fun c30 => ?_) (fun c30 => ?_)
          · refine lv_aload_n hx hb dX3_readWhole_35 rfl (lv_at hl 1 rfl) ?_
            refine lv_bipush (v := nI 59) hx hb dX3_readWhole_36 (by decide) ?_
            refine pt_cr (As := [.int (nI 59)]) (rest := []) hx hb hown htg hK hI hS hP hml hl.1 (mX3_readSign l D ct ad B rr1.2.2.1 tn rr1.2.1 rr1.2.2.2 (nI 59) (by omega) (by omega)) cw_X3_30 rfl rfl ⟨Nat.le_of_ble_eq_true rfl, Nat.le_of_ble_eq_true rfl⟩ (Nat.le_of_ble_eq_true rfl) dX3_readWhole_38 ⟨Nat.le_refl _, Nat.le_refl _⟩ (fun H locs hP hS => ?_)
            have := sP_le (B := B) (tn := tn) (p := rr1.2.1) (c := (nI 59)) (by omega) (by omega)
            refine lv_ifneB (tgt := 46) hx hb dX3_readWhole_41 (by decide) (fun c41 => ?_) (fun c41 => ?_)
            · have hP := fP.eqc (congrArg (fun v9 => ptc ct ad B rr1.2.2.1 (nI tn) (nI v9) rr1.2.2.2) (show (sP B tn rr1.2.1 (nI 59)) = (rr1.2.1 + 1) from if_pos c41)) hP
              have := pS_lt c41
              refine lv_iinc (v := nI (i + 1)) (lv' := [(1, .int (nI (i + 1))), (0, .ref (ad 0))]) hx hb dX3_readWhole_46 hl (k := 0) rfl (nI_add i 1) (by decide) rfl (fun ls hl => ?_)
              refine lv_goto (tgt := 7) hx hb dX3_readWhole_49 (by decide) ?_
              have hl := lv_sub (l' := [(1, .int (nI (i + 1))), (0, .ref (ad 0))]) hl [0, 1] rfl
              exact ih7 (f - 1) (i + 1) (rr1.2.1 + 1) rr1.2.2.1 rr1.2.2.2 (by omega) (by have := pS_lt c41; omega) ((pW_go (by omega) hrr1 c17 c30 c41).symm.trans hres) (by omega) _ _ hP hS _ hl
            · have hP := fP.eqc (congrArg (fun v9 => ptc ct ad B rr1.2.2.1 (nI tn) (nI v9) rr1.2.2.2) (show (sP B tn rr1.2.1 (nI 59)) = rr1.2.1 from if_neg (by rw [c41]; exact Bool.false_ne_true))) hP
              have hr9 : rr = (false, rr1.2) := hres.symm.trans (pW_3 (by omega) hrr1 c17 c30 c41)
              refine lv_iconst (v := nI 0) hx hb dX3_readWhole_44 (by decide) ?_
              refine fr_iret hx hb hr hlocks hK hI hS rfl dX3_readWhole_45 ?_ ?_
              · exact (congrArg bi (show rr.1 = false from by rw [hr9])).symm
              · refine fP.eqc (congrArg (fun v9 => ptc ct ad B v9 (nI tn) (nI rr.2.1) rr.2.2.2) (show rr.2.2.1 = rr1.2.2.1 from by rw [hr9]).symm) ?_
                refine fP.eqc (congrArg (fun v9 => ptc ct ad B rr1.2.2.1 (nI tn) (nI v9) rr.2.2.2) (show rr.2.1 = rr1.2.1 from by rw [hr9]).symm) ?_
                refine fP.eqc (congrArg (fun v9 => ptc ct ad B rr1.2.2.1 (nI tn) (nI rr1.2.1) v9) (show rr.2.2.2 = rr1.2.2.2 from by rw [hr9]).symm) ?_
                exact hP
          · have hr9 : rr = (true, rr1.2) := hres.symm.trans (pW_2 (by omega) hrr1 c17 c30)
            refine lv_iconst (v := nI 1) hx hb dX3_readWhole_33 (by decide) ?_
            refine fr_iret hx hb hr hlocks hK hI hS rfl dX3_readWhole_34 ?_ ?_
            · exact (congrArg bi (show rr.1 = true from by rw [hr9])).symm
            · refine fP.eqc (congrArg (fun v9 => ptc ct ad B v9 (nI tn) (nI rr.2.1) rr.2.2.2) (show rr.2.2.1 = rr1.2.2.1 from by rw [hr9]).symm) ?_
              refine fP.eqc (congrArg (fun v9 => ptc ct ad B rr1.2.2.1 (nI tn) (nI v9) rr.2.2.2) (show rr.2.1 = rr1.2.1 from by rw [hr9]).symm) ?_
              refine fP.eqc (congrArg (fun v9 => ptc ct ad B rr1.2.2.1 (nI tn) (nI rr1.2.1) v9) (show rr.2.2.2 = rr1.2.2.2 from by rw [hr9]).symm) ?_
              exact hP
        · have hr9 : rr = (false, rr1.2) := hres.symm.trans (pW_1 (by omega) hrr1 c17)
          refine lv_iconst (v := nI 0) hx hb dX3_readWhole_20 (by decide) ?_
          refine fr_iret hx hb hr hlocks hK hI hS rfl dX3_readWhole_21 ?_ ?_
          · exact (congrArg bi (show rr.1 = false from by rw [hr9])).symm
          · refine fP.eqc (congrArg (fun v9 => ptc ct ad B v9 (nI tn) (nI rr.2.1) rr.2.2.2) (show rr.2.2.1 = rr1.2.2.1 from by rw [hr9]).symm) ?_
            refine fP.eqc (congrArg (fun v9 => ptc ct ad B rr1.2.2.1 (nI tn) (nI v9) rr.2.2.2) (show rr.2.1 = rr1.2.1 from by rw [hr9]).symm) ?_
            refine fP.eqc (congrArg (fun v9 => ptc ct ad B rr1.2.2.1 (nI tn) (nI rr1.2.1) v9) (show rr.2.2.2 = rr1.2.2.2 from by rw [hr9]).symm) ?_
            exact hP
  have hl := lv_sub (l' := [(1, .int (nI 0)), (0, .ref (ad 0))]) hl [0, 1] rfl
  exact lp7 (60 + 1) 60 0 0 A kd (rfl) (by omega) (hrr) (Nat.lt_succ_self _) _ _ hP hS _ hl
