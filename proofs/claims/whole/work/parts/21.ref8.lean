/-! THE REFERENCE: the buffer read -/
set_option maxRecDepth 100000 in
set_option maxHeartbeats 4000000 in
theorem m6_readBuffer (l : Launch) (D : va_G) (ct : Nat → ClassId) (ad : Nat → Nat) (Z g : Nat → Int32) (hs : Int64) (F : Nat → Nat → Int32)  (tn : Nat) (rr : Nat × Nat × Nat × (Nat → Int32)) (hrr : rbR (F 6) tn (F 7) = rr) (ht : g 8 = nI tn) (htn : tn ≤ 60) : FMet l yX6_readBuffer cX6_readBuffer 2 (some .int) 4 89 D ct 8 ad [.ref (ad 0)] (mdc ct ad Z g hs F) (some (.int (ow rr.2.2.1))) (mdc ct ad Z (upd (upd (upd g 10 (nI rr.1)) 11 (nI rr.2.1)) 12 (ow rr.2.2.1)) hs (va_up F 7 rr.2.2.2)) := by
  refine FMet.of (by decide +kernel) (Nat.le_of_ble_eq_true rfl) ?_
  intro p e s m args below meth c ls hx hb hr hml hown hlocks htg hK hI hP hS hl
  have hl : lv_has ls 2 [(0, .ref (ad 0))] := hl
  refine lv_aload_n hx hb dX6_readBuffer_0 rfl (lv_at hl 0 rfl) ?_
  refine lv_iconst (v := nI 0) hx hb dX6_readBuffer_1 (by decide) ?_
  refine md_p10 hx hb hown htg hK hI hS hP dX6_readBuffer_2 (fun H locs hP hS => ?_)
  refine lv_aload_n hx hb dX6_readBuffer_5 rfl (lv_at hl 0 rfl) ?_
  refine lv_iconst (v := nI 0) hx hb dX6_readBuffer_6 (by decide) ?_
  refine md_p11 hx hb hown htg hK hI hS hP dX6_readBuffer_7 (fun H locs hP hS => ?_)
  refine lv_aload_n hx hb dX6_readBuffer_10 rfl (lv_at hl 0 rfl) ?_
  refine lv_iconst (v := -1) hx hb dX6_readBuffer_11 (by decide) ?_
  refine md_p12 hx hb hown htg hK hI hS hP dX6_readBuffer_12 (fun H locs hP hS => ?_)
  refine lv_iconst (v := nI 1) hx hb dX6_readBuffer_15 (by decide) ?_
  refine lv_istore_n (lv' := [(1, .int (nI 1)), (0, .ref (ad 0))]) hx hb dX6_readBuffer_16 rfl hl (by decide) rfl (fun ls hl => ?_)
  have lp17 : ∀ (fu17 : Nat) (f : Nat) (o : Nat) (j : Nat) (x : Nat) (O : Nat → Int32) (mb : Bool), pI tn j x → (mb = true → x = 99 ∧ 3 * o ≤ j ∧ o + f = 22) → (if mb = true then rbL (F 6) tn f o j O else (o, j, x, O)) = rr → f < fu17 → ∀ (H : Heap) (locs : List Loc), fP D 8 ad (mdc ct ad Z (upd (upd (upd g 10 (nI o)) 11 (nI j)) 12 (ow x)) hs (va_up F 7 O)) H → va_S (fA 8 ad) s.heap H locs → ∀ (ls : Array Slot), lv_has ls 2 [(1, .int (bi mb)), (0, .ref (ad 0))] → W p l e ({ frames := 4, cells := 0, slots := 0, locals := 89 }) s m args below meth c H locs 0 0 (MQ below (fQ D ct 8 ad (some (.int (ow rr.2.2.1))) (mdc ct ad Z (upd (upd (upd g 10 (nI rr.1)) 11 (nI rr.2.1)) 12 (ow rr.2.2.1)) hs (va_up F 7 rr.2.2.2))) args s 0 0 (fA 8 ad)) (F0 m 17 ls []) := by
    intro fu17
    induction fu17 with
    | zero => intro f o j x O mb hpi hm hres hfu17; exact absurd hfu17 (Nat.not_lt_zero _)
    | succ fu17 ih17 =>
      intro f o j x O mb hpi hm hres hfu17 H locs hP hS ls hl
      refine lv_iload_n hx hb dX6_readBuffer_17 rfl (lv_at hl 0 rfl) ?_
      refine lv_ifeqB (tgt := 89) hx hb dX6_readBuffer_18 (by decide) (fun c18 => ?_) (fun c18 => ?_)
      · have hr9 : rr = (o, j, x, O) := by rw [← hres, if_neg (by rw [c18]; exact Bool.false_ne_true)]
        refine lv_aload_n hx hb dX6_readBuffer_89 rfl (lv_at hl 1 rfl) ?_
        refine md_g12 (v := ow x) hx hb hown htg hK hP rfl dX6_readBuffer_90 ?_
        refine fr_iret hx hb hr hlocks hK hI hS rfl dX6_readBuffer_93 ?_ ?_
        · rw [hr9]
        · refine fP.eqc (congrArg (fun v9 => mdc ct ad Z v9 hs (va_up F 7 rr.2.2.2)) (show (upd (upd (upd g 10 (nI rr.1)) 11 (nI rr.2.1)) 12 (ow rr.2.2.1)) = (upd (upd (upd g 10 (nI o)) 11 (nI j)) 12 (ow x)) from by rw [hr9]).symm) ?_
          refine fP.eqc (congrArg (fun v9 => mdc ct ad Z (upd (upd (upd g 10 (nI o)) 11 (nI j)) 12 (ow x)) hs v9) (show (va_up F 7 rr.2.2.2) = (va_up F 7 O) from by rw [hr9]).symm) ?_
          exact hP
      · obtain ⟨hx9, h3o, hof⟩ := hm c18
        have hj1 := hpi.1
        have hres2 : rbL (F 6) tn f o j O = rr := by rw [if_pos c18] at hres; exact hres
        subst hx9
        have hj2 := hpi.2.1 rfl
        refine lv_aload_n hx hb dX6_readBuffer_21 rfl (lv_at hl 1 rfl) ?_
        obtain ⟨rr1, hrr1⟩ : ∃ z9, roR ((F 6)) tn j 99 (O) o = z9 := ⟨_, rfl⟩
        refine md_cV0 (As := []) (rest := []) hx hb hown htg hK hI hS hP hml hl.1 (m6_readOrder l D ct ad _ _ _ _ j 99 tn o rr1 hrr1 ht (by omega) hpi rfl (by omega)) cw_X6_154 rfl rfl ⟨Nat.le_of_ble_eq_true rfl, Nat.le_of_ble_eq_true rfl⟩ (Nat.le_of_ble_eq_true rfl) dX6_readBuffer_22 ⟨Nat.le_refl _, Nat.le_refl _⟩ (fun H locs hP hS => ?_)
        have hgo := roR_g hrr1 htn hpi
        have hpi1 := roR_w hrr1 htn hpi
        have hp11 := hpi1.1
        have hp12 := hpi1.2.2
        refine lv_aload_n hx hb dX6_readBuffer_25 rfl (lv_at hl 1 rfl) ?_
        refine md_g12 (v := ow rr1.2.1) hx hb hown htg hK hP rfl dX6_readBuffer_26 ?_
        refine lv_iconst (v := -1) hx hb dX6_readBuffer_29 (by decide) ?_
        refine lv_icmp_ne (tgt := 48) hx hb dX6_readBuffer_30 (by decide) (fun c30 => ?_) (fun c30 => ?_)
        · refine lv_iconst (v := nI 0) hx hb dX6_readBuffer_48 (by decide) ?_
          refine lv_istore_n (lv' := [(1, .int (nI 0)), (0, .ref (ad 0))]) hx hb dX6_readBuffer_49 rfl hl (by decide) rfl (fun ls hl => ?_)
          refine lv_iload_n hx hb dX6_readBuffer_50 rfl (lv_at hl 0 rfl) ?_
          refine lv_if_eq (tgt := 17) hx hb dX6_readBuffer_51 (by decide) (fun _ => ?_) (fun h => absurd (by decide) h)
          have hl := lv_sub (l' := [(1, .int (nI 0)), (0, .ref (ad 0))]) hl [0, 1] rfl
          have le1 : Value.int (nI 0) = Value.int (bi false) := by rfl
          have hl := lv_hasE hl (lcons le1 (lcons rfl rfl))
          have hP := fP.eqc (congrArg (fun v9 => mdc ct ad Z v9 hs (va_up (va_up F 7 O) 7 rr1.2.2)) (show (upd (upd (upd (upd g 10 (nI o)) 10 (nI (o + 1))) 11 (nI rr1.1)) 12 (ow rr1.2.1)) = (upd (upd (upd g 10 (nI (o + 1))) 11 (nI rr1.1)) 12 (ow rr1.2.1)) from by first | (rw [upd_upd]; done) | (rw [va_up_up]; done) | rfl)) hP
          have hP := fP.eqc (congrArg (fun v9 => mdc ct ad Z (upd (upd (upd g 10 (nI (o + 1))) 11 (nI rr1.1)) 12 (ow rr1.2.1)) hs v9) (show (va_up (va_up F 7 O) 7 rr1.2.2) = (va_up F 7 rr1.2.2) from by first | (rw [upd_upd]; done) | (rw [va_up_up]; done) | rfl)) hP
          exact ih17 (f - 1) (o + 1) rr1.1 rr1.2.1 rr1.2.2 false (hpi1) (fun q => absurd q Bool.false_ne_true) ((if_neg Bool.false_ne_true).trans ((rbL_end (by omega) hrr1 (fun q => c30 (by rw [q.1]; rfl))).symm.trans hres2)) (by omega) _ _ hP hS _ hl
        · have h99 := ow_m hp12 c30
          have hg2 := hgo h99
          refine lv_aload_n hx hb dX6_readBuffer_33 rfl (lv_at hl 1 rfl) ?_
          refine md_g11 (v := nI rr1.1) hx hb hown htg hK hP rfl dX6_readBuffer_34 ?_
          refine lv_aload_n hx hb dX6_readBuffer_37 rfl (lv_at hl 1 rfl) ?_
          refine md_g8 (v := g 8) hx hb hown htg hK hP rfl dX6_readBuffer_38 ?_
          refine lv_teq ht ?_
          refine lv_icmp_geN (tgt := 48) hx hb (by omega) (by omega) dX6_readBuffer_41 (by decide) (fun c41 => ?_) (fun c41 => ?_)
          · refine lv_iconst (v := nI 0) hx hb dX6_readBuffer_48 (by decide) ?_
            refine lv_istore_n (lv' := [(1, .int (nI 0)), (0, .ref (ad 0))]) hx hb dX6_readBuffer_49 rfl hl (by decide) rfl (fun ls hl => ?_)
            refine lv_iload_n hx hb dX6_readBuffer_50 rfl (lv_at hl 0 rfl) ?_
            refine lv_if_eq (tgt := 17) hx hb dX6_readBuffer_51 (by decide) (fun _ => ?_) (fun h => absurd (by decide) h)
            have hl := lv_sub (l' := [(1, .int (nI 0)), (0, .ref (ad 0))]) hl [0, 1] rfl
            have le1 : Value.int (nI 0) = Value.int (bi false) := by rfl
            have hl := lv_hasE hl (lcons le1 (lcons rfl rfl))
            have hP := fP.eqc (congrArg (fun v9 => mdc ct ad Z v9 hs (va_up (va_up F 7 O) 7 rr1.2.2)) (show (upd (upd (upd (upd g 10 (nI o)) 10 (nI (o + 1))) 11 (nI rr1.1)) 12 (ow rr1.2.1)) = (upd (upd (upd g 10 (nI (o + 1))) 11 (nI rr1.1)) 12 (ow rr1.2.1)) from by first | (rw [upd_upd]; done) | (rw [va_up_up]; done) | rfl)) hP
            have hP := fP.eqc (congrArg (fun v9 => mdc ct ad Z (upd (upd (upd g 10 (nI (o + 1))) 11 (nI rr1.1)) 12 (ow rr1.2.1)) hs v9) (show (va_up (va_up F 7 O) 7 rr1.2.2) = (va_up F 7 rr1.2.2) from by first | (rw [upd_upd]; done) | (rw [va_up_up]; done) | rfl)) hP
            exact ih17 (f - 1) (o + 1) rr1.1 rr1.2.1 rr1.2.2 false (hpi1) (fun q => absurd q Bool.false_ne_true) ((if_neg Bool.false_ne_true).trans ((rbL_end (by omega) hrr1 (fun q => by omega)).symm.trans hres2)) (by omega) _ _ hP hS _ hl
          · refine lv_iconst (v := nI 1) hx hb dX6_readBuffer_44 (by decide) ?_
            refine lv_goto (tgt := 49) hx hb dX6_readBuffer_45 (by decide) ?_
            refine lv_istore_n (lv' := [(1, .int (nI 1)), (0, .ref (ad 0))]) hx hb dX6_readBuffer_49 rfl hl (by decide) rfl (fun ls hl => ?_)
            refine lv_iload_n hx hb dX6_readBuffer_50 rfl (lv_at hl 0 rfl) ?_
            refine lv_if_eq (tgt := 17) hx hb dX6_readBuffer_51 (by decide) (fun h => absurd h (by decide)) (fun _ => ?_)
            refine lv_aload_n hx hb dX6_readBuffer_54 rfl (lv_at hl 1 rfl) ?_
            refine lv_aload_n hx hb dX6_readBuffer_55 rfl (lv_at hl 1 rfl) ?_
            refine md_cVr (As := []) (rest := [.ref (ad 0)]) hx hb hown htg hK hI hS hP hml hl.1 (m6_letter l D ct ad _ _ _ _ rr1.1 rr1.2.1 tn ht (by omega) (roR_w hrr1 (by omega) hpi)) cw_X6_138 rfl rfl ⟨Nat.le_of_ble_eq_true rfl, Nat.le_of_ble_eq_true rfl⟩ (Nat.le_of_ble_eq_true rfl) dX6_readBuffer_56 ⟨Nat.le_refl _, Nat.le_refl _⟩ (fun H locs hP hS => ?_)
            refine lv_teq (y := ltr ((F 6)) tn rr1.1) rfl ?_
            refine lv_bipush (v := nI 59) hx hb dX6_readBuffer_59 (by decide) ?_
            refine lv_icmp_ne (tgt := 68) hx hb dX6_readBuffer_61 (by decide) (fun c61 => ?_) (fun c61 => ?_)
            · refine lv_iconst (v := nI 0) hx hb dX6_readBuffer_68 (by decide) ?_
              refine md_cV0 (As := [.int (nI 0)]) (rest := []) hx hb hown htg hK hI hS hP hml hl.1 (m6_wants l D ct ad _ _ _ _ false rr1.1 rr1.2.1 tn (by omega) (roR_w hrr1 (by omega) hpi)) cw_X6_141 rfl rfl ⟨Nat.le_of_ble_eq_true rfl, Nat.le_of_ble_eq_true rfl⟩ (Nat.le_of_ble_eq_true rfl) dX6_readBuffer_69 ⟨Nat.le_refl _, Nat.le_refl _⟩ (fun H locs hP hS => ?_)
              have e1 : wnP rr1.1 rr1.2.1 = rr1.1 + 1 := if_pos h99
              have e2 : wnW rr1.1 rr1.2.1 false = rr1.1 := by unfold wnW; rw [if_pos h99]; rfl
              refine lv_aload_n hx hb dX6_readBuffer_72 rfl (lv_at hl 1 rfl) ?_
              refine md_g12 (v := ow (wnW rr1.1 rr1.2.1 false)) hx hb hown htg hK hP rfl dX6_readBuffer_73 ?_
              refine lv_iconst (v := -1) hx hb dX6_readBuffer_76 (by decide) ?_
              refine lv_icmp_ne (tgt := 84) hx hb dX6_readBuffer_77 (by decide) (fun _ => ?_) (fun h => absurd h (by rw [e2, ow_n (by omega)]; exact nI_nm1 (by omega)))
              refine lv_iconst (v := nI 0) hx hb dX6_readBuffer_84 (by decide) ?_
              refine lv_istore_n (lv' := [(1, .int (nI 0)), (0, .ref (ad 0))]) hx hb dX6_readBuffer_85 rfl hl (by decide) rfl (fun ls hl => ?_)
              refine lv_goto (tgt := 17) hx hb dX6_readBuffer_86 (by decide) ?_
              have hl := lv_sub (l' := [(1, .int (nI 0)), (0, .ref (ad 0))]) hl [0, 1] rfl
              have le1 : Value.int (nI 0) = Value.int (bi false) := by rfl
              have hl := lv_hasE hl (lcons le1 (lcons rfl rfl))
              have hP := fP.eqc (congrArg (fun v9 => mdc ct ad Z v9 hs (va_up (va_up F 7 O) 7 rr1.2.2)) (show (upd (upd (upd (upd g 10 (nI o)) 10 (nI (o + 1))) 11 (nI (wnP rr1.1 rr1.2.1))) 12 (ow (wnW rr1.1 rr1.2.1 false))) = (upd (upd (upd g 10 (nI (o + 1))) 11 (nI (wnP rr1.1 rr1.2.1))) 12 (ow (wnW rr1.1 rr1.2.1 false))) from by first | (rw [upd_upd]; done) | (rw [va_up_up]; done) | rfl)) hP
              have hP := fP.eqc (congrArg (fun v9 => mdc ct ad Z (upd (upd (upd g 10 (nI (o + 1))) 11 (nI (wnP rr1.1 rr1.2.1))) 12 (ow (wnW rr1.1 rr1.2.1 false))) hs v9) (show (va_up (va_up F 7 O) 7 rr1.2.2) = (va_up F 7 rr1.2.2) from by first | (rw [upd_upd]; done) | (rw [va_up_up]; done) | rfl)) hP
              exact ih17 (f - 1) (o + 1) (wnP rr1.1 rr1.2.1) (wnW rr1.1 rr1.2.1 false) rr1.2.2 false (by rw [e1, e2]; exact ⟨by omega, fun _ => by omega, by omega⟩) (fun q => absurd q Bool.false_ne_true) (by rw [if_neg Bool.false_ne_true, e1, e2]; exact (rbL_bad (f := f) (by omega) hrr1 ⟨h99, c41⟩ c61).symm.trans hres2) (by omega) _ _ hP hS _ hl
            · refine lv_iconst (v := nI 1) hx hb dX6_readBuffer_64 (by decide) ?_
              refine lv_goto (tgt := 69) hx hb dX6_readBuffer_65 (by decide) ?_
              refine md_cV0 (As := [.int (nI 1)]) (rest := []) hx hb hown htg hK hI hS hP hml hl.1 (m6_wants l D ct ad _ _ _ _ true rr1.1 rr1.2.1 tn (by omega) (roR_w hrr1 (by omega) hpi)) cw_X6_141 rfl rfl ⟨Nat.le_of_ble_eq_true rfl, Nat.le_of_ble_eq_true rfl⟩ (Nat.le_of_ble_eq_true rfl) dX6_readBuffer_69 ⟨Nat.le_refl _, Nat.le_refl _⟩ (fun H locs hP hS => ?_)
              have e1 : wnP rr1.1 rr1.2.1 = rr1.1 + 1 := if_pos h99
              have e2 : wnW rr1.1 rr1.2.1 true = 99 := by unfold wnW; rw [if_pos h99]; rfl
              refine lv_aload_n hx hb dX6_readBuffer_72 rfl (lv_at hl 1 rfl) ?_
              refine md_g12 (v := ow (wnW rr1.1 rr1.2.1 true)) hx hb hown htg hK hP rfl dX6_readBuffer_73 ?_
              refine lv_iconst (v := -1) hx hb dX6_readBuffer_76 (by decide) ?_
              refine lv_icmp_ne (tgt := 84) hx hb dX6_readBuffer_77 (by decide) (fun h => absurd (by rw [e2]; rfl) h) (fun _ => ?_)
              refine lv_iconst (v := nI 1) hx hb dX6_readBuffer_80 (by decide) ?_
              refine lv_goto (tgt := 85) hx hb dX6_readBuffer_81 (by decide) ?_
              refine lv_istore_n (lv' := [(1, .int (nI 1)), (0, .ref (ad 0))]) hx hb dX6_readBuffer_85 rfl hl (by decide) rfl (fun ls hl => ?_)
              refine lv_goto (tgt := 17) hx hb dX6_readBuffer_86 (by decide) ?_
              have hl := lv_sub (l' := [(1, .int (nI 1)), (0, .ref (ad 0))]) hl [0, 1] rfl
              have le1 : Value.int (nI 1) = Value.int (bi true) := by rfl
              have hl := lv_hasE hl (lcons le1 (lcons rfl rfl))
              have hP := fP.eqc (congrArg (fun v9 => mdc ct ad Z v9 hs (va_up (va_up F 7 O) 7 rr1.2.2)) (show (upd (upd (upd (upd g 10 (nI o)) 10 (nI (o + 1))) 11 (nI (wnP rr1.1 rr1.2.1))) 12 (ow (wnW rr1.1 rr1.2.1 true))) = (upd (upd (upd g 10 (nI (o + 1))) 11 (nI (wnP rr1.1 rr1.2.1))) 12 (ow (wnW rr1.1 rr1.2.1 true))) from by first | (rw [upd_upd]; done) | (rw [va_up_up]; done) | rfl)) hP
              have hP := fP.eqc (congrArg (fun v9 => mdc ct ad Z (upd (upd (upd g 10 (nI (o + 1))) 11 (nI (wnP rr1.1 rr1.2.1))) 12 (ow (wnW rr1.1 rr1.2.1 true))) hs v9) (show (va_up (va_up F 7 O) 7 rr1.2.2) = (va_up F 7 rr1.2.2) from by first | (rw [upd_upd]; done) | (rw [va_up_up]; done) | rfl)) hP
              exact ih17 (f - 1) (o + 1) (wnP rr1.1 rr1.2.1) (wnW rr1.1 rr1.2.1 true) rr1.2.2 true (by rw [e1, e2]; exact ⟨by omega, fun _ => by omega, Nat.le_refl 99⟩) (fun _ => ⟨e2, by rw [e1]; omega, by omega⟩) (by rw [if_pos rfl, e1]; exact (rbL_on (f := f) (by omega) hrr1 ⟨h99, c41⟩ c61).symm.trans hres2) (by omega) _ _ hP hS _ hl
  have hl := lv_sub (l' := [(1, .int (nI 1)), (0, .ref (ad 0))]) hl [0, 1] rfl
  have le1 : Value.int (nI 1) = Value.int (bi true) := by rfl
  have hl := lv_hasE hl (lcons le1 (lcons rfl rfl))
  have hP := fP.eqc (congrArg (fun v9 => mdc ct ad Z v9 hs F) (show (upd (upd (upd g 10 (nI 0)) 11 (nI 0)) 12 (-1)) = (upd (upd (upd g 10 (nI 0)) 11 (nI 0)) 12 (ow 99)) from by first | rfl | (rw [va_up_id]))) hP
  have hP := fP.eqc (congrArg (fun v9 => mdc ct ad Z (upd (upd (upd g 10 (nI 0)) 11 (nI 0)) 12 (ow 99)) hs v9) (show F = (va_up F 7 (F 7)) from by first | rfl | (rw [va_up_id]))) hP
  exact lp17 (22 + 1) 22 0 0 99 (F 7) true (⟨by omega, fun _ => by omega, Nat.le_refl 99⟩) (fun _ => ⟨rfl, by omega, by omega⟩) ((if_pos rfl).trans hrr) (Nat.lt_succ_self _) _ _ hP hS _ hl
