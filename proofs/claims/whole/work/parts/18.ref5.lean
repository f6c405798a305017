/-! THE REFERENCE: the least bound -/
theorem lwF_done {Y : Nat → Int32} {n b f j : Nat} (h : 48 ≤ j) : lwF Y n b f j = decide (hsZ Y n j (7 + 5 * b + 1) = nI 1) := by
  cases f
  · rfl
  · unfold lwF; rw [if_neg (by omega)]
theorem lwF_off {Y : Nat → Int32} {n b f j : Nat} (h : ¬ hsZ Y n j (7 + 5 * b + 1) = nI 1) : lwF Y n b f j = false := by
  cases f
  · exact decide_eq_false h
  · simp only [lwF, if_neg h, decide_eq_false h, ite_self]
theorem lwF_go {Y : Nat → Int32} {n b f j : Nat} (hf : 1 ≤ f) (hj : j < 48) (h : hsZ Y n j (7 + 5 * b + 1) = nI 1) : lwF Y n b f j = lwF Y n b (f - 1) (j + 1) := by
  cases f
  · omega
  · rw [lwF, if_pos hj, if_pos h]; rfl
theorem lsF_t {Z : Nat → Int32} {n b f v : Nat} (hf : 1 ≤ f) (hv : v ≤ 999) (h : lwF (lsY Z b v) n b 49 0 = true) : lsF Z n b f v = nI v := by
  cases f
  · omega
  · rw [lsF, if_pos hv, if_pos h]
theorem lsF_f {Z : Nat → Int32} {n b f v : Nat} (hf : 1 ≤ f) (hv : v ≤ 999) (h : lwF (lsY Z b v) n b 49 0 = false) : lsF Z n b f v = lsF Z n b (f - 1) (v + 1) := by
  cases f
  · omega
  · rw [lsF, if_pos hv, if_neg (by rw [h]; exact Bool.false_ne_true)]; rfl
theorem lsF_no {Z : Nat → Int32} {n b f v : Nat} (hv : 999 < v) : lsF Z n b f v = -1 := by
  cases f
  · rfl
  · rw [lsF, if_neg (by omega)]
theorem lsF_end {Z : Nat → Int32} {n b f v : Nat} {x r : Int32} (hv : 999 < v) (hres : (if x = -1 then lsF Z n b f v else x) = r) : x = r := by
  rw [lsF_no hv] at hres
  by_cases h : x = -1
  · rw [if_pos h] at hres; rw [h, hres]
  · rw [if_neg h] at hres; exact hres
theorem sp5_u {F : Nat → Nat → Int32} {Z : Nat → Int32} {u : Bool} (h : u = true) : sp5 F Z true = sp5 F Z u := by rw [h]
set_option maxRecDepth 100000 in
set_option maxHeartbeats 4000000 in
theorem m6_least (l : Launch) (D : va_G) (ct : Nat → ClassId) (ad : Nat → Nat) (Z g : Nat → Int32) (hs : Int64) (F : Nat → Nat → Int32) (b : Nat) (n : Nat)  (hw : zW Z n) (hb4 : b < 4) : FMet l yX6_least cX6_least 5 (some .int) 6 135 D ct 8 ad [.ref (ad 0), .int (nI b)] (mdc ct ad Z g hs F) (some (.int (lsF Z n b 991 10))) (mdc ct ad Z g hs (sp5 F Z true)) := by
  refine FMet.of (by decide +kernel) (Nat.le_of_ble_eq_true rfl) ?_
  intro p e s m args below meth c ls hx hb hr hml hown hlocks htg hK hI hP hS hl
  have hl : lv_has ls 5 [(0, .ref (ad 0)), (1, .int (nI b))] := hl
  have hn10 := hw.1
  refine lv_iconst (v := -1) hx hb dX6_least_0 (by decide) ?_
  refine lv_istore_n (lv' := [(2, .int (-1)), (0, .ref (ad 0)), (1, .int (nI b))]) hx hb dX6_least_1 rfl hl (by decide) rfl (fun ls hl => ?_)
  refine lv_bipush (v := nI 10) hx hb dX6_least_2 (by decide) ?_
  refine lv_istore_n (lv' := [(3, .int (nI 10)), (2, .int (-1)), (0, .ref (ad 0)), (1, .int (nI b))]) hx hb dX6_least_4 rfl hl (by decide) rfl (fun ls hl => ?_)
  have lp5 : ∀ (fu5 : Nat) (f : Nat) (v : Nat) (x : Int32) (u : Bool), f + v = 1001 → 10 ≤ v → u = true ∨ (v = 10 ∧ x = -1) → (if x = -1 then lsF Z n b f v else x) = lsF Z n b 991 10 → f < fu5 → ∀ (H : Heap) (locs : List Loc), fP D 8 ad (mdc ct ad Z g hs (sp5 F Z u)) H → va_S (fA 8 ad) s.heap H locs → ∀ (ls : Array Slot), lv_has ls 5 [(3, .int (nI v)), (2, .int (x)), (0, .ref (ad 0)), (1, .int (nI b))] → W p l e ({ frames := 6, cells := 0, slots := 0, locals := 135 }) s m args below meth c H locs 0 0 (MQ below (fQ D ct 8 ad (some (.int (lsF Z n b 991 10))) (mdc ct ad Z g hs (sp5 F Z true))) args s 0 0 (fA 8 ad)) (F0 m 5 ls []) := by
    intro fu5
    induction fu5 with
    | zero => intro f v x u hfv hv hu hres hfu5; exact absurd hfu5 (Nat.not_lt_zero _)
    | succ fu5 ih5 =>
      intro f v x u hfv hv hu hres hfu5 H locs hP hS ls hl
      refine lv_iload_n hx hb dX6_least_5 rfl (lv_at hl 0 rfl) ?_
      refine lv_sipush (v := nI 999) hx hb dX6_least_6 (by decide) ?_
      refine lv_icmp_gtN (tgt := 90) hx hb (by omega) (by omega) dX6_least_9 (by decide) (fun c9 => ?_) (fun c9 => ?_)
      · refine lv_iload_n hx hb dX6_least_90 rfl (lv_at hl 1 rfl) ?_
        refine fr_iret hx hb hr hlocks hK hI hS rfl dX6_least_91 ?_ ?_
        · first | exact (if_neg c14).symm.trans hres | exact lsF_end c9 hres
        · refine fP.eqc (congrArg (fun v9 => mdc ct ad Z g hs v9) (show (sp5 F Z true) = (sp5 F Z u) from by exact sp5_u (hu.elim id (fun h9 => by first | (exfalso; omega) | exact absurd h9.2 c14))).symm) ?_
          exact hP
      · refine lv_iload_n hx hb dX6_least_12 rfl (lv_at hl 1 rfl) ?_
        refine lv_iconst (v := -1) hx hb dX6_least_13 (by decide) ?_
        refine lv_icmp_ne (tgt := 90) hx hb dX6_least_14 (by decide) (fun c14 => ?_) (fun c14 => ?_)
        · refine lv_iload_n hx hb dX6_least_90 rfl (lv_at hl 1 rfl) ?_
          refine fr_iret hx hb hr hlocks hK hI hS rfl dX6_least_91 ?_ ?_
          · first | exact (if_neg c14).symm.trans hres | exact lsF_end c9 hres
          · refine fP.eqc (congrArg (fun v9 => mdc ct ad Z g hs v9) (show (sp5 F Z true) = (sp5 F Z u) from by exact sp5_u (hu.elim id (fun h9 => by first | (exfalso; omega) | exact absurd h9.2 c14))).symm) ?_
            exact hP
        · refine lv_aload_n hx hb dX6_least_17 rfl (lv_at hl 2 rfl) ?_
          refine md_cV0 (As := []) (rest := []) hx hb hown htg hK hI hS hP hml hl.1 (m6_putAside l D ct ad _ _ _ _ ) cw_X6_190 rfl rfl ⟨Nat.le_of_ble_eq_true rfl, Nat.le_of_ble_eq_true rfl⟩ (Nat.le_of_ble_eq_true rfl) dX6_least_18 ⟨Nat.le_refl _, Nat.le_refl _⟩ (fun H locs hP hS => ?_)
          refine lv_aload_n hx hb dX6_least_21 rfl (lv_at hl 2 rfl) ?_
          refine lv_iload_n hx hb dX6_least_22 rfl (lv_at hl 3 rfl) ?_
          refine lv_iconst (v := nI 0) hx hb dX6_least_23 (by decide) ?_
          refine lv_iload_n hx hb dX6_least_24 rfl (lv_at hl 0 rfl) ?_
          refine md_cV0 (As := [.int (nI b), .int (nI 0), .int (nI v)]) (rest := []) hx hb hown htg hK hI hS hP hml hl.1 (m6_put l D ct ad _ _ _ _ b 0 (nI v) (by omega) (by omega)) cw_X6_32 rfl rfl ⟨Nat.le_of_ble_eq_true rfl, Nat.le_of_ble_eq_true rfl⟩ (Nat.le_of_ble_eq_true rfl) dX6_least_25 ⟨Nat.le_refl _, Nat.le_refl _⟩ (fun H locs hP hS => ?_)
          refine lv_aload_n hx hb dX6_least_28 rfl (lv_at hl 2 rfl) ?_
          refine lv_iload_n hx hb dX6_least_29 rfl (lv_at hl 3 rfl) ?_
          refine md_cV0 (As := [.int (nI b)]) (rest := []) hx hb hown htg hK hI hS hP hml hl.1 (m6_putOn l D ct ad _ _ _ _ b (by omega)) cw_X6_117 rfl rfl ⟨Nat.le_of_ble_eq_true rfl, Nat.le_of_ble_eq_true rfl⟩ (Nat.le_of_ble_eq_true rfl) dX6_least_30 ⟨Nat.le_refl _, Nat.le_refl _⟩ (fun H locs hP hS => ?_)
          refine lv_iconst (v := nI 0) hx hb dX6_least_33 (by decide) ?_
          refine lv_istore (lv' := [(4, .int (nI 0)), (3, .int (nI v)), (2, .int (x)), (0, .ref (ad 0)), (1, .int (nI b))]) hx hb dX6_least_34 hl (by decide) rfl (fun ls hl => ?_)
          have lp36 : ∀ (fu36 : Nat) (f2 : Nat) (j : Nat), f2 + j = 49 → j ≤ 48 → lwF (lsY Z b v) n b f2 j = lwF (lsY Z b v) n b 49 0 → f2 < fu36 → ∀ (H : Heap) (locs : List Loc), fP D 8 ad (mdc ct ad (hsZ (lsY Z b v) n j) g hs (va_up (sp5 F Z u) 5 Z)) H → va_S (fA 8 ad) s.heap H locs → ∀ (ls : Array Slot), lv_has ls 5 [(4, .int (nI j)), (3, .int (nI v)), (2, .int (x)), (0, .ref (ad 0)), (1, .int (nI b))] → W p l e ({ frames := 6, cells := 0, slots := 0, locals := 135 }) s m args below meth c H locs 0 0 (MQ below (fQ D ct 8 ad (some (.int (lsF Z n b 991 10))) (mdc ct ad Z g hs (sp5 F Z true))) args s 0 0 (fA 8 ad)) (F0 m 36 ls []) := by
            intro fu36
            induction fu36 with
            | zero => intro f2 j hfj hj hr2 hfu36; exact absurd hfu36 (Nat.not_lt_zero _)
            | succ fu36 ih36 =>
              intro f2 j hfj hj hr2 hfu36 H locs hP hS ls hl
              refine lv_iload hx hb dX6_least_36 (lv_at hl 0 rfl) ?_
              refine lv_bipush (v := nI 48) hx hb dX6_least_38 (by decide) ?_
              refine lv_icmp_geN (tgt := 64) hx hb (by omega) (by omega) dX6_least_40 (by decide) (fun c40 => ?_) (fun c40 => ?_)
              · refine lv_aload_n hx hb dX6_least_64 rfl (lv_at hl 3 rfl) ?_
                refine lv_iload_n hx hb dX6_least_65 rfl (lv_at hl 4 rfl) ?_
                refine lv_iconst (v := nI 1) hx hb dX6_least_66 (by decide) ?_
                refine md_cVr (As := [.int (nI b), .int (nI 1)]) (rest := []) hx hb hown htg hK hI hS hP hml hl.1 (m6_by l D ct ad _ _ _ _ b 1 (by omega) (by omega)) cw_X6_59 rfl rfl ⟨Nat.le_of_ble_eq_true rfl, Nat.le_of_ble_eq_true rfl⟩ (Nat.le_of_ble_eq_true rfl) dX6_least_67 ⟨Nat.le_refl _, Nat.le_refl _⟩ (fun H locs hP hS => ?_)
                refine lv_iconst (v := nI 1) hx hb dX6_least_70 (by decide) ?_
                refine lv_icmp_ne (tgt := 78) hx hb dX6_least_71 (by decide) (fun c71 => ?_) (fun c71 => ?_)
                · have hlw : lwF (lsY Z b v) n b 49 0 = false := hr2.symm.trans (lwF_off c71)
                  refine lv_iconst (v := -1) hx hb dX6_least_78 (by decide) ?_
                  refine lv_istore_n (lv' := [(2, .int (-1)), (4, .int (nI j)), (3, .int (nI v)), (0, .ref (ad 0)), (1, .int (nI b))]) hx hb dX6_least_79 rfl hl (by decide) rfl (fun ls hl => ?_)
                  refine lv_aload_n hx hb dX6_least_80 rfl (lv_at hl 3 rfl) ?_
                  refine md_cV0 (As := []) (rest := []) hx hb hown htg hK hI hS hP hml hl.1 (m6_bringBack l D ct ad _ _ _ _ ) cw_X6_193 rfl rfl ⟨Nat.le_of_ble_eq_true rfl, Nat.le_of_ble_eq_true rfl⟩ (Nat.le_of_ble_eq_true rfl) dX6_least_81 ⟨Nat.le_refl _, Nat.le_refl _⟩ (fun H locs hP hS => ?_)
                  refine lv_iinc (v := nI (v + 1)) (lv' := [(3, .int (nI (v + 1))), (2, .int (-1)), (4, .int (nI j)), (0, .ref (ad 0)), (1, .int (nI b))]) hx hb dX6_least_84 hl (k := 2) rfl (nI_add v 1) (by decide) rfl (fun ls hl => ?_)
                  refine lv_goto (tgt := 5) hx hb dX6_least_87 (by decide) ?_
                  have hl := lv_sub (l' := [(3, .int (nI (v + 1))), (2, .int (-1)), (0, .ref (ad 0)), (1, .int (nI b))]) hl [0, 1, 3, 4] rfl
                  have e2 : Value.int (-1) = Value.int ((-1)) := by rfl
                  have hl := lv_hasE hl (lcons rfl (lcons e2 (lcons rfl (lcons rfl rfl))))
                  have hP := fP.eqc (congrArg (fun v9 => mdc ct ad Z g hs v9) (show (va_up (sp5 F Z u) 5 Z) = (sp5 F Z true) from by (first | exact (sp5_sp5 F Z u true).trans (congrArg (sp5 F Z) (Bool.or_true u)) | (cases u <;> first | rfl | exact va_up_up _ _ _ _)))) hP
                  exact ih5 (f - 1) (v + 1) (-1) true (by omega) (by omega) (Or.inl rfl) ((if_pos rfl).trans ((lsF_f (by omega) c9 hlw).symm.trans ((if_pos c14).symm.trans hres))) (by omega) _ _ hP hS _ hl
                · have hlw : lwF (lsY Z b v) n b 49 0 = true := hr2.symm.trans ((lwF_done c40).trans (decide_eq_true c71))
                  refine lv_iload_n hx hb dX6_least_74 rfl (lv_at hl 1 rfl) ?_
                  refine lv_goto (tgt := 79) hx hb dX6_least_75 (by decide) ?_
                  refine lv_istore_n (lv' := [(2, .int (nI v)), (4, .int (nI j)), (3, .int (nI v)), (0, .ref (ad 0)), (1, .int (nI b))]) hx hb dX6_least_79 rfl hl (by decide) rfl (fun ls hl => ?_)
                  refine lv_aload_n hx hb dX6_least_80 rfl (lv_at hl 3 rfl) ?_
                  refine md_cV0 (As := []) (rest := []) hx hb hown htg hK hI hS hP hml hl.1 (m6_bringBack l D ct ad _ _ _ _ ) cw_X6_193 rfl rfl ⟨Nat.le_of_ble_eq_true rfl, Nat.le_of_ble_eq_true rfl⟩ (Nat.le_of_ble_eq_true rfl) dX6_least_81 ⟨Nat.le_refl _, Nat.le_refl _⟩ (fun H locs hP hS => ?_)
                  refine lv_iinc (v := nI (v + 1)) (lv' := [(3, .int (nI (v + 1))), (2, .int (nI v)), (4, .int (nI j)), (0, .ref (ad 0)), (1, .int (nI b))]) hx hb dX6_least_84 hl (k := 2) rfl (nI_add v 1) (by decide) rfl (fun ls hl => ?_)
                  refine lv_goto (tgt := 5) hx hb dX6_least_87 (by decide) ?_
                  have hl := lv_sub (l' := [(3, .int (nI (v + 1))), (2, .int (nI v)), (0, .ref (ad 0)), (1, .int (nI b))]) hl [0, 1, 3, 4] rfl
                  have e2 : Value.int (nI v) = Value.int ((nI v)) := by rfl
                  have hl := lv_hasE hl (lcons rfl (lcons e2 (lcons rfl (lcons rfl rfl))))
                  have hP := fP.eqc (congrArg (fun v9 => mdc ct ad Z g hs v9) (show (va_up (sp5 F Z u) 5 Z) = (sp5 F Z true) from by (first | exact (sp5_sp5 F Z u true).trans (congrArg (sp5 F Z) (Bool.or_true u)) | (cases u <;> first | rfl | exact va_up_up _ _ _ _)))) hP
                  exact ih5 (f - 1) (v + 1) (nI v) true (by omega) (by omega) (Or.inl rfl) ((if_neg (nI_nm1 (by omega))).trans ((lsF_t (by omega) c9 hlw).symm.trans ((if_pos c14).symm.trans hres))) (by omega) _ _ hP hS _ hl
              · refine lv_aload_n hx hb dX6_least_43 rfl (lv_at hl 3 rfl) ?_
                refine lv_iload_n hx hb dX6_least_44 rfl (lv_at hl 4 rfl) ?_
                refine lv_iconst (v := nI 1) hx hb dX6_least_45 (by decide) ?_
                refine md_cVr (As := [.int (nI b), .int (nI 1)]) (rest := []) hx hb hown htg hK hI hS hP hml hl.1 (m6_by l D ct ad _ _ _ _ b 1 (by omega) (by omega)) cw_X6_59 rfl rfl ⟨Nat.le_of_ble_eq_true rfl, Nat.le_of_ble_eq_true rfl⟩ (Nat.le_of_ble_eq_true rfl) dX6_least_46 ⟨Nat.le_refl _, Nat.le_refl _⟩ (fun H locs hP hS => ?_)
                refine lv_iconst (v := nI 1) hx hb dX6_least_49 (by decide) ?_
                refine lv_icmp_ne (tgt := 64) hx hb dX6_least_50 (by decide) (fun c50 => ?_) (fun c50 => ?_)
                · refine lv_aload_n hx hb dX6_least_64 rfl (lv_at hl 3 rfl) ?_
                  refine lv_iload_n hx hb dX6_least_65 rfl (lv_at hl 4 rfl) ?_
                  refine lv_iconst (v := nI 1) hx hb dX6_least_66 (by decide) ?_
                  refine md_cVr (As := [.int (nI b), .int (nI 1)]) (rest := []) hx hb hown htg hK hI hS hP hml hl.1 (m6_by l D ct ad _ _ _ _ b 1 (by omega) (by omega)) cw_X6_59 rfl rfl ⟨Nat.le_of_ble_eq_true rfl, Nat.le_of_ble_eq_true rfl⟩ (Nat.le_of_ble_eq_true rfl) dX6_least_67 ⟨Nat.le_refl _, Nat.le_refl _⟩ (fun H locs hP hS => ?_)
                  refine lv_iconst (v := nI 1) hx hb dX6_least_70 (by decide) ?_
                  refine lv_icmp_ne (tgt := 78) hx hb dX6_least_71 (by decide) (fun c71 => ?_) (fun c71 => ?_)
                  · have hlw : lwF (lsY Z b v) n b 49 0 = false := hr2.symm.trans (lwF_off c50)
                    refine lv_iconst (v := -1) hx hb dX6_least_78 (by decide) ?_
                    refine lv_istore_n (lv' := [(2, .int (-1)), (4, .int (nI j)), (3, .int (nI v)), (0, .ref (ad 0)), (1, .int (nI b))]) hx hb dX6_least_79 rfl hl (by decide) rfl (fun ls hl => ?_)
                    refine lv_aload_n hx hb dX6_least_80 rfl (lv_at hl 3 rfl) ?_
                    refine md_cV0 (As := []) (rest := []) hx hb hown htg hK hI hS hP hml hl.1 (m6_bringBack l D ct ad _ _ _ _ ) cw_X6_193 rfl rfl ⟨Nat.le_of_ble_eq_true rfl, Nat.le_of_ble_eq_true rfl⟩ (Nat.le_of_ble_eq_true rfl) dX6_least_81 ⟨Nat.le_refl _, Nat.le_refl _⟩ (fun H locs hP hS => ?_)
                    refine lv_iinc (v := nI (v + 1)) (lv' := [(3, .int (nI (v + 1))), (2, .int (-1)), (4, .int (nI j)), (0, .ref (ad 0)), (1, .int (nI b))]) hx hb dX6_least_84 hl (k := 2) rfl (nI_add v 1) (by decide) rfl (fun ls hl => ?_)
                    refine lv_goto (tgt := 5) hx hb dX6_least_87 (by decide) ?_
                    have hl := lv_sub (l' := [(3, .int (nI (v + 1))), (2, .int (-1)), (0, .ref (ad 0)), (1, .int (nI b))]) hl [0, 1, 3, 4] rfl
                    have e2 : Value.int (-1) = Value.int ((-1)) := by rfl
                    have hl := lv_hasE hl (lcons rfl (lcons e2 (lcons rfl (lcons rfl rfl))))
                    have hP := fP.eqc (congrArg (fun v9 => mdc ct ad Z g hs v9) (show (va_up (sp5 F Z u) 5 Z) = (sp5 F Z true) from by (first | exact (sp5_sp5 F Z u true).trans (congrArg (sp5 F Z) (Bool.or_true u)) | (cases u <;> first | rfl | exact va_up_up _ _ _ _)))) hP
                    exact ih5 (f - 1) (v + 1) (-1) true (by omega) (by omega) (Or.inl rfl) ((if_pos rfl).trans ((lsF_f (by omega) c9 hlw).symm.trans ((if_pos c14).symm.trans hres))) (by omega) _ _ hP hS _ hl
                  · exact absurd c71 c50
                · refine lv_aload_n hx hb dX6_least_53 rfl (lv_at hl 3 rfl) ?_
                  refine md_cVr (As := []) (rest := []) hx hb hown htg hK hI hS hP hml hl.1 (m6_hour l D ct ad _ _ _ _ n (hsZ_zW (lsY_zW hw hb4 (by omega)) j)) cw_X6_91 rfl rfl ⟨Nat.le_of_ble_eq_true rfl, Nat.le_of_ble_eq_true rfl⟩ (Nat.le_of_ble_eq_true rfl) dX6_least_54 ⟨Nat.le_refl _, Nat.le_refl _⟩ (fun H locs hP hS => ?_)
                  refine lv_pop hx hb dX6_least_57 rfl ?_
                  refine lv_iinc (v := nI (j + 1)) (lv' := [(4, .int (nI (j + 1))), (3, .int (nI v)), (2, .int (x)), (0, .ref (ad 0)), (1, .int (nI b))]) hx hb dX6_least_58 hl (k := 0) rfl (nI_add j 1) (by decide) rfl (fun ls hl => ?_)
                  refine lv_goto (tgt := 36) hx hb dX6_least_61 (by decide) ?_
                  have hl := lv_sub (l' := [(4, .int (nI (j + 1))), (3, .int (nI v)), (2, .int (x)), (0, .ref (ad 0)), (1, .int (nI b))]) hl [0, 1, 2, 3, 4] rfl
                  have hP := fP.eqc (congrArg (fun v9 => mdc ct ad v9 g hs (va_up (sp5 F Z u) 5 Z)) (show (hrZ (hsZ (lsY Z b v) n j) n) = (hsZ (lsY Z b v) n (j + 1)) from by rfl)) hP
                  exact ih36 (f2 - 1) (j + 1) (by omega) (by omega) ((lwF_go (by omega) c40 c50).symm.trans hr2) (by omega) _ _ hP hS _ hl
          have hl := lv_sub (l' := [(4, .int (nI 0)), (3, .int (nI v)), (2, .int (x)), (0, .ref (ad 0)), (1, .int (nI b))]) hl [0, 1, 2, 3, 4] rfl
          have hP := fP.eqc (congrArg (fun v9 => mdc ct ad v9 g hs (va_up (sp5 F Z u) 5 Z)) (show (pon (upd Z (7 + 5 * b + 0) (nI v)) b) = (hsZ (lsY Z b v) n 0) from by rfl)) hP
          exact lp36 (49 + 1) 49 0 (rfl) (by omega) (rfl) (Nat.lt_succ_self _) _ _ hP hS _ hl
  have hl := lv_sub (l' := [(3, .int (nI 10)), (2, .int (-1)), (0, .ref (ad 0)), (1, .int (nI b))]) hl [0, 1, 2, 3] rfl
  have e2 : Value.int (-1) = Value.int ((-1)) := by rfl
  have hl := lv_hasE hl (lcons rfl (lcons e2 (lcons rfl (lcons rfl rfl))))
  have hP := fP.eqc (congrArg (fun v9 => mdc ct ad Z g hs v9) (show F = (sp5 F Z false) from by rfl)) hP
  exact lp5 (991 + 1) 991 10 (-1) false (rfl) (by omega) (Or.inr ⟨rfl, rfl⟩) (if_pos rfl) (Nat.lt_succ_self _) _ _ hP hS _ hl
