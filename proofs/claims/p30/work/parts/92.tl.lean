/-! THE LAW: all told anew -/
def pcw (O L : Nat → va_E) : Nat → va_E := fun i => if i < 198 then O i else L (i - 198)
theorem pcl {O L : Nat → va_E} : ∀ z, z < 198 → pcw O L z = O z := fun _ h => if_pos h
theorem pcr {O L : Nat → va_E} {N1 : Nat} : ∀ z, z < N1 → pcw O L (198 + z) = L z := fun z _ => by
  unfold pcw; rw [if_neg (by omega), Nat.add_sub_cancel_left]
theorem p203 : ∀ z, z < 5 → (fun z => 198 + z) z < 203 := fun z h => by show 198 + z < 203; omega
theorem pinj : ∀ i j, i < 5 → j < 5 → (fun z => 198 + z) i = (fun z => 198 + z) j → i = j := fun i j _ _ h => by
  have h : 198 + i = 198 + j := h
  omega
theorem cmp_eq {d : UInt64} (h : shOk d) : Op.cmpValue (FP.dcmp d d) .l = nI 0 := by rw [sh_eq h]; rfl
set_option maxRecDepth 100000 in
set_option maxHeartbeats 8000000 in
theorem mL_tells (l : Launch) (D : va_G) (ct : Nat → ClassId) (ad : Nat → Nat) (O : Nat → va_E) (Z : Nat → Int32) (r : Int32) (n sv sd : Nat) (hOS : OS ct ad O Z n) (hO : oI Z n) (hu : unS Z n) (hg : lG r Z n) (hmt : sumS Z 6 n = sumB Z 4 4) (hsv : Z 6 = nI sv) (hsd : sumS Z 7 n = nI sd) (hss : sv + sd < 2147483648) : FMet l yL_tells cL_tells 18 (some .boolean) 5 109 D ct 203 ad [.ref (ad 0), .ref (ad 198), .ref (ad 199), .ref (ad 200), .ref (ad 201), .ref (ad 202)] (pcw O (lwc ct Z r)) (some (.int (nI 1))) (pcw O (lwc ct Z r)) := by
  refine FMet.of (by decide +kernel) (Nat.le_of_ble_eq_true rfl) ?_
  intro p e s m args below meth c ls hx hb hr hml hown hlocks htg hK hI hP hS hl
  have hl : lv_has ls 18 [(0, .ref (ad 0)), (1, .ref (ad 198)), (2, .ref (ad 199)), (3, .ref (ad 200)), (4, .ref (ad 201)), (5, .ref (ad 202))] := hl
  have hn10 := hg.1.1
  obtain ⟨fs0, h0⟩ := hOS.h5
  refine lv_iconst (v := nI 0) hx hb dL_tells_0 (by decide) ?_
  refine lv_istore (lv' := [(6, .int (nI 0)), (0, .ref (ad 0)), (1, .ref (ad 198)), (2, .ref (ad 199)), (3, .ref (ad 200)), (4, .ref (ad 201)), (5, .ref (ad 202))]) hx hb dL_tells_1 hl (by decide) rfl (fun ls hl => ?_)
  refine lv_iconst (v := nI 0) hx hb dL_tells_3 (by decide) ?_
  refine lv_istore (lv' := [(7, .int (nI 0)), (6, .int (nI 0)), (0, .ref (ad 0)), (1, .ref (ad 198)), (2, .ref (ad 199)), (3, .ref (ad 200)), (4, .ref (ad 201)), (5, .ref (ad 202))]) hx hb dL_tells_4 hl (by decide) rfl (fun ls hl => ?_)
  refine lv_iconst (v := nI 0) hx hb dL_tells_6 (by decide) ?_
  refine lv_istore (lv' := [(8, .int (nI 0)), (7, .int (nI 0)), (6, .int (nI 0)), (0, .ref (ad 0)), (1, .ref (ad 198)), (2, .ref (ad 199)), (3, .ref (ad 200)), (4, .ref (ad 201)), (5, .ref (ad 202))]) hx hb dL_tells_7 hl (by decide) rfl (fun ls hl => ?_)
  refine lv_iconst (v := nI 0) hx hb dL_tells_9 (by decide) ?_
  refine lv_istore (lv' := [(9, .int (nI 0)), (8, .int (nI 0)), (7, .int (nI 0)), (6, .int (nI 0)), (0, .ref (ad 0)), (1, .ref (ad 198)), (2, .ref (ad 199)), (3, .ref (ad 200)), (4, .ref (ad 201)), (5, .ref (ad 202))]) hx hb dL_tells_10 hl (by decide) rfl (fun ls hl => ?_)
  refine lv_iconst (v := nI 0) hx hb dL_tells_12 (by decide) ?_
  refine lv_istore (lv' := [(10, .int (nI 0)), (9, .int (nI 0)), (8, .int (nI 0)), (7, .int (nI 0)), (6, .int (nI 0)), (0, .ref (ad 0)), (1, .ref (ad 198)), (2, .ref (ad 199)), (3, .ref (ad 200)), (4, .ref (ad 201)), (5, .ref (ad 202))]) hx hb dL_tells_13 hl (by decide) rfl (fun ls hl => ?_)
  refine lv_iconst (v := nI 0) hx hb dL_tells_15 (by decide) ?_
  refine lv_istore (lv' := [(11, .int (nI 0)), (10, .int (nI 0)), (9, .int (nI 0)), (8, .int (nI 0)), (7, .int (nI 0)), (6, .int (nI 0)), (0, .ref (ad 0)), (1, .ref (ad 198)), (2, .ref (ad 199)), (3, .ref (ad 200)), (4, .ref (ad 201)), (5, .ref (ad 202))]) hx hb dL_tells_16 hl (by decide) rfl (fun ls hl => ?_)
  have lp18 : ∀ (fu18 : Nat) (i : Nat), i ≤ n → n - i < fu18 → ∀ (H : Heap) (locs : List Loc), fP D 203 ad (pcw O (lwc ct Z r)) H → va_S (fA 203 ad) s.heap H locs → ∀ (ls : Array Slot), lv_has ls 18 [(11, .int (nI i)), (10, .int (plgS Z i)), (9, .int (sumS Z 9 i)), (8, .int (sumS Z 7 i)), (7, .int (sumS Z 6 i)), (6, .int (drA Z i)), (0, .ref (ad 0)), (1, .ref (ad 198)), (2, .ref (ad 199)), (3, .ref (ad 200)), (4, .ref (ad 201)), (5, .ref (ad 202))] → W p l e ({ frames := 5, cells := 0, slots := 0, locals := 109 }) s m args below meth c H locs 0 0 (MQ below (fQ D ct 203 ad (some (.int (nI 1))) (pcw O (lwc ct Z r))) args s 0 0 (fA 203 ad)) (F0 m 18 ls []) := by
    intro fu18
    induction fu18 with
    | zero => intro i hi hfu18; exact absurd hfu18 (Nat.not_lt_zero _)
    | succ fu18 ih18 =>
      intro i hi hfu18 H locs hP hS ls hl
      refine lv_iload hx hb dL_tells_18 (lv_at hl 0 rfl) ?_
      refine lv_aload hx hb dL_tells_20 (lv_at hl 11 rfl) ?_
      refine lv_iconst (v := nI 4) hx hb dL_tells_22 (by decide) ?_
      refine fr_iald (k := 202) (f := vwT Z) hx hb hK hP (by decide) rfl (by omega) (by decide) dL_tells_23 ?_
      refine lv_teq (vwT_at (by omega)) ?_
      refine lv_teq (hg).1.2.1 ?_
      refine lv_icmp_geN (tgt := 321) hx hb (by omega) (by omega) dL_tells_24 (by decide) (fun c24 => ?_) (fun c24 => ?_)
      · have e9 : n = i := by omega
        subst e9
        refine lv_iconst (v := nI 0) hx hb dL_tells_321 (by decide) ?_
        refine lv_istore (lv' := [(11, .int (nI 0)), (10, .int (plgS Z n)), (9, .int (sumS Z 9 n)), (8, .int (sumS Z 7 n)), (7, .int (sumS Z 6 n)), (6, .int (drA Z n)), (0, .ref (ad 0)), (1, .ref (ad 198)), (2, .ref (ad 199)), (3, .ref (ad 200)), (4, .ref (ad 201)), (5, .ref (ad 202))]) hx hb dL_tells_322 hl (by decide) rfl (fun ls hl => ?_)
        refine lv_iconst (v := nI 0) hx hb dL_tells_324 (by decide) ?_
        refine lv_istore (lv' := [(12, .int (nI 0)), (11, .int (nI 0)), (10, .int (plgS Z n)), (9, .int (sumS Z 9 n)), (8, .int (sumS Z 7 n)), (7, .int (sumS Z 6 n)), (6, .int (drA Z n)), (0, .ref (ad 0)), (1, .ref (ad 198)), (2, .ref (ad 199)), (3, .ref (ad 200)), (4, .ref (ad 201)), (5, .ref (ad 202))]) hx hb dL_tells_325 hl (by decide) rfl (fun ls hl => ?_)
        refine lv_iconst (v := nI 0) hx hb dL_tells_327 (by decide) ?_
        refine lv_istore (lv' := [(13, .int (nI 0)), (12, .int (nI 0)), (11, .int (nI 0)), (10, .int (plgS Z n)), (9, .int (sumS Z 9 n)), (8, .int (sumS Z 7 n)), (7, .int (sumS Z 6 n)), (6, .int (drA Z n)), (0, .ref (ad 0)), (1, .ref (ad 198)), (2, .ref (ad 199)), (3, .ref (ad 200)), (4, .ref (ad 201)), (5, .ref (ad 202))]) hx hb dL_tells_328 hl (by decide) rfl (fun ls hl => ?_)
        refine lv_iconst (v := nI 0) hx hb dL_tells_330 (by decide) ?_
        refine lv_istore (lv' := [(14, .int (nI 0)), (13, .int (nI 0)), (12, .int (nI 0)), (11, .int (nI 0)), (10, .int (plgS Z n)), (9, .int (sumS Z 9 n)), (8, .int (sumS Z 7 n)), (7, .int (sumS Z 6 n)), (6, .int (drA Z n)), (0, .ref (ad 0)), (1, .ref (ad 198)), (2, .ref (ad 199)), (3, .ref (ad 200)), (4, .ref (ad 201)), (5, .ref (ad 202))]) hx hb dL_tells_331 hl (by decide) rfl (fun ls hl => ?_)
        have lp333 : ∀ (fu333 : Nat) (i : Nat), i ≤ 4 → 4 - i < fu333 → ∀ (H : Heap) (locs : List Loc), fP D 203 ad (pcw O (lwc ct Z r)) H → va_S (fA 203 ad) s.heap H locs → ∀ (ls : Array Slot), lv_has ls 18 [(14, .int (nI i)), (13, .int (sumB Z 3 i)), (12, .int (sumB Z 4 i)), (11, .int (sumB Z 1 i)), (10, .int (plgS Z n)), (9, .int (sumS Z 9 n)), (8, .int (sumS Z 7 n)), (7, .int (sumS Z 6 n)), (6, .int (drA Z n)), (0, .ref (ad 0)), (1, .ref (ad 198)), (2, .ref (ad 199)), (3, .ref (ad 200)), (4, .ref (ad 201)), (5, .ref (ad 202))] → W p l e ({ frames := 5, cells := 0, slots := 0, locals := 109 }) s m args below meth c H locs 0 0 (MQ below (fQ D ct 203 ad (some (.int (nI 1))) (pcw O (lwc ct Z r))) args s 0 0 (fA 203 ad)) (F0 m 333 ls []) := by
          intro fu333
          induction fu333 with
          | zero => intro i hi hfu333; exact absurd hfu333 (Nat.not_lt_zero _)
          | succ fu333 ih333 =>
            intro i hi hfu333 H locs hP hS ls hl
            refine lv_iload hx hb dL_tells_333 (lv_at hl 0 rfl) ?_
            refine lv_iconst (v := nI 4) hx hb dL_tells_335 (by decide) ?_
            refine lv_icmp_geN (tgt := 670) hx hb (by omega) (by omega) dL_tells_336 (by decide) (fun c336 => ?_) (fun c336 => ?_)
            · obtain rfl : i = 4 := by omega
              refine lv_aload_n hx hb dL_tells_670 rfl (lv_at hl 9 rfl) ?_
              refine lv_iconst (v := nI 0) hx hb dL_tells_671 (by decide) ?_
              refine nw_Or (ceO := O) (ceO' := O) (ce' := pcw O (lwc ct Z r)) (As := [.int (nI 0)]) (rest := []) hx hb hml hown htg hK hI hP hS (fun _ h => fA_in h) hl.1 (by decide) pcl pcl (fun _ _ _ => rfl) (@os_count l D ct ad _ _ _ (0) hOS hO (by omega)) cw_L_42 h0 rfl rfl ⟨Nat.le_of_ble_eq_true rfl, Nat.le_of_ble_eq_true rfl⟩ (Nat.le_of_ble_eq_true rfl) dL_tells_672 ⟨Nat.le_of_ble_eq_true rfl, Nat.le_of_ble_eq_true rfl⟩ (fun H locs hP hS => ?_)
              refine lv_aload hx hb dL_tells_675 (lv_at hl 14 rfl) ?_
              refine lv_iconst (v := nI 3) hx hb dL_tells_677 (by decide) ?_
              refine fr_iald (k := 202) (f := vwT Z) hx hb hK hP (by decide) rfl (by omega) (by decide) dL_tells_678 ?_
              refine lv_teq (vwT_at (by omega)) ?_
              refine lv_icmp_ne (tgt := 802) hx hb dL_tells_679 (by decide) (fun h => absurd rfl h) (fun _ => ?_)
              refine lv_aload_n hx hb dL_tells_682 rfl (lv_at hl 9 rfl) ?_
              refine lv_iconst (v := nI 1) hx hb dL_tells_683 (by decide) ?_
              refine nw_Or (ceO := O) (ceO' := O) (ce' := pcw O (lwc ct Z r)) (As := [.int (nI 1)]) (rest := []) hx hb hml hown htg hK hI hP hS (fun _ h => fA_in h) hl.1 (by decide) pcl pcl (fun _ _ _ => rfl) (@os_count l D ct ad _ _ _ (1) hOS hO (by omega)) cw_L_42 h0 rfl rfl ⟨Nat.le_of_ble_eq_true rfl, Nat.le_of_ble_eq_true rfl⟩ (Nat.le_of_ble_eq_true rfl) dL_tells_684 ⟨Nat.le_of_ble_eq_true rfl, Nat.le_of_ble_eq_true rfl⟩ (fun H locs hP hS => ?_)
              refine lv_aload hx hb dL_tells_687 (lv_at hl 14 rfl) ?_
              refine lv_iconst (v := nI 4) hx hb dL_tells_689 (by decide) ?_
              refine fr_iald (k := 202) (f := vwT Z) hx hb hK hP (by decide) rfl (by omega) (by decide) dL_tells_690 ?_
              refine lv_teq (vwT_at (by omega)) ?_
              refine lv_teq (hg).1.2.1 ?_
              refine lv_icmp_ne (tgt := 802) hx hb dL_tells_691 (by decide) (fun h => absurd hg.1.2.1 h) (fun _ => ?_)
              refine lv_aload_n hx hb dL_tells_694 rfl (lv_at hl 9 rfl) ?_
              refine lv_iconst (v := nI 2) hx hb dL_tells_695 (by decide) ?_
              refine nw_Or (ceO := O) (ceO' := O) (ce' := pcw O (lwc ct Z r)) (As := [.int (nI 2)]) (rest := []) hx hb hml hown htg hK hI hP hS (fun _ h => fA_in h) hl.1 (by decide) pcl pcl (fun _ _ _ => rfl) (@os_count l D ct ad _ _ _ (2) hOS hO (by omega)) cw_L_42 h0 rfl rfl ⟨Nat.le_of_ble_eq_true rfl, Nat.le_of_ble_eq_true rfl⟩ (Nat.le_of_ble_eq_true rfl) dL_tells_696 ⟨Nat.le_of_ble_eq_true rfl, Nat.le_of_ble_eq_true rfl⟩ (fun H locs hP hS => ?_)
              refine lv_iload hx hb dL_tells_699 (lv_at hl 4 rfl) ?_
              refine lv_icmp_ne (tgt := 802) hx hb dL_tells_701 (by decide) (fun h => absurd rfl h) (fun _ => ?_)
              refine lv_aload_n hx hb dL_tells_704 rfl (lv_at hl 9 rfl) ?_
              refine lv_iconst (v := nI 3) hx hb dL_tells_705 (by decide) ?_
              refine nw_Or (ceO := O) (ceO' := O) (ce' := pcw O (lwc ct Z r)) (As := [.int (nI 3)]) (rest := []) hx hb hml hown htg hK hI hP hS (fun _ h => fA_in h) hl.1 (by decide) pcl pcl (fun _ _ _ => rfl) (@os_count l D ct ad _ _ _ (3) hOS hO (by omega)) cw_L_42 h0 rfl rfl ⟨Nat.le_of_ble_eq_true rfl, Nat.le_of_ble_eq_true rfl⟩ (Nat.le_of_ble_eq_true rfl) dL_tells_706 ⟨Nat.le_of_ble_eq_true rfl, Nat.le_of_ble_eq_true rfl⟩ (fun H locs hP hS => ?_)
              refine lv_iload hx hb dL_tells_709 (lv_at hl 8 rfl) ?_
              refine lv_icmp_ne (tgt := 802) hx hb dL_tells_711 (by decide) (fun h => absurd rfl h) (fun _ => ?_)
              refine lv_aload_n hx hb dL_tells_714 rfl (lv_at hl 9 rfl) ?_
              refine lv_iconst (v := nI 4) hx hb dL_tells_715 (by decide) ?_
              refine nw_Or (ceO := O) (ceO' := O) (ce' := pcw O (lwc ct Z r)) (As := [.int (nI 4)]) (rest := []) hx hb hml hown htg hK hI hP hS (fun _ h => fA_in h) hl.1 (by decide) pcl pcl (fun _ _ _ => rfl) (@os_count l D ct ad _ _ _ (4) hOS hO (by omega)) cw_L_42 h0 rfl rfl ⟨Nat.le_of_ble_eq_true rfl, Nat.le_of_ble_eq_true rfl⟩ (Nat.le_of_ble_eq_true rfl) dL_tells_716 ⟨Nat.le_of_ble_eq_true rfl, Nat.le_of_ble_eq_true rfl⟩ (fun H locs hP hS => ?_)
              refine lv_iload hx hb dL_tells_719 (lv_at hl 3 rfl) ?_
              refine lv_icmp_ne (tgt := 802) hx hb dL_tells_721 (by decide) (fun h => absurd rfl h) (fun _ => ?_)
              refine lv_aload_n hx hb dL_tells_724 rfl (lv_at hl 9 rfl) ?_
              refine lv_iconst (v := nI 5) hx hb dL_tells_725 (by decide) ?_
              refine nw_Or (ceO := O) (ceO' := O) (ce' := pcw O (lwc ct Z r)) (As := [.int (nI 5)]) (rest := []) hx hb hml hown htg hK hI hP hS (fun _ h => fA_in h) hl.1 (by decide) pcl pcl (fun _ _ _ => rfl) (@os_count l D ct ad _ _ _ (5) hOS hO (by omega)) cw_L_42 h0 rfl rfl ⟨Nat.le_of_ble_eq_true rfl, Nat.le_of_ble_eq_true rfl⟩ (Nat.le_of_ble_eq_true rfl) dL_tells_726 ⟨Nat.le_of_ble_eq_true rfl, Nat.le_of_ble_eq_true rfl⟩ (fun H locs hP hS => ?_)
              refine lv_iload hx hb dL_tells_729 (lv_at hl 7 rfl) ?_
              refine lv_icmp_ne (tgt := 802) hx hb dL_tells_731 (by decide) (fun h => absurd rfl h) (fun _ => ?_)
              refine lv_aload_n hx hb dL_tells_734 rfl (lv_at hl 9 rfl) ?_
              refine lv_bipush (v := nI 6) hx hb dL_tells_735 (by decide) ?_
              refine nw_Or (ceO := O) (ceO' := O) (ce' := pcw O (lwc ct Z r)) (As := [.int (nI 6)]) (rest := []) hx hb hml hown htg hK hI hP hS (fun _ h => fA_in h) hl.1 (by decide) pcl pcl (fun _ _ _ => rfl) (@os_count l D ct ad _ _ _ (6) hOS hO (by omega)) cw_L_42 h0 rfl rfl ⟨Nat.le_of_ble_eq_true rfl, Nat.le_of_ble_eq_true rfl⟩ (Nat.le_of_ble_eq_true rfl) dL_tells_737 ⟨Nat.le_of_ble_eq_true rfl, Nat.le_of_ble_eq_true rfl⟩ (fun H locs hP hS => ?_)
              refine lv_iload hx hb dL_tells_740 (lv_at hl 2 rfl) ?_
              refine lv_icmp_ne (tgt := 802) hx hb dL_tells_742 (by decide) (fun h => absurd rfl h) (fun _ => ?_)
              refine lv_iload hx hb dL_tells_745 (lv_at hl 7 rfl) ?_
              refine lv_iload hx hb dL_tells_747 (lv_at hl 2 rfl) ?_
              refine lv_icmp_ne (tgt := 802) hx hb dL_tells_749 (by decide) (fun h => absurd hmt h) (fun _ => ?_)
              refine lv_aload_n hx hb dL_tells_752 rfl (lv_at hl 9 rfl) ?_
              refine lv_bipush (v := nI 7) hx hb dL_tells_753 (by decide) ?_
              refine nw_Or (ceO := O) (ceO' := O) (ce' := pcw O (lwc ct Z r)) (As := [.int (nI 7)]) (rest := []) hx hb hml hown htg hK hI hP hS (fun _ h => fA_in h) hl.1 (by decide) pcl pcl (fun _ _ _ => rfl) (@os_count l D ct ad _ _ _ (7) hOS hO (by omega)) cw_L_42 h0 rfl rfl ⟨Nat.le_of_ble_eq_true rfl, Nat.le_of_ble_eq_true rfl⟩ (Nat.le_of_ble_eq_true rfl) dL_tells_755 ⟨Nat.le_of_ble_eq_true rfl, Nat.le_of_ble_eq_true rfl⟩ (fun H locs hP hS => ?_)
              refine lv_iload hx hb dL_tells_758 (lv_at hl 1 rfl) ?_
              refine lv_icmp_ne (tgt := 802) hx hb dL_tells_760 (by decide) (fun h => absurd rfl h) (fun _ => ?_)
              refine lv_aload_n hx hb dL_tells_763 rfl (lv_at hl 9 rfl) ?_
              refine lv_bipush (v := nI 8) hx hb dL_tells_764 (by decide) ?_
              refine nw_Or (ceO := O) (ceO' := O) (ce' := pcw O (lwc ct Z r)) (As := [.int (nI 8)]) (rest := []) hx hb hml hown htg hK hI hP hS (fun _ h => fA_in h) hl.1 (by decide) pcl pcl (fun _ _ _ => rfl) (@os_count l D ct ad _ _ _ (8) hOS hO (by omega)) cw_L_42 h0 rfl rfl ⟨Nat.le_of_ble_eq_true rfl, Nat.le_of_ble_eq_true rfl⟩ (Nat.le_of_ble_eq_true rfl) dL_tells_766 ⟨Nat.le_of_ble_eq_true rfl, Nat.le_of_ble_eq_true rfl⟩ (fun H locs hP hS => ?_)
              refine lv_iload hx hb dL_tells_769 (lv_at hl 6 rfl) ?_
              refine lv_teq hsd ?_
              refine lv_icmp_ne (tgt := 802) hx hb dL_tells_771 (by decide) (fun h => absurd hsd h) (fun _ => ?_)
              refine lv_aload_n hx hb dL_tells_774 rfl (lv_at hl 9 rfl) ?_
              refine lv_bipush (v := nI 9) hx hb dL_tells_775 (by decide) ?_
              refine nw_Or (ceO := O) (ceO' := O) (ce' := pcw O (lwc ct Z r)) (As := [.int (nI 9)]) (rest := []) hx hb hml hown htg hK hI hP hS (fun _ h => fA_in h) hl.1 (by decide) pcl pcl (fun _ _ _ => rfl) (@os_count l D ct ad _ _ _ (9) hOS hO (by omega)) cw_L_42 h0 rfl rfl ⟨Nat.le_of_ble_eq_true rfl, Nat.le_of_ble_eq_true rfl⟩ (Nat.le_of_ble_eq_true rfl) dL_tells_777 ⟨Nat.le_of_ble_eq_true rfl, Nat.le_of_ble_eq_true rfl⟩ (fun H locs hP hS => ?_)
              refine lv_iload hx hb dL_tells_780 (lv_at hl 5 rfl) ?_
              refine lv_icmp_ne (tgt := 802) hx hb dL_tells_782 (by decide) (fun h => absurd rfl h) (fun _ => ?_)
              refine lv_aload_n hx hb dL_tells_785 rfl (lv_at hl 9 rfl) ?_
              refine lv_bipush (v := nI 10) hx hb dL_tells_786 (by decide) ?_
              refine nw_Or (ceO := O) (ceO' := O) (ce' := pcw O (lwc ct Z r)) (As := [.int (nI 10)]) (rest := []) hx hb hml hown htg hK hI hP hS (fun _ h => fA_in h) hl.1 (by decide) pcl pcl (fun _ _ _ => rfl) (@os_count l D ct ad _ _ _ (10) hOS hO (by omega)) cw_L_42 h0 rfl rfl ⟨Nat.le_of_ble_eq_true rfl, Nat.le_of_ble_eq_true rfl⟩ (Nat.le_of_ble_eq_true rfl) dL_tells_788 ⟨Nat.le_of_ble_eq_true rfl, Nat.le_of_ble_eq_true rfl⟩ (fun H locs hP hS => ?_)
              refine lv_aload hx hb dL_tells_791 (lv_at hl 14 rfl) ?_
              refine lv_iconst (v := nI 5) hx hb dL_tells_793 (by decide) ?_
              refine fr_iald (k := 202) (f := vwT Z) hx hb hK hP (by decide) rfl (by omega) (by decide) dL_tells_794 ?_
              refine lv_teq (vwT_at (by omega)) ?_
              refine lv_icmp_ne (tgt := 802) hx hb dL_tells_795 (by decide) (fun h => absurd rfl h) (fun _ => ?_)
              refine lv_iconst (v := nI 1) hx hb dL_tells_798 (by decide) ?_
              refine lv_goto (tgt := 803) hx hb dL_tells_799 (by decide) ?_
              refine lv_istore (lv' := [(14, .int (nI 1)), (13, .int (sumB Z 3 4)), (12, .int (sumB Z 4 4)), (11, .int (sumB Z 1 4)), (10, .int (plgS Z n)), (9, .int (sumS Z 9 n)), (8, .int (sumS Z 7 n)), (7, .int (sumS Z 6 n)), (6, .int (drA Z n)), (0, .ref (ad 0)), (1, .ref (ad 198)), (2, .ref (ad 199)), (3, .ref (ad 200)), (4, .ref (ad 201)), (5, .ref (ad 202))]) hx hb dL_tells_803 hl (by decide) rfl (fun ls hl => ?_)
              refine lv_iload hx hb dL_tells_805 (lv_at hl 0 rfl) ?_
              refine lv_if_eq (tgt := 853) hx hb dL_tells_807 (by decide) (fun h => absurd h (by decide)) (fun _ => ?_)
              refine lv_aload_n hx hb dL_tells_810 rfl (lv_at hl 9 rfl) ?_
              refine nw_Or (ceO := O) (ceO' := O) (ce' := pcw O (lwc ct Z r)) (As := []) (rest := []) hx hb hml hown htg hK hI hP hS (fun _ h => fA_in h) hl.1 (by decide) pcl pcl (fun _ _ _ => rfl) (@os_servedShare l D ct ad _ _ _ _ _ hOS hO hsv hsd hss) cw_L_46 h0 rfl rfl ⟨Nat.le_of_ble_eq_true rfl, Nat.le_of_ble_eq_true rfl⟩ (Nat.le_of_ble_eq_true rfl) dL_tells_811 ⟨Nat.le_of_ble_eq_true rfl, Nat.le_of_ble_eq_true rfl⟩ (fun H locs hP hS => ?_)
              refine lv_aload hx hb dL_tells_814 (lv_at hl 14 rfl) ?_
              refine lv_bipush (v := nI 6) hx hb dL_tells_816 (by decide) ?_
              refine fr_iald (k := 202) (f := vwT Z) hx hb hK hP (by decide) rfl (by omega) (by decide) dL_tells_818 ?_
              refine lv_teq (vwT_at (by omega)) ?_
              refine lv_teq hsv ?_
              refine lv_iload hx hb dL_tells_819 (lv_at hl 6 rfl) ?_
              refine lv_teq hsd ?_
              refine lv_iaddN hx hb dL_tells_821 ?_
              suffices hJ845 : W p l e ({ frames := 5, cells := 0, slots := 0, locals := 109 }) s m args below meth c H locs 0 0 (MQ below (fQ D ct 203 ad (some (.int (nI 1))) (pcw O (lwc ct Z r))) args s 0 0 (fA 203 ad)) (F0 m 845 ls [.double (shD sv sd), .double (shD sv sd)]) by
                refine lv_ifneN (tgt := 829) hx hb (by omega) dL_tells_822 (by decide) (fun c822 => ?_) (fun c822 => ?_)
                · refine lv_aload hx hb dL_tells_829 (lv_at hl 14 rfl) ?_
                  refine lv_bipush (v := nI 6) hx hb dL_tells_831 (by decide) ?_
                  refine fr_iald (k := 202) (f := vwT Z) hx hb hK hP (by decide) rfl (by omega) (by decide) dL_tells_833 ?_
                  refine lv_teq (vwT_at (by omega)) ?_
                  refine lv_teq hsv ?_
                  refine lv_i2d hx hb dL_tells_834 ?_
                  refine lv_aload hx hb dL_tells_835 (lv_at hl 14 rfl) ?_
                  refine lv_bipush (v := nI 6) hx hb dL_tells_837 (by decide) ?_
                  refine fr_iald (k := 202) (f := vwT Z) hx hb hK hP (by decide) rfl (by omega) (by decide) dL_tells_839 ?_
                  refine lv_teq (vwT_at (by omega)) ?_
                  refine lv_teq hsv ?_
                  refine lv_iload hx hb dL_tells_840 (lv_at hl 6 rfl) ?_
                  refine lv_teq hsd ?_
                  refine lv_iaddN hx hb dL_tells_842 ?_
                  refine lv_i2d hx hb dL_tells_843 ?_
                  refine lv_ddiv hx hb dL_tells_844 (shOk_n (by have h9 := shD_ok hss; rw [shD, if_neg c822] at h9; exact h9)) ?_
                  exact lv_tveq (show Value.double (FP.ddiv (FP.i2d (nI sv)) (FP.i2d (nI (sv + sd)))) = Value.double (shD sv sd) from by first | exact congrArg Value.double (if_pos c822).symm | exact congrArg Value.double (if_neg c822).symm) hJ845
                · refine lv_dconst1 hx hb dL_tells_825 ?_
                  refine lv_goto (tgt := 845) hx hb dL_tells_826 (by decide) ?_
                  exact lv_tveq (show Value.double (FP.dconst1) = Value.double (shD sv sd) from by first | exact congrArg Value.double (if_pos c822).symm | exact congrArg Value.double (if_neg c822).symm) hJ845
              refine lv_dcmp hx hb dL_tells_845 ?_
              refine lv_teq (cmp_eq (shD_ok hss)) ?_
              refine lv_if_ne (tgt := 853) hx hb dL_tells_846 (by decide) (fun h => absurd (by decide) h) (fun _ => ?_)
              refine lv_iconst (v := nI 1) hx hb dL_tells_849 (by decide) ?_
              refine lv_goto (tgt := 854) hx hb dL_tells_850 (by decide) ?_
              refine fr_iret hx hb hr hlocks hK hI hS rfl dL_tells_854 ?_ ?_
              · exact rfl
              · exact hP
            · refine lv_iconst (v := nI 0) hx hb dL_tells_339 (by decide) ?_
              refine lv_istore (lv' := [(15, .int (nI 0)), (14, .int (nI i)), (13, .int (sumB Z 3 i)), (12, .int (sumB Z 4 i)), (11, .int (sumB Z 1 i)), (10, .int (plgS Z n)), (9, .int (sumS Z 9 n)), (8, .int (sumS Z 7 n)), (7, .int (sumS Z 6 n)), (6, .int (drA Z n)), (0, .ref (ad 0)), (1, .ref (ad 198)), (2, .ref (ad 199)), (3, .ref (ad 200)), (4, .ref (ad 201)), (5, .ref (ad 202))]) hx hb dL_tells_340 hl (by decide) rfl (fun ls hl => ?_)
              refine lv_iconst (v := nI 0) hx hb dL_tells_342 (by decide) ?_
              refine lv_istore (lv' := [(16, .int (nI 0)), (15, .int (nI 0)), (14, .int (nI i)), (13, .int (sumB Z 3 i)), (12, .int (sumB Z 4 i)), (11, .int (sumB Z 1 i)), (10, .int (plgS Z n)), (9, .int (sumS Z 9 n)), (8, .int (sumS Z 7 n)), (7, .int (sumS Z 6 n)), (6, .int (drA Z n)), (0, .ref (ad 0)), (1, .ref (ad 198)), (2, .ref (ad 199)), (3, .ref (ad 200)), (4, .ref (ad 201)), (5, .ref (ad 202))]) hx hb dL_tells_343 hl (by decide) rfl (fun ls hl => ?_)
              have lp345 : ∀ (fu345 : Nat) (j : Nat), j ≤ n → n - j < fu345 → ∀ (H : Heap) (locs : List Loc), fP D 203 ad (pcw O (lwc ct Z r)) H → va_S (fA 203 ad) s.heap H locs → ∀ (ls : Array Slot), lv_has ls 18 [(16, .int (nI j)), (15, .int (allS Z i j)), (14, .int (nI i)), (13, .int (sumB Z 3 i)), (12, .int (sumB Z 4 i)), (11, .int (sumB Z 1 i)), (10, .int (plgS Z n)), (9, .int (sumS Z 9 n)), (8, .int (sumS Z 7 n)), (7, .int (sumS Z 6 n)), (6, .int (drA Z n)), (0, .ref (ad 0)), (1, .ref (ad 198)), (2, .ref (ad 199)), (3, .ref (ad 200)), (4, .ref (ad 201)), (5, .ref (ad 202))] → W p l e ({ frames := 5, cells := 0, slots := 0, locals := 109 }) s m args below meth c H locs 0 0 (MQ below (fQ D ct 203 ad (some (.int (nI 1))) (pcw O (lwc ct Z r))) args s 0 0 (fA 203 ad)) (F0 m 345 ls []) := by
                intro fu345
                induction fu345 with
                | zero => intro j hj hfu345; exact absurd hfu345 (Nat.not_lt_zero _)
                | succ fu345 ih345 =>
                  intro j hj hfu345 H locs hP hS ls hl
                  refine lv_iload hx hb dL_tells_345 (lv_at hl 0 rfl) ?_
                  refine lv_aload hx hb dL_tells_347 (lv_at hl 16 rfl) ?_
                  refine lv_iconst (v := nI 4) hx hb dL_tells_349 (by decide) ?_
                  refine fr_iald (k := 202) (f := vwT Z) hx hb hK hP (by decide) rfl (by omega) (by decide) dL_tells_350 ?_
                  refine lv_teq (vwT_at (by omega)) ?_
                  refine lv_teq (hg).1.2.1 ?_
                  refine lv_icmp_geN (tgt := 419) hx hb (by omega) (by omega) dL_tells_351 (by decide) (fun c351 => ?_) (fun c351 => ?_)
                  · have e9 : n = j := by omega
                    subst e9
                    refine lv_aload_n hx hb dL_tells_419 rfl (lv_at hl 11 rfl) ?_
                    refine lv_iload hx hb dL_tells_420 (lv_at hl 2 rfl) ?_
                    refine lv_iconst (v := nI 0) hx hb dL_tells_422 (by decide) ?_
                    refine nw_Or (ceO := O) (ceO' := O) (ce' := pcw O (lwc ct Z r)) (As := [.int (nI i), .int (nI 0)]) (rest := []) hx hb hml hown htg hK hI hP hS (fun _ h => fA_in h) hl.1 (by decide) pcl pcl (fun _ _ _ => rfl) (@os_breaker l D ct ad _ _ _ (i) (0) hOS hO (by omega) (by omega)) cw_L_33 h0 rfl rfl ⟨Nat.le_of_ble_eq_true rfl, Nat.le_of_ble_eq_true rfl⟩ (Nat.le_of_ble_eq_true rfl) dL_tells_423 ⟨Nat.le_of_ble_eq_true rfl, Nat.le_of_ble_eq_true rfl⟩ (fun H locs hP hS => ?_)
                    refine lv_aload_n hx hb dL_tells_426 rfl (lv_at hl 14 rfl) ?_
                    refine lv_iconst (v := nI 5) hx hb dL_tells_427 (by decide) ?_
                    refine lv_iload hx hb dL_tells_428 (lv_at hl 2 rfl) ?_
                    refine lv_imulN hx hb dL_tells_430 ?_
                    refine fr_iald (k := 200) (f := vwB Z) hx hb hK hP (by decide) rfl (by omega) (by decide) dL_tells_431 ?_
                    refine lv_teq (vwB_a0 (by omega)) ?_
                    refine lv_icmp_ne (tgt := 545) hx hb dL_tells_432 (by decide) (fun h => absurd rfl h) (fun _ => ?_)
                    refine lv_aload_n hx hb dL_tells_435 rfl (lv_at hl 11 rfl) ?_
                    refine lv_iload hx hb dL_tells_436 (lv_at hl 2 rfl) ?_
                    refine lv_iconst (v := nI 1) hx hb dL_tells_438 (by decide) ?_
                    refine nw_Or (ceO := O) (ceO' := O) (ce' := pcw O (lwc ct Z r)) (As := [.int (nI i), .int (nI 1)]) (rest := []) hx hb hml hown htg hK hI hP hS (fun _ h => fA_in h) hl.1 (by decide) pcl pcl (fun _ _ _ => rfl) (@os_breaker l D ct ad _ _ _ (i) (1) hOS hO (by omega) (by omega)) cw_L_33 h0 rfl rfl ⟨Nat.le_of_ble_eq_true rfl, Nat.le_of_ble_eq_true rfl⟩ (Nat.le_of_ble_eq_true rfl) dL_tells_439 ⟨Nat.le_of_ble_eq_true rfl, Nat.le_of_ble_eq_true rfl⟩ (fun H locs hP hS => ?_)
                    refine lv_aload_n hx hb dL_tells_442 rfl (lv_at hl 14 rfl) ?_
                    refine lv_iconst (v := nI 5) hx hb dL_tells_443 (by decide) ?_
                    refine lv_iload hx hb dL_tells_444 (lv_at hl 2 rfl) ?_
                    refine lv_imulN hx hb dL_tells_446 ?_
                    refine lv_iconst (v := nI 1) hx hb dL_tells_447 (by decide) ?_
                    refine lv_iaddN hx hb dL_tells_448 ?_
                    refine fr_iald (k := 200) (f := vwB Z) hx hb hK hP (by decide) rfl (by omega) (by decide) dL_tells_449 ?_
                    refine lv_teq (vwB_at (by omega) (by omega)) ?_
                    refine lv_icmp_ne (tgt := 545) hx hb dL_tells_450 (by decide) (fun h => absurd rfl h) (fun _ => ?_)
                    refine lv_aload_n hx hb dL_tells_453 rfl (lv_at hl 11 rfl) ?_
                    refine lv_iload hx hb dL_tells_454 (lv_at hl 2 rfl) ?_
                    refine lv_iconst (v := nI 2) hx hb dL_tells_456 (by decide) ?_
                    refine nw_Or (ceO := O) (ceO' := O) (ce' := pcw O (lwc ct Z r)) (As := [.int (nI i), .int (nI 2)]) (rest := []) hx hb hml hown htg hK hI hP hS (fun _ h => fA_in h) hl.1 (by decide) pcl pcl (fun _ _ _ => rfl) (@os_breaker l D ct ad _ _ _ (i) (2) hOS hO (by omega) (by omega)) cw_L_33 h0 rfl rfl ⟨Nat.le_of_ble_eq_true rfl, Nat.le_of_ble_eq_true rfl⟩ (Nat.le_of_ble_eq_true rfl) dL_tells_457 ⟨Nat.le_of_ble_eq_true rfl, Nat.le_of_ble_eq_true rfl⟩ (fun H locs hP hS => ?_)
                    refine lv_aload_n hx hb dL_tells_460 rfl (lv_at hl 14 rfl) ?_
                    refine lv_iconst (v := nI 5) hx hb dL_tells_461 (by decide) ?_
                    refine lv_iload hx hb dL_tells_462 (lv_at hl 2 rfl) ?_
                    refine lv_imulN hx hb dL_tells_464 ?_
                    refine lv_iconst (v := nI 2) hx hb dL_tells_465 (by decide) ?_
                    refine lv_iaddN hx hb dL_tells_466 ?_
                    refine fr_iald (k := 200) (f := vwB Z) hx hb hK hP (by decide) rfl (by omega) (by decide) dL_tells_467 ?_
                    refine lv_teq (vwB_at (by omega) (by omega)) ?_
                    refine lv_icmp_ne (tgt := 545) hx hb dL_tells_468 (by decide) (fun h => absurd rfl h) (fun _ => ?_)
                    refine lv_aload_n hx hb dL_tells_471 rfl (lv_at hl 11 rfl) ?_
                    refine lv_iload hx hb dL_tells_472 (lv_at hl 2 rfl) ?_
                    refine lv_iconst (v := nI 3) hx hb dL_tells_474 (by decide) ?_
                    refine nw_Or (ceO := O) (ceO' := O) (ce' := pcw O (lwc ct Z r)) (As := [.int (nI i), .int (nI 3)]) (rest := []) hx hb hml hown htg hK hI hP hS (fun _ h => fA_in h) hl.1 (by decide) pcl pcl (fun _ _ _ => rfl) (@os_breaker l D ct ad _ _ _ (i) (3) hOS hO (by omega) (by omega)) cw_L_33 h0 rfl rfl ⟨Nat.le_of_ble_eq_true rfl, Nat.le_of_ble_eq_true rfl⟩ (Nat.le_of_ble_eq_true rfl) dL_tells_475 ⟨Nat.le_of_ble_eq_true rfl, Nat.le_of_ble_eq_true rfl⟩ (fun H locs hP hS => ?_)
                    refine lv_aload_n hx hb dL_tells_478 rfl (lv_at hl 12 rfl) ?_
                    refine lv_aload_n hx hb dL_tells_479 rfl (lv_at hl 14 rfl) ?_
                    refine lv_aload hx hb dL_tells_480 (lv_at hl 15 rfl) ?_
                    refine lv_aload hx hb dL_tells_482 (lv_at hl 16 rfl) ?_
                    refine lv_iload hx hb dL_tells_484 (lv_at hl 2 rfl) ?_
                    refine nw_Sr (N1 := 5) (nm := (fun z => 198 + z)) (ce1 := lwc ct Z r) (ce1' := lwc ct Z r) (ce' := pcw O (lwc ct Z r)) (As := [.ref (ad 198), .ref (ad 200), .ref (ad 201), .ref (ad 202), .int (nI i)]) (rest := [.int (tldB Z i n 3)]) hx hb hml hown htg hK hI hP hS (fun _ h => fA_in h) hl.1 p203 pinj pcr pcr (fun _ _ _ => rfl) (mL_carries l D ct (fun z => ad ((fun z => 198 + z) z)) Z r i n hg (by omega)) cw_L_24 rfl rfl ⟨Nat.le_of_ble_eq_true rfl, Nat.le_of_ble_eq_true rfl⟩ (Nat.le_of_ble_eq_true rfl) dL_tells_486 ⟨Nat.le_of_ble_eq_true rfl, Nat.le_of_ble_eq_true rfl⟩ (fun H locs hP hS => ?_)
                    refine lv_icmp_ne (tgt := 545) hx hb dL_tells_489 (by decide) (fun h => absurd rfl h) (fun _ => ?_)
                    refine lv_aload_n hx hb dL_tells_492 rfl (lv_at hl 11 rfl) ?_
                    refine lv_iload hx hb dL_tells_493 (lv_at hl 2 rfl) ?_
                    refine lv_iconst (v := nI 4) hx hb dL_tells_495 (by decide) ?_
                    refine nw_Or (ceO := O) (ceO' := O) (ce' := pcw O (lwc ct Z r)) (As := [.int (nI i), .int (nI 4)]) (rest := []) hx hb hml hown htg hK hI hP hS (fun _ h => fA_in h) hl.1 (by decide) pcl pcl (fun _ _ _ => rfl) (@os_breaker l D ct ad _ _ _ (i) (4) hOS hO (by omega) (by omega)) cw_L_33 h0 rfl rfl ⟨Nat.le_of_ble_eq_true rfl, Nat.le_of_ble_eq_true rfl⟩ (Nat.le_of_ble_eq_true rfl) dL_tells_496 ⟨Nat.le_of_ble_eq_true rfl, Nat.le_of_ble_eq_true rfl⟩ (fun H locs hP hS => ?_)
                    refine lv_iload hx hb dL_tells_499 (lv_at hl 1 rfl) ?_
                    refine lv_icmp_ne (tgt := 545) hx hb dL_tells_501 (by decide) (fun h => absurd rfl h) (fun _ => ?_)
                    refine lv_aload_n hx hb dL_tells_504 rfl (lv_at hl 11 rfl) ?_
                    refine lv_iload hx hb dL_tells_505 (lv_at hl 2 rfl) ?_
                    refine lv_iconst (v := nI 5) hx hb dL_tells_507 (by decide) ?_
                    refine nw_Or (ceO := O) (ceO' := O) (ce' := pcw O (lwc ct Z r)) (As := [.int (nI i), .int (nI 5)]) (rest := []) hx hb hml hown htg hK hI hP hS (fun _ h => fA_in h) hl.1 (by decide) pcl pcl (fun _ _ _ => rfl) (@os_breaker l D ct ad _ _ _ (i) (5) hOS hO (by omega) (by omega)) cw_L_33 h0 rfl rfl ⟨Nat.le_of_ble_eq_true rfl, Nat.le_of_ble_eq_true rfl⟩ (Nat.le_of_ble_eq_true rfl) dL_tells_508 ⟨Nat.le_of_ble_eq_true rfl, Nat.le_of_ble_eq_true rfl⟩ (fun H locs hP hS => ?_)
                    refine lv_aload_n hx hb dL_tells_511 rfl (lv_at hl 14 rfl) ?_
                    refine lv_iconst (v := nI 5) hx hb dL_tells_512 (by decide) ?_
                    refine lv_iload hx hb dL_tells_513 (lv_at hl 2 rfl) ?_
                    refine lv_imulN hx hb dL_tells_515 ?_
                    refine lv_iconst (v := nI 3) hx hb dL_tells_516 (by decide) ?_
                    refine lv_iaddN hx hb dL_tells_517 ?_
                    refine fr_iald (k := 200) (f := vwB Z) hx hb hK hP (by decide) rfl (by omega) (by decide) dL_tells_518 ?_
                    refine lv_teq (vwB_at (by omega) (by omega)) ?_
                    refine lv_icmp_ne (tgt := 545) hx hb dL_tells_519 (by decide) (fun h => absurd rfl h) (fun _ => ?_)
                    refine lv_aload_n hx hb dL_tells_522 rfl (lv_at hl 11 rfl) ?_
                    refine lv_iload hx hb dL_tells_523 (lv_at hl 2 rfl) ?_
                    refine lv_bipush (v := nI 6) hx hb dL_tells_525 (by decide) ?_
                    refine nw_Or (ceO := O) (ceO' := O) (ce' := pcw O (lwc ct Z r)) (As := [.int (nI i), .int (nI 6)]) (rest := []) hx hb hml hown htg hK hI hP hS (fun _ h => fA_in h) hl.1 (by decide) pcl pcl (fun _ _ _ => rfl) (@os_breaker l D ct ad _ _ _ (i) (6) hOS hO (by omega) (by omega)) cw_L_33 h0 rfl rfl ⟨Nat.le_of_ble_eq_true rfl, Nat.le_of_ble_eq_true rfl⟩ (Nat.le_of_ble_eq_true rfl) dL_tells_527 ⟨Nat.le_of_ble_eq_true rfl, Nat.le_of_ble_eq_true rfl⟩ (fun H locs hP hS => ?_)
                    refine lv_aload_n hx hb dL_tells_530 rfl (lv_at hl 14 rfl) ?_
                    refine lv_iconst (v := nI 5) hx hb dL_tells_531 (by decide) ?_
                    refine lv_iload hx hb dL_tells_532 (lv_at hl 2 rfl) ?_
                    refine lv_imulN hx hb dL_tells_534 ?_
                    refine lv_iconst (v := nI 4) hx hb dL_tells_535 (by decide) ?_
                    refine lv_iaddN hx hb dL_tells_536 ?_
                    refine fr_iald (k := 200) (f := vwB Z) hx hb hK hP (by decide) rfl (by omega) (by decide) dL_tells_537 ?_
                    refine lv_teq (vwB_at (by omega) (by omega)) ?_
                    refine lv_icmp_ne (tgt := 545) hx hb dL_tells_538 (by decide) (fun h => absurd rfl h) (fun _ => ?_)
                    refine lv_iconst (v := nI 1) hx hb dL_tells_541 (by decide) ?_
                    refine lv_goto (tgt := 546) hx hb dL_tells_542 (by decide) ?_
                    refine lv_istore (lv' := [(16, .int (nI 1)), (15, .int (allS Z i n)), (14, .int (nI i)), (13, .int (sumB Z 3 i)), (12, .int (sumB Z 4 i)), (11, .int (sumB Z 1 i)), (10, .int (plgS Z n)), (9, .int (sumS Z 9 n)), (8, .int (sumS Z 7 n)), (7, .int (sumS Z 6 n)), (6, .int (drA Z n)), (0, .ref (ad 0)), (1, .ref (ad 198)), (2, .ref (ad 199)), (3, .ref (ad 200)), (4, .ref (ad 201)), (5, .ref (ad 202))]) hx hb dL_tells_546 hl (by decide) rfl (fun ls hl => ?_)
                    refine lv_iconst (v := nI 3) hx hb dL_tells_548 (by decide) ?_
                    refine lv_iload hx hb dL_tells_549 (lv_at hl 2 rfl) ?_
                    refine lv_imulN hx hb dL_tells_551 ?_
                    refine lv_istore (lv' := [(17, .int (nI (3 * i))), (16, .int (nI 1)), (15, .int (allS Z i n)), (14, .int (nI i)), (13, .int (sumB Z 3 i)), (12, .int (sumB Z 4 i)), (11, .int (sumB Z 1 i)), (10, .int (plgS Z n)), (9, .int (sumS Z 9 n)), (8, .int (sumS Z 7 n)), (7, .int (sumS Z 6 n)), (6, .int (drA Z n)), (0, .ref (ad 0)), (1, .ref (ad 198)), (2, .ref (ad 199)), (3, .ref (ad 200)), (4, .ref (ad 201)), (5, .ref (ad 202))]) hx hb dL_tells_552 hl (by decide) rfl (fun ls hl => ?_)
                    have lp554 : ∀ (fu554 : Nat) (j : Nat), j ≤ 3 → 3 - j < fu554 → ∀ (H : Heap) (locs : List Loc), fP D 203 ad (pcw O (lwc ct Z r)) H → va_S (fA 203 ad) s.heap H locs → ∀ (ls : Array Slot), lv_has ls 18 [(17, .int (nI (3 * i + j))), (16, .int (nI 1)), (15, .int (allS Z i n)), (14, .int (nI i)), (13, .int (sumB Z 3 i)), (12, .int (sumB Z 4 i)), (11, .int (sumB Z 1 i)), (10, .int (plgS Z n)), (9, .int (sumS Z 9 n)), (8, .int (sumS Z 7 n)), (7, .int (sumS Z 6 n)), (6, .int (drA Z n)), (0, .ref (ad 0)), (1, .ref (ad 198)), (2, .ref (ad 199)), (3, .ref (ad 200)), (4, .ref (ad 201)), (5, .ref (ad 202))] → W p l e ({ frames := 5, cells := 0, slots := 0, locals := 109 }) s m args below meth c H locs 0 0 (MQ below (fQ D ct 203 ad (some (.int (nI 1))) (pcw O (lwc ct Z r))) args s 0 0 (fA 203 ad)) (F0 m 554 ls []) := by
                      intro fu554
                      induction fu554 with
                      | zero => intro j hj hfu554; exact absurd hfu554 (Nat.not_lt_zero _)
                      | succ fu554 ih554 =>
                        intro j hj hfu554 H locs hP hS ls hl
                        refine lv_iload hx hb dL_tells_554 (lv_at hl 0 rfl) ?_
                        refine lv_iconst (v := nI 3) hx hb dL_tells_556 (by decide) ?_
                        refine lv_iload hx hb dL_tells_557 (lv_at hl 3 rfl) ?_
                        refine lv_imulN hx hb dL_tells_559 ?_
                        refine lv_iconst (v := nI 3) hx hb dL_tells_560 (by decide) ?_
                        refine lv_iaddN hx hb dL_tells_561 ?_
                        refine lv_icmp_geN (tgt := 618) hx hb (by omega) (by omega) dL_tells_562 (by decide) (fun c562 => ?_) (fun c562 => ?_)
                        · obtain rfl : j = 3 := by omega
                          refine lv_iload hx hb dL_tells_618 (lv_at hl 1 rfl) ?_
                          refine lv_if_ne (tgt := 625) hx hb dL_tells_620 (by decide) (fun _ => ?_) (fun h => absurd h (by decide))
                          refine lv_iload hx hb dL_tells_625 (lv_at hl 6 rfl) ?_
                          refine lv_aload_n hx hb dL_tells_627 rfl (lv_at hl 15 rfl) ?_
                          refine lv_iconst (v := nI 5) hx hb dL_tells_628 (by decide) ?_
                          refine lv_iload hx hb dL_tells_629 (lv_at hl 3 rfl) ?_
                          refine lv_imulN hx hb dL_tells_631 ?_
                          refine lv_iconst (v := nI 1) hx hb dL_tells_632 (by decide) ?_
                          refine lv_iaddN hx hb dL_tells_633 ?_
                          refine fr_iald (k := 200) (f := vwB Z) hx hb hK hP (by decide) rfl (by omega) (by decide) dL_tells_634 ?_
                          refine lv_teq (vwB_at (by omega) (by omega)) ?_
                          refine lv_iadd hx hb dL_tells_635 ?_
                          refine lv_istore (lv' := [(11, .int ((sumB Z 1 i) + (Z (7 + 5 * i + 1)))), (17, .int (nI (3 * i + 3))), (16, .int (nI 1)), (15, .int (allS Z i n)), (14, .int (nI i)), (13, .int (sumB Z 3 i)), (12, .int (sumB Z 4 i)), (10, .int (plgS Z n)), (9, .int (sumS Z 9 n)), (8, .int (sumS Z 7 n)), (7, .int (sumS Z 6 n)), (6, .int (drA Z n)), (0, .ref (ad 0)), (1, .ref (ad 198)), (2, .ref (ad 199)), (3, .ref (ad 200)), (4, .ref (ad 201)), (5, .ref (ad 202))]) hx hb dL_tells_636 hl (by decide) rfl (fun ls hl => ?_)
                          refine lv_iload hx hb dL_tells_638 (lv_at hl 5 rfl) ?_
                          refine lv_aload_n hx hb dL_tells_640 rfl (lv_at hl 15 rfl) ?_
                          refine lv_iconst (v := nI 5) hx hb dL_tells_641 (by decide) ?_
                          refine lv_iload hx hb dL_tells_642 (lv_at hl 4 rfl) ?_
                          refine lv_imulN hx hb dL_tells_644 ?_
                          refine lv_iconst (v := nI 3) hx hb dL_tells_645 (by decide) ?_
                          refine lv_iaddN hx hb dL_tells_646 ?_
                          refine fr_iald (k := 200) (f := vwB Z) hx hb hK hP (by decide) rfl (by omega) (by decide) dL_tells_647 ?_
                          refine lv_teq (vwB_at (by omega) (by omega)) ?_
                          refine lv_iadd hx hb dL_tells_648 ?_
                          refine lv_istore (lv' := [(13, .int ((sumB Z 3 i) + (Z (7 + 5 * i + 3)))), (11, .int ((sumB Z 1 i) + (Z (7 + 5 * i + 1)))), (17, .int (nI (3 * i + 3))), (16, .int (nI 1)), (15, .int (allS Z i n)), (14, .int (nI i)), (12, .int (sumB Z 4 i)), (10, .int (plgS Z n)), (9, .int (sumS Z 9 n)), (8, .int (sumS Z 7 n)), (7, .int (sumS Z 6 n)), (6, .int (drA Z n)), (0, .ref (ad 0)), (1, .ref (ad 198)), (2, .ref (ad 199)), (3, .ref (ad 200)), (4, .ref (ad 201)), (5, .ref (ad 202))]) hx hb dL_tells_649 hl (by decide) rfl (fun ls hl => ?_)
                          refine lv_iload hx hb dL_tells_651 (lv_at hl 6 rfl) ?_
                          refine lv_aload_n hx hb dL_tells_653 rfl (lv_at hl 15 rfl) ?_
                          refine lv_iconst (v := nI 5) hx hb dL_tells_654 (by decide) ?_
                          refine lv_iload hx hb dL_tells_655 (lv_at hl 5 rfl) ?_
                          refine lv_imulN hx hb dL_tells_657 ?_
                          refine lv_iconst (v := nI 4) hx hb dL_tells_658 (by decide) ?_
                          refine lv_iaddN hx hb dL_tells_659 ?_
                          refine fr_iald (k := 200) (f := vwB Z) hx hb hK hP (by decide) rfl (by omega) (by decide) dL_tells_660 ?_
                          refine lv_teq (vwB_at (by omega) (by omega)) ?_
                          refine lv_iadd hx hb dL_tells_661 ?_
                          refine lv_istore (lv' := [(12, .int ((sumB Z 4 i) + (Z (7 + 5 * i + 4)))), (13, .int ((sumB Z 3 i) + (Z (7 + 5 * i + 3)))), (11, .int ((sumB Z 1 i) + (Z (7 + 5 * i + 1)))), (17, .int (nI (3 * i + 3))), (16, .int (nI 1)), (15, .int (allS Z i n)), (14, .int (nI i)), (10, .int (plgS Z n)), (9, .int (sumS Z 9 n)), (8, .int (sumS Z 7 n)), (7, .int (sumS Z 6 n)), (6, .int (drA Z n)), (0, .ref (ad 0)), (1, .ref (ad 198)), (2, .ref (ad 199)), (3, .ref (ad 200)), (4, .ref (ad 201)), (5, .ref (ad 202))]) hx hb dL_tells_662 hl (by decide) rfl (fun ls hl => ?_)
                          refine lv_iinc (v := nI (i + 1)) (lv' := [(14, .int (nI (i + 1))), (12, .int ((sumB Z 4 i) + (Z (7 + 5 * i + 4)))), (13, .int ((sumB Z 3 i) + (Z (7 + 5 * i + 3)))), (11, .int ((sumB Z 1 i) + (Z (7 + 5 * i + 1)))), (17, .int (nI (3 * i + 3))), (16, .int (nI 1)), (15, .int (allS Z i n)), (10, .int (plgS Z n)), (9, .int (sumS Z 9 n)), (8, .int (sumS Z 7 n)), (7, .int (sumS Z 6 n)), (6, .int (drA Z n)), (0, .ref (ad 0)), (1, .ref (ad 198)), (2, .ref (ad 199)), (3, .ref (ad 200)), (4, .ref (ad 201)), (5, .ref (ad 202))]) hx hb dL_tells_664 hl (k := 6) rfl (nI_add i 1) (by decide) rfl (fun ls hl => ?_)
                          refine lv_goto (tgt := 333) hx hb dL_tells_667 (by decide) ?_
                          have hl := lv_sub (l' := [(14, .int (nI (i + 1))), (13, .int ((sumB Z 3 i) + (Z (7 + 5 * i + 3)))), (12, .int ((sumB Z 4 i) + (Z (7 + 5 * i + 4)))), (11, .int ((sumB Z 1 i) + (Z (7 + 5 * i + 1)))), (10, .int (plgS Z n)), (9, .int (sumS Z 9 n)), (8, .int (sumS Z 7 n)), (7, .int (sumS Z 6 n)), (6, .int (drA Z n)), (0, .ref (ad 0)), (1, .ref (ad 198)), (2, .ref (ad 199)), (3, .ref (ad 200)), (4, .ref (ad 201)), (5, .ref (ad 202))]) hl [0, 2, 1, 3, 7, 8, 9, 10, 11, 12, 13, 14, 15, 16, 17] rfl
                          have le13 : Value.int ((sumB Z 3 i) + (Z (7 + 5 * i + 3))) = Value.int (sumB Z 3 (i + 1)) := by rfl
                          have le12 : Value.int ((sumB Z 4 i) + (Z (7 + 5 * i + 4))) = Value.int (sumB Z 4 (i + 1)) := by rfl
                          have le11 : Value.int ((sumB Z 1 i) + (Z (7 + 5 * i + 1))) = Value.int (sumB Z 1 (i + 1)) := by rfl
                          have hl := lv_hasE hl (lcons rfl (lcons le13 (lcons le12 (lcons le11 (lcons rfl (lcons rfl (lcons rfl (lcons rfl (lcons rfl (lcons rfl (lcons rfl (lcons rfl (lcons rfl (lcons rfl (lcons rfl rfl)))))))))))))))
                          exact ih333 (i + 1) (by omega) (by omega) _ _ hP hS _ hl
                        · refine lv_iload hx hb dL_tells_565 (lv_at hl 1 rfl) ?_
                          refine lv_if_eq (tgt := 609) hx hb dL_tells_567 (by decide) (fun h => absurd h (by decide)) (fun _ => ?_)
                          refine lv_aload_n hx hb dL_tells_570 rfl (lv_at hl 12 rfl) ?_
                          refine lv_iload hx hb dL_tells_571 (lv_at hl 0 rfl) ?_
                          refine lv_iconst (v := nI 0) hx hb dL_tells_573 (by decide) ?_
                          refine nw_Or (ceO := O) (ceO' := O) (ce' := pcw O (lwc ct Z r)) (As := [.int (nI (3 * i + j)), .int (nI 0)]) (rest := []) hx hb hml hown htg hK hI hP hS (fun _ h => fA_in h) hl.1 (by decide) pcl pcl (fun _ _ _ => rfl) (@os_socket0 l D ct ad _ _ _ ((3 * i + j)) hOS hO (by omega)) cw_L_35 h0 rfl rfl ⟨Nat.le_of_ble_eq_true rfl, Nat.le_of_ble_eq_true rfl⟩ (Nat.le_of_ble_eq_true rfl) dL_tells_574 ⟨Nat.le_of_ble_eq_true rfl, Nat.le_of_ble_eq_true rfl⟩ (fun H locs hP hS => ?_)
                          refine lv_aload hx hb dL_tells_577 (lv_at hl 16 rfl) ?_
                          refine lv_iload hx hb dL_tells_579 (lv_at hl 0 rfl) ?_
                          refine nw_Sr (N1 := 5) (nm := (fun z => 198 + z)) (ce1 := lwc ct Z r) (ce1' := lwc ct Z r) (ce' := pcw O (lwc ct Z r)) (As := [.ref (ad 201), .int (nI (3 * i + j))]) (rest := [.int (nI (brk Z (3 * i + j)))]) hx hb hml hown htg hK hI hP hS (fun _ h => fA_in h) hl.1 p203 pinj pcr pcr (fun _ _ _ => rfl) (mL_breaker l D ct (fun z => ad ((fun z => 198 + z) z)) Z r (3 * i + j) (by omega) ((hg).2.1)) cw_L_16 rfl rfl ⟨Nat.le_of_ble_eq_true rfl, Nat.le_of_ble_eq_true rfl⟩ (Nat.le_of_ble_eq_true rfl) dL_tells_581 ⟨Nat.le_of_ble_eq_true rfl, Nat.le_of_ble_eq_true rfl⟩ (fun H locs hP hS => ?_)
                          have hbk := @brk_lt Z (3 * i + j) (by omega)
                          refine lv_icmp_ne (tgt := 609) hx hb dL_tells_584 (by decide) (fun h => absurd rfl h) (fun _ => ?_)
                          refine lv_aload_n hx hb dL_tells_587 rfl (lv_at hl 12 rfl) ?_
                          refine lv_iload hx hb dL_tells_588 (lv_at hl 0 rfl) ?_
                          refine lv_iconst (v := nI 1) hx hb dL_tells_590 (by decide) ?_
                          refine nw_Or (ceO := O) (ceO' := O) (ce' := pcw O (lwc ct Z r)) (As := [.int (nI (3 * i + j)), .int (nI 1)]) (rest := []) hx hb hml hown htg hK hI hP hS (fun _ h => fA_in h) hl.1 (by decide) pcl pcl (fun _ _ _ => rfl) (@os_socket1 l D ct ad _ _ _ ((3 * i + j)) hOS hO hu (by omega)) cw_L_35 h0 rfl rfl ⟨Nat.le_of_ble_eq_true rfl, Nat.le_of_ble_eq_true rfl⟩ (Nat.le_of_ble_eq_true rfl) dL_tells_591 ⟨Nat.le_of_ble_eq_true rfl, Nat.le_of_ble_eq_true rfl⟩ (fun H locs hP hS => ?_)
                          refine lv_aload_n hx hb dL_tells_594 rfl (lv_at hl 13 rfl) ?_
                          refine lv_aload hx hb dL_tells_595 (lv_at hl 17 rfl) ?_
                          refine lv_iload hx hb dL_tells_597 (lv_at hl 0 rfl) ?_
                          refine nw_Sr (N1 := 5) (nm := (fun z => 198 + z)) (ce1 := lwc ct Z r) (ce1' := lwc ct Z r) (ce' := pcw O (lwc ct Z r)) (As := [.ref (ad 198), .ref (ad 202), .int (nI (3 * i + j))]) (rest := [.int (ox (satN Z (nI (3 * i + j)) n))]) hx hb hml hown htg hK hI hP hS (fun _ h => fA_in h) hl.1 p203 pinj pcr pcr (fun _ _ _ => rfl) (mL_at l D ct (fun z => ad ((fun z => 198 + z) z)) Z r (nI (3 * i + j)) n hg) cw_L_38 rfl rfl ⟨Nat.le_of_ble_eq_true rfl, Nat.le_of_ble_eq_true rfl⟩ (Nat.le_of_ble_eq_true rfl) dL_tells_599 ⟨Nat.le_of_ble_eq_true rfl, Nat.le_of_ble_eq_true rfl⟩ (fun H locs hP hS => ?_)
                          refine lv_icmp_ne (tgt := 609) hx hb dL_tells_602 (by decide) (fun h => absurd rfl h) (fun _ => ?_)
                          refine lv_iconst (v := nI 1) hx hb dL_tells_605 (by decide) ?_
                          refine lv_goto (tgt := 610) hx hb dL_tells_606 (by decide) ?_
                          refine lv_istore (lv' := [(16, .int (nI 1)), (17, .int (nI (3 * i + j))), (15, .int (allS Z i n)), (14, .int (nI i)), (13, .int (sumB Z 3 i)), (12, .int (sumB Z 4 i)), (11, .int (sumB Z 1 i)), (10, .int (plgS Z n)), (9, .int (sumS Z 9 n)), (8, .int (sumS Z 7 n)), (7, .int (sumS Z 6 n)), (6, .int (drA Z n)), (0, .ref (ad 0)), (1, .ref (ad 198)), (2, .ref (ad 199)), (3, .ref (ad 200)), (4, .ref (ad 201)), (5, .ref (ad 202))]) hx hb dL_tells_610 hl (by decide) rfl (fun ls hl => ?_)
                          refine lv_iinc (v := nI (3 * i + j + 1)) (lv' := [(17, .int (nI (3 * i + j + 1))), (16, .int (nI 1)), (15, .int (allS Z i n)), (14, .int (nI i)), (13, .int (sumB Z 3 i)), (12, .int (sumB Z 4 i)), (11, .int (sumB Z 1 i)), (10, .int (plgS Z n)), (9, .int (sumS Z 9 n)), (8, .int (sumS Z 7 n)), (7, .int (sumS Z 6 n)), (6, .int (drA Z n)), (0, .ref (ad 0)), (1, .ref (ad 198)), (2, .ref (ad 199)), (3, .ref (ad 200)), (4, .ref (ad 201)), (5, .ref (ad 202))]) hx hb dL_tells_612 hl (k := 1) rfl (nI_add (3 * i + j) 1) (by decide) rfl (fun ls hl => ?_)
                          refine lv_goto (tgt := 554) hx hb dL_tells_615 (by decide) ?_
                          have hl := lv_sub (l' := [(17, .int (nI (3 * i + j + 1))), (16, .int (nI 1)), (15, .int (allS Z i n)), (14, .int (nI i)), (13, .int (sumB Z 3 i)), (12, .int (sumB Z 4 i)), (11, .int (sumB Z 1 i)), (10, .int (plgS Z n)), (9, .int (sumS Z 9 n)), (8, .int (sumS Z 7 n)), (7, .int (sumS Z 6 n)), (6, .int (drA Z n)), (0, .ref (ad 0)), (1, .ref (ad 198)), (2, .ref (ad 199)), (3, .ref (ad 200)), (4, .ref (ad 201)), (5, .ref (ad 202))]) hl [0, 1, 2, 3, 4, 5, 6, 7, 8, 9, 10, 11, 12, 13, 14, 15, 16, 17] rfl
                          have le17 : Value.int (nI (3 * i + j + 1)) = Value.int (nI (3 * i + (j + 1))) := by rfl
                          have hl := lv_hasE hl (lcons le17 (lcons rfl (lcons rfl (lcons rfl (lcons rfl (lcons rfl (lcons rfl (lcons rfl (lcons rfl (lcons rfl (lcons rfl (lcons rfl (lcons rfl (lcons rfl (lcons rfl (lcons rfl (lcons rfl (lcons rfl rfl))))))))))))))))))
                          exact ih554 (j + 1) (by omega) (by omega) _ _ hP hS _ hl
                    have hl := lv_sub (l' := [(17, .int (nI (3 * i))), (16, .int (nI 1)), (15, .int (allS Z i n)), (14, .int (nI i)), (13, .int (sumB Z 3 i)), (12, .int (sumB Z 4 i)), (11, .int (sumB Z 1 i)), (10, .int (plgS Z n)), (9, .int (sumS Z 9 n)), (8, .int (sumS Z 7 n)), (7, .int (sumS Z 6 n)), (6, .int (drA Z n)), (0, .ref (ad 0)), (1, .ref (ad 198)), (2, .ref (ad 199)), (3, .ref (ad 200)), (4, .ref (ad 201)), (5, .ref (ad 202))]) hl [0, 1, 2, 3, 4, 5, 6, 7, 8, 9, 10, 11, 12, 13, 14, 15, 16, 17] rfl
                    have le17 : Value.int (nI (3 * i)) = Value.int (nI (3 * i + 0)) := by rfl
                    have hl := lv_hasE hl (lcons le17 (lcons rfl (lcons rfl (lcons rfl (lcons rfl (lcons rfl (lcons rfl (lcons rfl (lcons rfl (lcons rfl (lcons rfl (lcons rfl (lcons rfl (lcons rfl (lcons rfl (lcons rfl (lcons rfl (lcons rfl rfl))))))))))))))))))
                    exact lp554 (3 - 0 + 1) 0 (by omega) (Nat.lt_succ_self _) _ _ hP hS _ hl
                  · refine lv_iload hx hb dL_tells_354 (lv_at hl 1 rfl) ?_
                    refine lv_aload_n hx hb dL_tells_356 rfl (lv_at hl 12 rfl) ?_
                    refine lv_bipush (v := nI 6) hx hb dL_tells_357 (by decide) ?_
                    refine lv_iload hx hb dL_tells_359 (lv_at hl 0 rfl) ?_
                    refine lv_imulN hx hb dL_tells_361 ?_
                    refine lv_iconst (v := nI 4) hx hb dL_tells_362 (by decide) ?_
                    refine lv_iaddN hx hb dL_tells_363 ?_
                    refine fr_iald (k := 198) (f := vwA Z) hx hb hK hP (by decide) rfl (by omega) (by decide) dL_tells_364 ?_
                    refine lv_teq (vwA_at (by omega) (by omega)) ?_
                    refine lv_ifltR (tgt := 409) hx hb dL_tells_365 (by decide) (fun c365 => ?_) (fun c365 => ?_)
                    · have d4 := (sk_neg hg.1 (by omega)).mp c365
                      refine lv_iconst (v := nI 0) hx hb dL_tells_409 (by decide) ?_
                      refine lv_iadd hx hb dL_tells_410 ?_
                      refine lv_istore (lv' := [(15, .int ((allS Z i j) + (nI 0))), (16, .int (nI j)), (14, .int (nI i)), (13, .int (sumB Z 3 i)), (12, .int (sumB Z 4 i)), (11, .int (sumB Z 1 i)), (10, .int (plgS Z n)), (9, .int (sumS Z 9 n)), (8, .int (sumS Z 7 n)), (7, .int (sumS Z 6 n)), (6, .int (drA Z n)), (0, .ref (ad 0)), (1, .ref (ad 198)), (2, .ref (ad 199)), (3, .ref (ad 200)), (4, .ref (ad 201)), (5, .ref (ad 202))]) hx hb dL_tells_411 hl (by decide) rfl (fun ls hl => ?_)
                      refine lv_iinc (v := nI (j + 1)) (lv' := [(16, .int (nI (j + 1))), (15, .int ((allS Z i j) + (nI 0))), (14, .int (nI i)), (13, .int (sumB Z 3 i)), (12, .int (sumB Z 4 i)), (11, .int (sumB Z 1 i)), (10, .int (plgS Z n)), (9, .int (sumS Z 9 n)), (8, .int (sumS Z 7 n)), (7, .int (sumS Z 6 n)), (6, .int (drA Z n)), (0, .ref (ad 0)), (1, .ref (ad 198)), (2, .ref (ad 199)), (3, .ref (ad 200)), (4, .ref (ad 201)), (5, .ref (ad 202))]) hx hb dL_tells_413 hl (k := 1) rfl (nI_add j 1) (by decide) rfl (fun ls hl => ?_)
                      refine lv_goto (tgt := 345) hx hb dL_tells_416 (by decide) ?_
                      have hl := lv_sub (l' := [(16, .int (nI (j + 1))), (15, .int ((allS Z i j) + (nI 0))), (14, .int (nI i)), (13, .int (sumB Z 3 i)), (12, .int (sumB Z 4 i)), (11, .int (sumB Z 1 i)), (10, .int (plgS Z n)), (9, .int (sumS Z 9 n)), (8, .int (sumS Z 7 n)), (7, .int (sumS Z 6 n)), (6, .int (drA Z n)), (0, .ref (ad 0)), (1, .ref (ad 198)), (2, .ref (ad 199)), (3, .ref (ad 200)), (4, .ref (ad 201)), (5, .ref (ad 202))]) hl [0, 1, 2, 3, 4, 5, 6, 7, 8, 9, 10, 11, 12, 13, 14, 15, 16] rfl
                      have le15 : Value.int ((allS Z i j) + (nI 0)) = Value.int (allS Z i (j + 1)) := by first | (exfalso; omega) | (simp only [allS, onB, c24, Nat.not_lt.mpr c24, c336, Nat.not_le.mpr c336, c351, Nat.not_le.mpr c351, c365, Int32.not_le.mpr c365, d4, decide_true, decide_false, Bool.and_true, Bool.true_and, Bool.and_false, Bool.false_and, Bool.or_true, Bool.true_or, Bool.or_false, Bool.false_or, Bool.and_self, Bool.or_self, if_true, if_false, eq_self, Bool.false_eq_true, Bool.true_eq_false, reduceCtorEq, nI_0, not_true_eq_false, not_false_eq_true, and_true, true_and, and_false, false_and, or_true, true_or, or_false, false_or, and_self, or_self, Int32.add_zero]; done) | (simp [allS, onB, c24, Nat.not_lt.mpr c24, c336, Nat.not_le.mpr c336, c351, Nat.not_le.mpr c351, c365, Int32.not_le.mpr c365, d4, nI_0]; done) | (simp only [allS, onB, c24, Nat.not_lt.mpr c24, c336, Nat.not_le.mpr c336, c351, Nat.not_le.mpr c351, c365, Int32.not_le.mpr c365, d4, decide_true, decide_false, Bool.and_true, Bool.true_and, Bool.and_false, Bool.false_and, Bool.or_true, Bool.true_or, Bool.or_false, Bool.false_or, Bool.and_self, Bool.or_self, if_true, if_false, eq_self, Bool.false_eq_true, Bool.true_eq_false, reduceCtorEq, nI_0, not_true_eq_false, not_false_eq_true, and_true, true_and, and_false, false_and, or_true, true_or, or_false, false_or, and_self, or_self, Int32.add_zero]; omega) | (simp [allS, onB, c24, Nat.not_lt.mpr c24, c336, Nat.not_le.mpr c336, c351, Nat.not_le.mpr c351, c365, Int32.not_le.mpr c365, d4, nI_0]; omega)
                      have hl := lv_hasE hl (lcons rfl (lcons le15 (lcons rfl (lcons rfl (lcons rfl (lcons rfl (lcons rfl (lcons rfl (lcons rfl (lcons rfl (lcons rfl (lcons rfl (lcons rfl (lcons rfl (lcons rfl (lcons rfl (lcons rfl rfl)))))))))))))))))
                      exact ih345 (j + 1) (by omega) (by omega) _ _ hP hS _ hl
                    · have d4 : ¬ Z (39 + 8 * j + 4) = -1 := fun h9 => Int32.not_lt.mpr c365 ((sk_neg hg.1 (by omega)).mpr h9)
                      have hq9 := skt_lt hg.1 (by omega) d4
                      have hb9 := brk_lt (Z := Z) hq9
                      refine lv_aload hx hb dL_tells_368 (lv_at hl 15 rfl) ?_
                      refine lv_aload_n hx hb dL_tells_370 rfl (lv_at hl 12 rfl) ?_
                      refine lv_bipush (v := nI 6) hx hb dL_tells_371 (by decide) ?_
                      refine lv_iload hx hb dL_tells_373 (lv_at hl 0 rfl) ?_
                      refine lv_imulN hx hb dL_tells_375 ?_
                      refine lv_iconst (v := nI 4) hx hb dL_tells_376 (by decide) ?_
                      refine lv_iaddN hx hb dL_tells_377 ?_
                      refine fr_iald (k := 198) (f := vwA Z) hx hb hK hP (by decide) rfl (by omega) (by decide) dL_tells_378 ?_
                      refine lv_teq (vwA_at (by omega) (by omega)) ?_
                      refine lv_teq (skt_eq hg.1 (by omega) d4) ?_
                      refine nw_Sr (N1 := 5) (nm := (fun z => 198 + z)) (ce1 := lwc ct Z r) (ce1' := lwc ct Z r) (ce' := pcw O (lwc ct Z r)) (As := [.ref (ad 201), .int (nI (skt Z j))]) (rest := [.int (allS Z i j)]) hx hb hml hown htg hK hI hP hS (fun _ h => fA_in h) hl.1 p203 pinj pcr pcr (fun _ _ _ => rfl) (mL_breaker l D ct (fun z => ad ((fun z => 198 + z) z)) Z r (skt Z j) (by omega) ((hg).2.1)) cw_L_16 rfl rfl ⟨Nat.le_of_ble_eq_true rfl, Nat.le_of_ble_eq_true rfl⟩ (Nat.le_of_ble_eq_true rfl) dL_tells_379 ⟨Nat.le_of_ble_eq_true rfl, Nat.le_of_ble_eq_true rfl⟩ (fun H locs hP hS => ?_)
                      have hbk := @brk_lt Z (skt Z j) (by omega)
                      refine lv_iload hx hb dL_tells_382 (lv_at hl 2 rfl) ?_
                      refine lv_icmp_neN (tgt := 409) hx hb (by omega) (by omega) dL_tells_384 (by decide) (fun c384 => ?_) (fun c384 => ?_)
                      · refine lv_iconst (v := nI 0) hx hb dL_tells_409 (by decide) ?_
                        refine lv_iadd hx hb dL_tells_410 ?_
                        refine lv_istore (lv' := [(15, .int ((allS Z i j) + (nI 0))), (16, .int (nI j)), (14, .int (nI i)), (13, .int (sumB Z 3 i)), (12, .int (sumB Z 4 i)), (11, .int (sumB Z 1 i)), (10, .int (plgS Z n)), (9, .int (sumS Z 9 n)), (8, .int (sumS Z 7 n)), (7, .int (sumS Z 6 n)), (6, .int (drA Z n)), (0, .ref (ad 0)), (1, .ref (ad 198)), (2, .ref (ad 199)), (3, .ref (ad 200)), (4, .ref (ad 201)), (5, .ref (ad 202))]) hx hb dL_tells_411 hl (by decide) rfl (fun ls hl => ?_)
                        refine lv_iinc (v := nI (j + 1)) (lv' := [(16, .int (nI (j + 1))), (15, .int ((allS Z i j) + (nI 0))), (14, .int (nI i)), (13, .int (sumB Z 3 i)), (12, .int (sumB Z 4 i)), (11, .int (sumB Z 1 i)), (10, .int (plgS Z n)), (9, .int (sumS Z 9 n)), (8, .int (sumS Z 7 n)), (7, .int (sumS Z 6 n)), (6, .int (drA Z n)), (0, .ref (ad 0)), (1, .ref (ad 198)), (2, .ref (ad 199)), (3, .ref (ad 200)), (4, .ref (ad 201)), (5, .ref (ad 202))]) hx hb dL_tells_413 hl (k := 1) rfl (nI_add j 1) (by decide) rfl (fun ls hl => ?_)
                        refine lv_goto (tgt := 345) hx hb dL_tells_416 (by decide) ?_
                        have hl := lv_sub (l' := [(16, .int (nI (j + 1))), (15, .int ((allS Z i j) + (nI 0))), (14, .int (nI i)), (13, .int (sumB Z 3 i)), (12, .int (sumB Z 4 i)), (11, .int (sumB Z 1 i)), (10, .int (plgS Z n)), (9, .int (sumS Z 9 n)), (8, .int (sumS Z 7 n)), (7, .int (sumS Z 6 n)), (6, .int (drA Z n)), (0, .ref (ad 0)), (1, .ref (ad 198)), (2, .ref (ad 199)), (3, .ref (ad 200)), (4, .ref (ad 201)), (5, .ref (ad 202))]) hl [0, 1, 2, 3, 4, 5, 6, 7, 8, 9, 10, 11, 12, 13, 14, 15, 16] rfl
                        have le15 : Value.int ((allS Z i j) + (nI 0)) = Value.int (allS Z i (j + 1)) := by first | (exfalso; omega) | (simp only [allS, onB, c24, Nat.not_lt.mpr c24, c336, Nat.not_le.mpr c336, c351, Nat.not_le.mpr c351, c365, Int32.not_lt.mpr c365, d4, c384, decide_true, decide_false, Bool.and_true, Bool.true_and, Bool.and_false, Bool.false_and, Bool.or_true, Bool.true_or, Bool.or_false, Bool.false_or, Bool.and_self, Bool.or_self, if_true, if_false, eq_self, Bool.false_eq_true, Bool.true_eq_false, reduceCtorEq, nI_0, not_true_eq_false, not_false_eq_true, and_true, true_and, and_false, false_and, or_true, true_or, or_false, false_or, and_self, or_self, Int32.add_zero]; done) | (simp [allS, onB, c24, Nat.not_lt.mpr c24, c336, Nat.not_le.mpr c336, c351, Nat.not_le.mpr c351, c365, Int32.not_lt.mpr c365, d4, c384, nI_0]; done) | (simp only [allS, onB, c24, Nat.not_lt.mpr c24, c336, Nat.not_le.mpr c336, c351, Nat.not_le.mpr c351, c365, Int32.not_lt.mpr c365, d4, c384, decide_true, decide_false, Bool.and_true, Bool.true_and, Bool.and_false, Bool.false_and, Bool.or_true, Bool.true_or, Bool.or_false, Bool.false_or, Bool.and_self, Bool.or_self, if_true, if_false, eq_self, Bool.false_eq_true, Bool.true_eq_false, reduceCtorEq, nI_0, not_true_eq_false, not_false_eq_true, and_true, true_and, and_false, false_and, or_true, true_or, or_false, false_or, and_self, or_self, Int32.add_zero]; omega) | (simp [allS, onB, c24, Nat.not_lt.mpr c24, c336, Nat.not_le.mpr c336, c351, Nat.not_le.mpr c351, c365, Int32.not_lt.mpr c365, d4, c384, nI_0]; omega)
                        have hl := lv_hasE hl (lcons rfl (lcons le15 (lcons rfl (lcons rfl (lcons rfl (lcons rfl (lcons rfl (lcons rfl (lcons rfl (lcons rfl (lcons rfl (lcons rfl (lcons rfl (lcons rfl (lcons rfl (lcons rfl (lcons rfl rfl)))))))))))))))))
                        exact ih345 (j + 1) (by omega) (by omega) _ _ hP hS _ hl
                      · refine lv_aload_n hx hb dL_tells_387 rfl (lv_at hl 12 rfl) ?_
                        refine lv_bipush (v := nI 6) hx hb dL_tells_388 (by decide) ?_
                        refine lv_iload hx hb dL_tells_390 (lv_at hl 0 rfl) ?_
                        refine lv_imulN hx hb dL_tells_392 ?_
                        refine lv_iconst (v := nI 5) hx hb dL_tells_393 (by decide) ?_
                        refine lv_iaddN hx hb dL_tells_394 ?_
                        refine fr_iald (k := 198) (f := vwA Z) hx hb hK hP (by decide) rfl (by omega) (by decide) dL_tells_395 ?_
                        refine lv_teq (vwA_at (by omega) (by omega)) ?_
                        refine lv_if_ne (tgt := 409) hx hb dL_tells_396 (by decide) (fun c396 => ?_) (fun c396 => ?_)
                        · refine lv_iconst (v := nI 0) hx hb dL_tells_409 (by decide) ?_
                          refine lv_iadd hx hb dL_tells_410 ?_
                          refine lv_istore (lv' := [(15, .int ((allS Z i j) + (nI 0))), (16, .int (nI j)), (14, .int (nI i)), (13, .int (sumB Z 3 i)), (12, .int (sumB Z 4 i)), (11, .int (sumB Z 1 i)), (10, .int (plgS Z n)), (9, .int (sumS Z 9 n)), (8, .int (sumS Z 7 n)), (7, .int (sumS Z 6 n)), (6, .int (drA Z n)), (0, .ref (ad 0)), (1, .ref (ad 198)), (2, .ref (ad 199)), (3, .ref (ad 200)), (4, .ref (ad 201)), (5, .ref (ad 202))]) hx hb dL_tells_411 hl (by decide) rfl (fun ls hl => ?_)
                          refine lv_iinc (v := nI (j + 1)) (lv' := [(16, .int (nI (j + 1))), (15, .int ((allS Z i j) + (nI 0))), (14, .int (nI i)), (13, .int (sumB Z 3 i)), (12, .int (sumB Z 4 i)), (11, .int (sumB Z 1 i)), (10, .int (plgS Z n)), (9, .int (sumS Z 9 n)), (8, .int (sumS Z 7 n)), (7, .int (sumS Z 6 n)), (6, .int (drA Z n)), (0, .ref (ad 0)), (1, .ref (ad 198)), (2, .ref (ad 199)), (3, .ref (ad 200)), (4, .ref (ad 201)), (5, .ref (ad 202))]) hx hb dL_tells_413 hl (k := 1) rfl (nI_add j 1) (by decide) rfl (fun ls hl => ?_)
                          refine lv_goto (tgt := 345) hx hb dL_tells_416 (by decide) ?_
                          have hl := lv_sub (l' := [(16, .int (nI (j + 1))), (15, .int ((allS Z i j) + (nI 0))), (14, .int (nI i)), (13, .int (sumB Z 3 i)), (12, .int (sumB Z 4 i)), (11, .int (sumB Z 1 i)), (10, .int (plgS Z n)), (9, .int (sumS Z 9 n)), (8, .int (sumS Z 7 n)), (7, .int (sumS Z 6 n)), (6, .int (drA Z n)), (0, .ref (ad 0)), (1, .ref (ad 198)), (2, .ref (ad 199)), (3, .ref (ad 200)), (4, .ref (ad 201)), (5, .ref (ad 202))]) hl [0, 1, 2, 3, 4, 5, 6, 7, 8, 9, 10, 11, 12, 13, 14, 15, 16] rfl
                          have le15 : Value.int ((allS Z i j) + (nI 0)) = Value.int (allS Z i (j + 1)) := by first | (exfalso; omega) | (simp only [allS, onB, c24, Nat.not_lt.mpr c24, c336, Nat.not_le.mpr c336, c351, Nat.not_le.mpr c351, c365, Int32.not_lt.mpr c365, d4, c384, c396, decide_true, decide_false, Bool.and_true, Bool.true_and, Bool.and_false, Bool.false_and, Bool.or_true, Bool.true_or, Bool.or_false, Bool.false_or, Bool.and_self, Bool.or_self, if_true, if_false, eq_self, Bool.false_eq_true, Bool.true_eq_false, reduceCtorEq, nI_0, not_true_eq_false, not_false_eq_true, and_true, true_and, and_false, false_and, or_true, true_or, or_false, false_or, and_self, or_self, Int32.add_zero]; done) | (simp [allS, onB, c24, Nat.not_lt.mpr c24, c336, Nat.not_le.mpr c336, c351, Nat.not_le.mpr c351, c365, Int32.not_lt.mpr c365, d4, c384, c396, nI_0]; done) | (simp only [allS, onB, c24, Nat.not_lt.mpr c24, c336, Nat.not_le.mpr c336, c351, Nat.not_le.mpr c351, c365, Int32.not_lt.mpr c365, d4, c384, c396, decide_true, decide_false, Bool.and_true, Bool.true_and, Bool.and_false, Bool.false_and, Bool.or_true, Bool.true_or, Bool.or_false, Bool.false_or, Bool.and_self, Bool.or_self, if_true, if_false, eq_self, Bool.false_eq_true, Bool.true_eq_false, reduceCtorEq, nI_0, not_true_eq_false, not_false_eq_true, and_true, true_and, and_false, false_and, or_true, true_or, or_false, false_or, and_self, or_self, Int32.add_zero]; omega) | (simp [allS, onB, c24, Nat.not_lt.mpr c24, c336, Nat.not_le.mpr c336, c351, Nat.not_le.mpr c351, c365, Int32.not_lt.mpr c365, d4, c384, c396, nI_0]; omega)
                          have hl := lv_hasE hl (lcons rfl (lcons le15 (lcons rfl (lcons rfl (lcons rfl (lcons rfl (lcons rfl (lcons rfl (lcons rfl (lcons rfl (lcons rfl (lcons rfl (lcons rfl (lcons rfl (lcons rfl (lcons rfl (lcons rfl rfl)))))))))))))))))
                          exact ih345 (j + 1) (by omega) (by omega) _ _ hP hS _ hl
                        · refine lv_aload_n hx hb dL_tells_399 rfl (lv_at hl 12 rfl) ?_
                          refine lv_bipush (v := nI 6) hx hb dL_tells_400 (by decide) ?_
                          refine lv_iload hx hb dL_tells_402 (lv_at hl 0 rfl) ?_
                          refine lv_imulN hx hb dL_tells_404 ?_
                          refine fr_iald (k := 198) (f := vwA Z) hx hb hK hP (by decide) rfl (by omega) (by decide) dL_tells_405 ?_
                          refine lv_teq (vwA_a0 (by omega)) ?_
                          refine lv_goto (tgt := 410) hx hb dL_tells_406 (by decide) ?_
                          refine lv_iadd hx hb dL_tells_410 ?_
                          refine lv_istore (lv' := [(15, .int ((allS Z i j) + (Z (39 + 8 * j + 0)))), (16, .int (nI j)), (14, .int (nI i)), (13, .int (sumB Z 3 i)), (12, .int (sumB Z 4 i)), (11, .int (sumB Z 1 i)), (10, .int (plgS Z n)), (9, .int (sumS Z 9 n)), (8, .int (sumS Z 7 n)), (7, .int (sumS Z 6 n)), (6, .int (drA Z n)), (0, .ref (ad 0)), (1, .ref (ad 198)), (2, .ref (ad 199)), (3, .ref (ad 200)), (4, .ref (ad 201)), (5, .ref (ad 202))]) hx hb dL_tells_411 hl (by decide) rfl (fun ls hl => ?_)
                          refine lv_iinc (v := nI (j + 1)) (lv' := [(16, .int (nI (j + 1))), (15, .int ((allS Z i j) + (Z (39 + 8 * j + 0)))), (14, .int (nI i)), (13, .int (sumB Z 3 i)), (12, .int (sumB Z 4 i)), (11, .int (sumB Z 1 i)), (10, .int (plgS Z n)), (9, .int (sumS Z 9 n)), (8, .int (sumS Z 7 n)), (7, .int (sumS Z 6 n)), (6, .int (drA Z n)), (0, .ref (ad 0)), (1, .ref (ad 198)), (2, .ref (ad 199)), (3, .ref (ad 200)), (4, .ref (ad 201)), (5, .ref (ad 202))]) hx hb dL_tells_413 hl (k := 1) rfl (nI_add j 1) (by decide) rfl (fun ls hl => ?_)
                          refine lv_goto (tgt := 345) hx hb dL_tells_416 (by decide) ?_
                          have hl := lv_sub (l' := [(16, .int (nI (j + 1))), (15, .int ((allS Z i j) + (Z (39 + 8 * j + 0)))), (14, .int (nI i)), (13, .int (sumB Z 3 i)), (12, .int (sumB Z 4 i)), (11, .int (sumB Z 1 i)), (10, .int (plgS Z n)), (9, .int (sumS Z 9 n)), (8, .int (sumS Z 7 n)), (7, .int (sumS Z 6 n)), (6, .int (drA Z n)), (0, .ref (ad 0)), (1, .ref (ad 198)), (2, .ref (ad 199)), (3, .ref (ad 200)), (4, .ref (ad 201)), (5, .ref (ad 202))]) hl [0, 1, 2, 3, 4, 5, 6, 7, 8, 9, 10, 11, 12, 13, 14, 15, 16] rfl
                          have le15 : Value.int ((allS Z i j) + (Z (39 + 8 * j + 0))) = Value.int (allS Z i (j + 1)) := by first | (exfalso; omega) | (simp only [allS, onB, c24, Nat.not_lt.mpr c24, c336, Nat.not_le.mpr c336, c351, Nat.not_le.mpr c351, c365, Int32.not_lt.mpr c365, d4, c384, c396, decide_true, decide_false, Bool.and_true, Bool.true_and, Bool.and_false, Bool.false_and, Bool.or_true, Bool.true_or, Bool.or_false, Bool.false_or, Bool.and_self, Bool.or_self, if_true, if_false, eq_self, Bool.false_eq_true, Bool.true_eq_false, reduceCtorEq, nI_0, not_true_eq_false, not_false_eq_true, and_true, true_and, and_false, false_and, or_true, true_or, or_false, false_or, and_self, or_self, Int32.add_zero]; done) | (simp [allS, onB, c24, Nat.not_lt.mpr c24, c336, Nat.not_le.mpr c336, c351, Nat.not_le.mpr c351, c365, Int32.not_lt.mpr c365, d4, c384, c396, nI_0]; done) | (simp only [allS, onB, c24, Nat.not_lt.mpr c24, c336, Nat.not_le.mpr c336, c351, Nat.not_le.mpr c351, c365, Int32.not_lt.mpr c365, d4, c384, c396, decide_true, decide_false, Bool.and_true, Bool.true_and, Bool.and_false, Bool.false_and, Bool.or_true, Bool.true_or, Bool.or_false, Bool.false_or, Bool.and_self, Bool.or_self, if_true, if_false, eq_self, Bool.false_eq_true, Bool.true_eq_false, reduceCtorEq, nI_0, not_true_eq_false, not_false_eq_true, and_true, true_and, and_false, false_and, or_true, true_or, or_false, false_or, and_self, or_self, Int32.add_zero]; omega) | (simp [allS, onB, c24, Nat.not_lt.mpr c24, c336, Nat.not_le.mpr c336, c351, Nat.not_le.mpr c351, c365, Int32.not_lt.mpr c365, d4, c384, c396, nI_0]; omega)
                          have hl := lv_hasE hl (lcons rfl (lcons le15 (lcons rfl (lcons rfl (lcons rfl (lcons rfl (lcons rfl (lcons rfl (lcons rfl (lcons rfl (lcons rfl (lcons rfl (lcons rfl (lcons rfl (lcons rfl (lcons rfl (lcons rfl rfl)))))))))))))))))
                          exact ih345 (j + 1) (by omega) (by omega) _ _ hP hS _ hl
              have hl := lv_sub (l' := [(16, .int (nI 0)), (15, .int (nI 0)), (14, .int (nI i)), (13, .int (sumB Z 3 i)), (12, .int (sumB Z 4 i)), (11, .int (sumB Z 1 i)), (10, .int (plgS Z n)), (9, .int (sumS Z 9 n)), (8, .int (sumS Z 7 n)), (7, .int (sumS Z 6 n)), (6, .int (drA Z n)), (0, .ref (ad 0)), (1, .ref (ad 198)), (2, .ref (ad 199)), (3, .ref (ad 200)), (4, .ref (ad 201)), (5, .ref (ad 202))]) hl [0, 1, 2, 3, 4, 5, 6, 7, 8, 9, 10, 11, 12, 13, 14, 15, 16] rfl
              have le15 : Value.int (nI 0) = Value.int (allS Z i 0) := by rfl
              have hl := lv_hasE hl (lcons rfl (lcons le15 (lcons rfl (lcons rfl (lcons rfl (lcons rfl (lcons rfl (lcons rfl (lcons rfl (lcons rfl (lcons rfl (lcons rfl (lcons rfl (lcons rfl (lcons rfl (lcons rfl (lcons rfl rfl)))))))))))))))))
              exact lp345 (n - 0 + 1) 0 (by omega) (Nat.lt_succ_self _) _ _ hP hS _ hl
        have hl := lv_sub (l' := [(14, .int (nI 0)), (13, .int (nI 0)), (12, .int (nI 0)), (11, .int (nI 0)), (10, .int (plgS Z n)), (9, .int (sumS Z 9 n)), (8, .int (sumS Z 7 n)), (7, .int (sumS Z 6 n)), (6, .int (drA Z n)), (0, .ref (ad 0)), (1, .ref (ad 198)), (2, .ref (ad 199)), (3, .ref (ad 200)), (4, .ref (ad 201)), (5, .ref (ad 202))]) hl [0, 1, 2, 3, 4, 5, 6, 7, 8, 9, 10, 11, 12, 13, 14] rfl
        have le13 : Value.int (nI 0) = Value.int (sumB Z 3 0) := by rfl
        have le12 : Value.int (nI 0) = Value.int (sumB Z 4 0) := by rfl
        have le11 : Value.int (nI 0) = Value.int (sumB Z 1 0) := by rfl
        have hl := lv_hasE hl (lcons rfl (lcons le13 (lcons le12 (lcons le11 (lcons rfl (lcons rfl (lcons rfl (lcons rfl (lcons rfl (lcons rfl (lcons rfl (lcons rfl (lcons rfl (lcons rfl (lcons rfl rfl)))))))))))))))
        exact lp333 (4 - 0 + 1) 0 (by omega) (Nat.lt_succ_self _) _ _ hP hS _ hl
      · refine lv_aload_n hx hb dL_tells_27 rfl (lv_at hl 6 rfl) ?_
        refine lv_iload hx hb dL_tells_28 (lv_at hl 0 rfl) ?_
        refine lv_iconst (v := nI 4) hx hb dL_tells_30 (by decide) ?_
        refine nw_Or (ceO := O) (ceO' := O) (ce' := pcw O (lwc ct Z r)) (As := [.int (nI i), .int (nI 4)]) (rest := []) hx hb hml hown htg hK hI hP hS (fun _ h => fA_in h) hl.1 (by decide) pcl pcl (fun _ _ _ => rfl) (@os_stallOf l D ct ad _ _ _ (i) (4) hOS hO (by omega) (by omega)) cw_L_29 h0 rfl rfl ⟨Nat.le_of_ble_eq_true rfl, Nat.le_of_ble_eq_true rfl⟩ (Nat.le_of_ble_eq_true rfl) dL_tells_31 ⟨Nat.le_of_ble_eq_true rfl, Nat.le_of_ble_eq_true rfl⟩ (fun H locs hP hS => ?_)
        refine lv_aload_n hx hb dL_tells_34 rfl (lv_at hl 7 rfl) ?_
        refine lv_bipush (v := nI 6) hx hb dL_tells_35 (by decide) ?_
        refine lv_iload hx hb dL_tells_37 (lv_at hl 0 rfl) ?_
        refine lv_imulN hx hb dL_tells_39 ?_
        refine lv_iconst (v := nI 4) hx hb dL_tells_40 (by decide) ?_
        refine lv_iaddN hx hb dL_tells_41 ?_
        refine fr_iald (k := 198) (f := vwA Z) hx hb hK hP (by decide) rfl (by omega) (by decide) dL_tells_42 ?_
        refine lv_teq (vwA_at (by omega) (by omega)) ?_
        suffices hJ59 : W p l e ({ frames := 5, cells := 0, slots := 0, locals := 109 }) s m args below meth c H locs 0 0 (MQ below (fQ D ct 203 ad (some (.int (nI 1))) (pcw O (lwc ct Z r))) args s 0 0 (fA 203 ad)) (F0 m 59 ls [.int (Z (39 + 8 * i + 4)), .int (tldS Z i 4)]) by
          refine lv_ifgeR (tgt := 50) hx hb dL_tells_43 (by decide) (fun c43 => ?_) (fun c43 => ?_)
          · refine lv_aload_n hx hb dL_tells_50 rfl (lv_at hl 7 rfl) ?_
            refine lv_bipush (v := nI 6) hx hb dL_tells_51 (by decide) ?_
            refine lv_iload hx hb dL_tells_53 (lv_at hl 0 rfl) ?_
            refine lv_imulN hx hb dL_tells_55 ?_
            refine lv_iconst (v := nI 4) hx hb dL_tells_56 (by decide) ?_
            refine lv_iaddN hx hb dL_tells_57 ?_
            refine fr_iald (k := 198) (f := vwA Z) hx hb hK hP (by decide) rfl (by omega) (by decide) dL_tells_58 ?_
            refine lv_teq (vwA_at (by omega) (by omega)) ?_
            exact hJ59
          · refine lv_iconst (v := -1) hx hb dL_tells_46 (by decide) ?_
            refine lv_goto (tgt := 59) hx hb dL_tells_47 (by decide) ?_
            exact lv_tveq (show Value.int (-1) = Value.int (Z (39 + 8 * i + 4)) from by exact congrArg Value.int ((sk_neg hg.1 (by omega)).mp c43).symm) hJ59
        refine lv_icmp_ne (tgt := 168) hx hb dL_tells_59 (by decide) (fun h => absurd (if_pos (by omega)) h) (fun _ => ?_)
        refine lv_aload_n hx hb dL_tells_62 rfl (lv_at hl 6 rfl) ?_
        refine lv_iload hx hb dL_tells_63 (lv_at hl 0 rfl) ?_
        refine lv_iconst (v := nI 5) hx hb dL_tells_65 (by decide) ?_
        refine nw_Or (ceO := O) (ceO' := O) (ce' := pcw O (lwc ct Z r)) (As := [.int (nI i), .int (nI 5)]) (rest := []) hx hb hml hown htg hK hI hP hS (fun _ h => fA_in h) hl.1 (by decide) pcl pcl (fun _ _ _ => rfl) (@os_stallOf l D ct ad _ _ _ (i) (5) hOS hO (by omega) (by omega)) cw_L_29 h0 rfl rfl ⟨Nat.le_of_ble_eq_true rfl, Nat.le_of_ble_eq_true rfl⟩ (Nat.le_of_ble_eq_true rfl) dL_tells_66 ⟨Nat.le_of_ble_eq_true rfl, Nat.le_of_ble_eq_true rfl⟩ (fun H locs hP hS => ?_)
        refine lv_aload_n hx hb dL_tells_69 rfl (lv_at hl 7 rfl) ?_
        refine lv_bipush (v := nI 6) hx hb dL_tells_70 (by decide) ?_
        refine lv_iload hx hb dL_tells_72 (lv_at hl 0 rfl) ?_
        refine lv_imulN hx hb dL_tells_74 ?_
        refine lv_iconst (v := nI 5) hx hb dL_tells_75 (by decide) ?_
        refine lv_iaddN hx hb dL_tells_76 ?_
        refine fr_iald (k := 198) (f := vwA Z) hx hb hK hP (by decide) rfl (by omega) (by decide) dL_tells_77 ?_
        refine lv_teq (vwA_at (by omega) (by omega)) ?_
        refine lv_icmp_ne (tgt := 168) hx hb dL_tells_78 (by decide) (fun h => absurd (if_pos (by omega)) h) (fun _ => ?_)
        refine lv_aload_n hx hb dL_tells_81 rfl (lv_at hl 6 rfl) ?_
        refine lv_iload hx hb dL_tells_82 (lv_at hl 0 rfl) ?_
        refine lv_bipush (v := nI 6) hx hb dL_tells_84 (by decide) ?_
        refine nw_Or (ceO := O) (ceO' := O) (ce' := pcw O (lwc ct Z r)) (As := [.int (nI i), .int (nI 6)]) (rest := []) hx hb hml hown htg hK hI hP hS (fun _ h => fA_in h) hl.1 (by decide) pcl pcl (fun _ _ _ => rfl) (@os_stallOf l D ct ad _ _ _ (i) (6) hOS hO (by omega) (by omega)) cw_L_29 h0 rfl rfl ⟨Nat.le_of_ble_eq_true rfl, Nat.le_of_ble_eq_true rfl⟩ (Nat.le_of_ble_eq_true rfl) dL_tells_86 ⟨Nat.le_of_ble_eq_true rfl, Nat.le_of_ble_eq_true rfl⟩ (fun H locs hP hS => ?_)
        refine lv_aload_n hx hb dL_tells_89 rfl (lv_at hl 8 rfl) ?_
        refine lv_iconst (v := nI 2) hx hb dL_tells_90 (by decide) ?_
        refine lv_iload hx hb dL_tells_91 (lv_at hl 0 rfl) ?_
        refine lv_imulN hx hb dL_tells_93 ?_
        refine fr_iald (k := 199) (f := vwM Z) hx hb hK hP (by decide) rfl (by omega) (by decide) dL_tells_94 ?_
        refine lv_teq (vwM_a0 (by omega)) ?_
        refine lv_icmp_ne (tgt := 168) hx hb dL_tells_95 (by decide) (fun h => absurd (if_pos (by omega)) h) (fun _ => ?_)
        refine lv_aload_n hx hb dL_tells_98 rfl (lv_at hl 6 rfl) ?_
        refine lv_iload hx hb dL_tells_99 (lv_at hl 0 rfl) ?_
        refine lv_bipush (v := nI 7) hx hb dL_tells_101 (by decide) ?_
        refine nw_Or (ceO := O) (ceO' := O) (ce' := pcw O (lwc ct Z r)) (As := [.int (nI i), .int (nI 7)]) (rest := []) hx hb hml hown htg hK hI hP hS (fun _ h => fA_in h) hl.1 (by decide) pcl pcl (fun _ _ _ => rfl) (@os_stallOf l D ct ad _ _ _ (i) (7) hOS hO (by omega) (by omega)) cw_L_29 h0 rfl rfl ⟨Nat.le_of_ble_eq_true rfl, Nat.le_of_ble_eq_true rfl⟩ (Nat.le_of_ble_eq_true rfl) dL_tells_103 ⟨Nat.le_of_ble_eq_true rfl, Nat.le_of_ble_eq_true rfl⟩ (fun H locs hP hS => ?_)
        refine lv_aload_n hx hb dL_tells_106 rfl (lv_at hl 8 rfl) ?_
        refine lv_iconst (v := nI 2) hx hb dL_tells_107 (by decide) ?_
        refine lv_iload hx hb dL_tells_108 (lv_at hl 0 rfl) ?_
        refine lv_imulN hx hb dL_tells_110 ?_
        refine lv_iconst (v := nI 1) hx hb dL_tells_111 (by decide) ?_
        refine lv_iaddN hx hb dL_tells_112 ?_
        refine fr_iald (k := 199) (f := vwM Z) hx hb hK hP (by decide) rfl (by omega) (by decide) dL_tells_113 ?_
        refine lv_teq (vwM_a1 (by omega)) ?_
        refine lv_icmp_ne (tgt := 168) hx hb dL_tells_114 (by decide) (fun h => absurd (if_pos (by omega)) h) (fun _ => ?_)
        refine lv_aload_n hx hb dL_tells_117 rfl (lv_at hl 6 rfl) ?_
        refine lv_iload hx hb dL_tells_118 (lv_at hl 0 rfl) ?_
        refine lv_bipush (v := nI 8) hx hb dL_tells_120 (by decide) ?_
        refine nw_Or (ceO := O) (ceO' := O) (ce' := pcw O (lwc ct Z r)) (As := [.int (nI i), .int (nI 8)]) (rest := []) hx hb hml hown htg hK hI hP hS (fun _ h => fA_in h) hl.1 (by decide) pcl pcl (fun _ _ _ => rfl) (@os_stallOf l D ct ad _ _ _ (i) (8) hOS hO (by omega) (by omega)) cw_L_29 h0 rfl rfl ⟨Nat.le_of_ble_eq_true rfl, Nat.le_of_ble_eq_true rfl⟩ (Nat.le_of_ble_eq_true rfl) dL_tells_122 ⟨Nat.le_of_ble_eq_true rfl, Nat.le_of_ble_eq_true rfl⟩ (fun H locs hP hS => ?_)
        refine lv_aload_n hx hb dL_tells_125 rfl (lv_at hl 7 rfl) ?_
        refine lv_aload_n hx hb dL_tells_126 rfl (lv_at hl 9 rfl) ?_
        refine lv_aload hx hb dL_tells_127 (lv_at hl 10 rfl) ?_
        refine lv_aload hx hb dL_tells_129 (lv_at hl 11 rfl) ?_
        refine lv_iload hx hb dL_tells_131 (lv_at hl 0 rfl) ?_
        refine nw_Sr (N1 := 5) (nm := (fun z => 198 + z)) (ce1 := lwc ct Z r) (ce1' := lwc ct Z r) (ce' := pcw O (lwc ct Z r)) (As := [.ref (ad 198), .ref (ad 200), .ref (ad 201), .ref (ad 202), .int (nI i)]) (rest := [.int (tldS Z i 8)]) hx hb hml hown htg hK hI hP hS (fun _ h => fA_in h) hl.1 p203 pinj pcr pcr (fun _ _ _ => rfl) (mL_reason l D ct (fun z => ad ((fun z => 198 + z) z)) Z r i n hg (by omega)) cw_L_20 rfl rfl ⟨Nat.le_of_ble_eq_true rfl, Nat.le_of_ble_eq_true rfl⟩ (Nat.le_of_ble_eq_true rfl) dL_tells_133 ⟨Nat.le_of_ble_eq_true rfl, Nat.le_of_ble_eq_true rfl⟩ (fun H locs hP hS => ?_)
        have hrl := @rsn_lt Z i
        refine lv_icmp_ne (tgt := 168) hx hb dL_tells_136 (by decide) (fun h => absurd rfl h) (fun _ => ?_)
        refine lv_aload_n hx hb dL_tells_139 rfl (lv_at hl 6 rfl) ?_
        refine lv_iload hx hb dL_tells_140 (lv_at hl 0 rfl) ?_
        refine lv_bipush (v := nI 9) hx hb dL_tells_142 (by decide) ?_
        refine nw_Or (ceO := O) (ceO' := O) (ce' := pcw O (lwc ct Z r)) (As := [.int (nI i), .int (nI 9)]) (rest := []) hx hb hml hown htg hK hI hP hS (fun _ h => fA_in h) hl.1 (by decide) pcl pcl (fun _ _ _ => rfl) (@os_stallOf l D ct ad _ _ _ (i) (9) hOS hO (by omega) (by omega)) cw_L_29 h0 rfl rfl ⟨Nat.le_of_ble_eq_true rfl, Nat.le_of_ble_eq_true rfl⟩ (Nat.le_of_ble_eq_true rfl) dL_tells_144 ⟨Nat.le_of_ble_eq_true rfl, Nat.le_of_ble_eq_true rfl⟩ (fun H locs hP hS => ?_)
        refine lv_aload_n hx hb dL_tells_147 rfl (lv_at hl 8 rfl) ?_
        refine lv_iconst (v := nI 2) hx hb dL_tells_148 (by decide) ?_
        refine lv_iload hx hb dL_tells_149 (lv_at hl 0 rfl) ?_
        refine lv_imulN hx hb dL_tells_151 ?_
        refine fr_iald (k := 199) (f := vwM Z) hx hb hK hP (by decide) rfl (by omega) (by decide) dL_tells_152 ?_
        refine lv_teq (vwM_a0 (by omega)) ?_
        refine lv_aload hx hb dL_tells_153 (lv_at hl 11 rfl) ?_
        refine lv_iconst (v := nI 2) hx hb dL_tells_155 (by decide) ?_
        refine fr_iald (k := 202) (f := vwT Z) hx hb hK hP (by decide) rfl (by omega) (by decide) dL_tells_156 ?_
        refine lv_teq (vwT_at (by omega)) ?_
        refine lv_imul hx hb dL_tells_157 ?_
        refine lv_bipush (v := nI 10) hx hb dL_tells_158 (by decide) ?_
        refine lv_idiv hx hb dL_tells_160 (by decide) ?_
        refine lv_icmp_ne (tgt := 168) hx hb dL_tells_161 (by decide) (fun h => absurd rfl h) (fun _ => ?_)
        refine lv_iconst (v := nI 1) hx hb dL_tells_164 (by decide) ?_
        refine lv_goto (tgt := 169) hx hb dL_tells_165 (by decide) ?_
        refine lv_istore (lv' := [(12, .int (nI 1)), (11, .int (nI i)), (10, .int (plgS Z i)), (9, .int (sumS Z 9 i)), (8, .int (sumS Z 7 i)), (7, .int (sumS Z 6 i)), (6, .int (drA Z i)), (0, .ref (ad 0)), (1, .ref (ad 198)), (2, .ref (ad 199)), (3, .ref (ad 200)), (4, .ref (ad 201)), (5, .ref (ad 202))]) hx hb dL_tells_169 hl (by decide) rfl (fun ls hl => ?_)
        refine lv_iconst (v := nI 0) hx hb dL_tells_171 (by decide) ?_
        refine lv_istore (lv' := [(13, .int (nI 0)), (12, .int (nI 1)), (11, .int (nI i)), (10, .int (plgS Z i)), (9, .int (sumS Z 9 i)), (8, .int (sumS Z 7 i)), (7, .int (sumS Z 6 i)), (6, .int (drA Z i)), (0, .ref (ad 0)), (1, .ref (ad 198)), (2, .ref (ad 199)), (3, .ref (ad 200)), (4, .ref (ad 201)), (5, .ref (ad 202))]) hx hb dL_tells_172 hl (by decide) rfl (fun ls hl => ?_)
        have lp174 : ∀ (fu174 : Nat) (j : Nat), j ≤ 4 → 4 - j < fu174 → ∀ (H : Heap) (locs : List Loc), fP D 203 ad (pcw O (lwc ct Z r)) H → va_S (fA 203 ad) s.heap H locs → ∀ (ls : Array Slot), lv_has ls 18 [(13, .int (nI j)), (12, .int (nI 1)), (11, .int (nI i)), (10, .int (plgS Z i)), (9, .int (sumS Z 9 i)), (8, .int (sumS Z 7 i)), (7, .int (sumS Z 6 i)), (6, .int (drA Z i)), (0, .ref (ad 0)), (1, .ref (ad 198)), (2, .ref (ad 199)), (3, .ref (ad 200)), (4, .ref (ad 201)), (5, .ref (ad 202))] → W p l e ({ frames := 5, cells := 0, slots := 0, locals := 109 }) s m args below meth c H locs 0 0 (MQ below (fQ D ct 203 ad (some (.int (nI 1))) (pcw O (lwc ct Z r))) args s 0 0 (fA 203 ad)) (F0 m 174 ls []) := by
          intro fu174
          induction fu174 with
          | zero => intro j hj hfu174; exact absurd hfu174 (Nat.not_lt_zero _)
          | succ fu174 ih174 =>
            intro j hj hfu174 H locs hP hS ls hl
            refine lv_iload hx hb dL_tells_174 (lv_at hl 0 rfl) ?_
            refine lv_iconst (v := nI 4) hx hb dL_tells_176 (by decide) ?_
            refine lv_icmp_geN (tgt := 219) hx hb (by omega) (by omega) dL_tells_177 (by decide) (fun c177 => ?_) (fun c177 => ?_)
            · obtain rfl : j = 4 := by omega
              refine lv_iload hx hb dL_tells_219 (lv_at hl 1 rfl) ?_
              refine lv_if_ne (tgt := 226) hx hb dL_tells_221 (by decide) (fun _ => ?_) (fun h => absurd h (by decide))
              refine lv_iload hx hb dL_tells_226 (lv_at hl 7 rfl) ?_
              refine lv_aload_n hx hb dL_tells_228 rfl (lv_at hl 9 rfl) ?_
              refine lv_aload_n hx hb dL_tells_229 rfl (lv_at hl 11 rfl) ?_
              refine lv_aload hx hb dL_tells_230 (lv_at hl 12 rfl) ?_
              refine lv_aload hx hb dL_tells_232 (lv_at hl 13 rfl) ?_
              refine lv_iload hx hb dL_tells_234 (lv_at hl 2 rfl) ?_
              refine nw_Sr (N1 := 5) (nm := (fun z => 198 + z)) (ce1 := lwc ct Z r) (ce1' := lwc ct Z r) (ce' := pcw O (lwc ct Z r)) (As := [.ref (ad 198), .ref (ad 200), .ref (ad 201), .ref (ad 202), .int (nI i)]) (rest := [.int (drA Z i)]) hx hb hml hown htg hK hI hP hS (fun _ h => fA_in h) hl.1 p203 pinj pcr pcr (fun _ _ _ => rfl) (mL_reason l D ct (fun z => ad ((fun z => 198 + z) z)) Z r i n hg (by omega)) cw_L_20 rfl rfl ⟨Nat.le_of_ble_eq_true rfl, Nat.le_of_ble_eq_true rfl⟩ (Nat.le_of_ble_eq_true rfl) dL_tells_236 ⟨Nat.le_of_ble_eq_true rfl, Nat.le_of_ble_eq_true rfl⟩ (fun H locs hP hS => ?_)
              have hrl := @rsn_lt Z i
              suffices hJ247 : W p l e ({ frames := 5, cells := 0, slots := 0, locals := 109 }) s m args below meth c H locs 0 0 (MQ below (fQ D ct 203 ad (some (.int (nI 1))) (pcw O (lwc ct Z r))) args s 0 0 (fA 203 ad)) (F0 m 247 ls [.int (if rsn Z i = 0 then nI 1 else nI 0), .int (drA Z i)]) by
                refine lv_ifneN (tgt := 246) hx hb (by omega) dL_tells_239 (by decide) (fun c239 => ?_) (fun c239 => ?_)
                · refine lv_iconst (v := nI 0) hx hb dL_tells_246 (by decide) ?_
                  exact lv_tveq (show Value.int (nI 0) = Value.int (if rsn Z i = 0 then nI 1 else nI 0) from by first | exact congrArg Value.int (if_pos c239).symm | exact congrArg Value.int (if_neg c239).symm) hJ247
                · refine lv_iconst (v := nI 1) hx hb dL_tells_242 (by decide) ?_
                  refine lv_goto (tgt := 247) hx hb dL_tells_243 (by decide) ?_
                  exact lv_tveq (show Value.int (nI 1) = Value.int (if rsn Z i = 0 then nI 1 else nI 0) from by first | exact congrArg Value.int (if_pos c239).symm | exact congrArg Value.int (if_neg c239).symm) hJ247
              refine lv_iadd hx hb dL_tells_247 ?_
              refine lv_istore (lv' := [(6, .int ((drA Z i) + (if rsn Z i = 0 then nI 1 else nI 0))), (13, .int (nI 4)), (12, .int (nI 1)), (11, .int (nI i)), (10, .int (plgS Z i)), (9, .int (sumS Z 9 i)), (8, .int (sumS Z 7 i)), (7, .int (sumS Z 6 i)), (0, .ref (ad 0)), (1, .ref (ad 198)), (2, .ref (ad 199)), (3, .ref (ad 200)), (4, .ref (ad 201)), (5, .ref (ad 202))]) hx hb dL_tells_248 hl (by decide) rfl (fun ls hl => ?_)
              refine lv_iload hx hb dL_tells_250 (lv_at hl 7 rfl) ?_
              refine lv_aload_n hx hb dL_tells_252 rfl (lv_at hl 10 rfl) ?_
              refine lv_iconst (v := nI 2) hx hb dL_tells_253 (by decide) ?_
              refine lv_iload hx hb dL_tells_254 (lv_at hl 3 rfl) ?_
              refine lv_imulN hx hb dL_tells_256 ?_
              refine fr_iald (k := 199) (f := vwM Z) hx hb hK hP (by decide) rfl (by omega) (by decide) dL_tells_257 ?_
              refine lv_teq (vwM_a0 (by omega)) ?_
              refine lv_iadd hx hb dL_tells_258 ?_
              refine lv_istore (lv' := [(7, .int ((sumS Z 6 i) + (Z (39 + 8 * i + 6)))), (6, .int ((drA Z i) + (if rsn Z i = 0 then nI 1 else nI 0))), (13, .int (nI 4)), (12, .int (nI 1)), (11, .int (nI i)), (10, .int (plgS Z i)), (9, .int (sumS Z 9 i)), (8, .int (sumS Z 7 i)), (0, .ref (ad 0)), (1, .ref (ad 198)), (2, .ref (ad 199)), (3, .ref (ad 200)), (4, .ref (ad 201)), (5, .ref (ad 202))]) hx hb dL_tells_259 hl (by decide) rfl (fun ls hl => ?_)
              refine lv_iload hx hb dL_tells_261 (lv_at hl 7 rfl) ?_
              refine lv_aload_n hx hb dL_tells_263 rfl (lv_at hl 10 rfl) ?_
              refine lv_iconst (v := nI 2) hx hb dL_tells_264 (by decide) ?_
              refine lv_iload hx hb dL_tells_265 (lv_at hl 4 rfl) ?_
              refine lv_imulN hx hb dL_tells_267 ?_
              refine lv_iconst (v := nI 1) hx hb dL_tells_268 (by decide) ?_
              refine lv_iaddN hx hb dL_tells_269 ?_
              refine fr_iald (k := 199) (f := vwM Z) hx hb hK hP (by decide) rfl (by omega) (by decide) dL_tells_270 ?_
              refine lv_teq (vwM_a1 (by omega)) ?_
              refine lv_iadd hx hb dL_tells_271 ?_
              refine lv_istore (lv' := [(8, .int ((sumS Z 7 i) + (Z (39 + 8 * i + 7)))), (7, .int ((sumS Z 6 i) + (Z (39 + 8 * i + 6)))), (6, .int ((drA Z i) + (if rsn Z i = 0 then nI 1 else nI 0))), (13, .int (nI 4)), (12, .int (nI 1)), (11, .int (nI i)), (10, .int (plgS Z i)), (9, .int (sumS Z 9 i)), (0, .ref (ad 0)), (1, .ref (ad 198)), (2, .ref (ad 199)), (3, .ref (ad 200)), (4, .ref (ad 201)), (5, .ref (ad 202))]) hx hb dL_tells_272 hl (by decide) rfl (fun ls hl => ?_)
              refine lv_iload hx hb dL_tells_274 (lv_at hl 7 rfl) ?_
              refine lv_aload_n hx hb dL_tells_276 rfl (lv_at hl 10 rfl) ?_
              refine lv_iconst (v := nI 2) hx hb dL_tells_277 (by decide) ?_
              refine lv_iload hx hb dL_tells_278 (lv_at hl 5 rfl) ?_
              refine lv_imulN hx hb dL_tells_280 ?_
              refine fr_iald (k := 199) (f := vwM Z) hx hb hK hP (by decide) rfl (by omega) (by decide) dL_tells_281 ?_
              refine lv_teq (vwM_a0 (by omega)) ?_
              refine lv_aload hx hb dL_tells_282 (lv_at hl 13 rfl) ?_
              refine lv_iconst (v := nI 2) hx hb dL_tells_284 (by decide) ?_
              refine fr_iald (k := 202) (f := vwT Z) hx hb hK hP (by decide) rfl (by omega) (by decide) dL_tells_285 ?_
              refine lv_teq (vwT_at (by omega)) ?_
              refine lv_imul hx hb dL_tells_286 ?_
              refine lv_bipush (v := nI 10) hx hb dL_tells_287 (by decide) ?_
              refine lv_idiv hx hb dL_tells_289 (by decide) ?_
              refine lv_iadd hx hb dL_tells_290 ?_
              refine lv_istore (lv' := [(9, .int ((sumS Z 9 i) + (((Z (39 + 8 * i + 6)) * (Z 2)) / (nI 10)))), (8, .int ((sumS Z 7 i) + (Z (39 + 8 * i + 7)))), (7, .int ((sumS Z 6 i) + (Z (39 + 8 * i + 6)))), (6, .int ((drA Z i) + (if rsn Z i = 0 then nI 1 else nI 0))), (13, .int (nI 4)), (12, .int (nI 1)), (11, .int (nI i)), (10, .int (plgS Z i)), (0, .ref (ad 0)), (1, .ref (ad 198)), (2, .ref (ad 199)), (3, .ref (ad 200)), (4, .ref (ad 201)), (5, .ref (ad 202))]) hx hb dL_tells_291 hl (by decide) rfl (fun ls hl => ?_)
              refine lv_iload hx hb dL_tells_293 (lv_at hl 7 rfl) ?_
              refine lv_aload_n hx hb dL_tells_295 rfl (lv_at hl 9 rfl) ?_
              refine lv_bipush (v := nI 6) hx hb dL_tells_296 (by decide) ?_
              refine lv_iload hx hb dL_tells_298 (lv_at hl 6 rfl) ?_
              refine lv_imulN hx hb dL_tells_300 ?_
              refine lv_iconst (v := nI 4) hx hb dL_tells_301 (by decide) ?_
              refine lv_iaddN hx hb dL_tells_302 ?_
              refine fr_iald (k := 198) (f := vwA Z) hx hb hK hP (by decide) rfl (by omega) (by decide) dL_tells_303 ?_
              refine lv_teq (vwA_at (by omega) (by omega)) ?_
              suffices hJ312 : W p l e ({ frames := 5, cells := 0, slots := 0, locals := 109 }) s m args below meth c H locs 0 0 (MQ below (fQ D ct 203 ad (some (.int (nI 1))) (pcw O (lwc ct Z r))) args s 0 0 (fA 203 ad)) (F0 m 312 ls [.int (if Z (39 + 8 * i + 4) = -1 then nI 0 else nI 1), .int (plgS Z i)]) by
                refine lv_ifgeR (tgt := 311) hx hb dL_tells_304 (by decide) (fun c304 => ?_) (fun c304 => ?_)
                · refine lv_iconst (v := nI 1) hx hb dL_tells_311 (by decide) ?_
                  exact lv_tveq (show Value.int (nI 1) = Value.int (if Z (39 + 8 * i + 4) = -1 then nI 0 else nI 1) from by first | exact congrArg Value.int (if_pos ((sk_neg hg.1 (by omega)).mp c304)).symm | exact congrArg Value.int (if_neg (fun h9 => Int32.not_lt.mpr c304 ((sk_neg hg.1 (by omega)).mpr h9))).symm) hJ312
                · refine lv_iconst (v := nI 0) hx hb dL_tells_307 (by decide) ?_
                  refine lv_goto (tgt := 312) hx hb dL_tells_308 (by decide) ?_
                  exact lv_tveq (show Value.int (nI 0) = Value.int (if Z (39 + 8 * i + 4) = -1 then nI 0 else nI 1) from by first | exact congrArg Value.int (if_pos ((sk_neg hg.1 (by omega)).mp c304)).symm | exact congrArg Value.int (if_neg (fun h9 => Int32.not_lt.mpr c304 ((sk_neg hg.1 (by omega)).mpr h9))).symm) hJ312
              refine lv_iadd hx hb dL_tells_312 ?_
              refine lv_istore (lv' := [(10, .int ((plgS Z i) + (if Z (39 + 8 * i + 4) = -1 then nI 0 else nI 1))), (9, .int ((sumS Z 9 i) + (((Z (39 + 8 * i + 6)) * (Z 2)) / (nI 10)))), (8, .int ((sumS Z 7 i) + (Z (39 + 8 * i + 7)))), (7, .int ((sumS Z 6 i) + (Z (39 + 8 * i + 6)))), (6, .int ((drA Z i) + (if rsn Z i = 0 then nI 1 else nI 0))), (13, .int (nI 4)), (12, .int (nI 1)), (11, .int (nI i)), (0, .ref (ad 0)), (1, .ref (ad 198)), (2, .ref (ad 199)), (3, .ref (ad 200)), (4, .ref (ad 201)), (5, .ref (ad 202))]) hx hb dL_tells_313 hl (by decide) rfl (fun ls hl => ?_)
              refine lv_iinc (v := nI (i + 1)) (lv' := [(11, .int (nI (i + 1))), (10, .int ((plgS Z i) + (if Z (39 + 8 * i + 4) = -1 then nI 0 else nI 1))), (9, .int ((sumS Z 9 i) + (((Z (39 + 8 * i + 6)) * (Z 2)) / (nI 10)))), (8, .int ((sumS Z 7 i) + (Z (39 + 8 * i + 7)))), (7, .int ((sumS Z 6 i) + (Z (39 + 8 * i + 6)))), (6, .int ((drA Z i) + (if rsn Z i = 0 then nI 1 else nI 0))), (13, .int (nI 4)), (12, .int (nI 1)), (0, .ref (ad 0)), (1, .ref (ad 198)), (2, .ref (ad 199)), (3, .ref (ad 200)), (4, .ref (ad 201)), (5, .ref (ad 202))]) hx hb dL_tells_315 hl (k := 7) rfl (nI_add i 1) (by decide) rfl (fun ls hl => ?_)
              refine lv_goto (tgt := 18) hx hb dL_tells_318 (by decide) ?_
              have hl := lv_sub (l' := [(11, .int (nI (i + 1))), (10, .int ((plgS Z i) + (if Z (39 + 8 * i + 4) = -1 then nI 0 else nI 1))), (9, .int ((sumS Z 9 i) + (((Z (39 + 8 * i + 6)) * (Z 2)) / (nI 10)))), (8, .int ((sumS Z 7 i) + (Z (39 + 8 * i + 7)))), (7, .int ((sumS Z 6 i) + (Z (39 + 8 * i + 6)))), (6, .int ((drA Z i) + (if rsn Z i = 0 then nI 1 else nI 0))), (0, .ref (ad 0)), (1, .ref (ad 198)), (2, .ref (ad 199)), (3, .ref (ad 200)), (4, .ref (ad 201)), (5, .ref (ad 202))]) hl [0, 1, 2, 3, 4, 5, 8, 9, 10, 11, 12, 13] rfl
              have le10 : Value.int ((plgS Z i) + (if Z (39 + 8 * i + 4) = -1 then nI 0 else nI 1)) = Value.int (plgS Z (i + 1)) := by rfl
              have le9 : Value.int ((sumS Z 9 i) + (((Z (39 + 8 * i + 6)) * (Z 2)) / (nI 10))) = Value.int (sumS Z 9 (i + 1)) := by rfl
              have le8 : Value.int ((sumS Z 7 i) + (Z (39 + 8 * i + 7))) = Value.int (sumS Z 7 (i + 1)) := by rfl
              have le7 : Value.int ((sumS Z 6 i) + (Z (39 + 8 * i + 6))) = Value.int (sumS Z 6 (i + 1)) := by rfl
              have le6 : Value.int ((drA Z i) + (if rsn Z i = 0 then nI 1 else nI 0)) = Value.int (drA Z (i + 1)) := by rfl
              have hl := lv_hasE hl (lcons rfl (lcons le10 (lcons le9 (lcons le8 (lcons le7 (lcons le6 (lcons rfl (lcons rfl (lcons rfl (lcons rfl (lcons rfl (lcons rfl rfl))))))))))))
              exact ih18 (i + 1) (by omega) (by omega) _ _ hP hS _ hl
            · refine lv_iload hx hb dL_tells_180 (lv_at hl 1 rfl) ?_
              refine lv_if_eq (tgt := 210) hx hb dL_tells_182 (by decide) (fun h => absurd h (by decide)) (fun _ => ?_)
              refine lv_aload_n hx hb dL_tells_185 rfl (lv_at hl 8 rfl) ?_
              refine lv_iload hx hb dL_tells_186 (lv_at hl 2 rfl) ?_
              refine lv_iload hx hb dL_tells_188 (lv_at hl 0 rfl) ?_
              refine nw_Or (ceO := O) (ceO' := O) (ce' := pcw O (lwc ct Z r)) (As := [.int (nI i), .int (nI j)]) (rest := []) hx hb hml hown htg hK hI hP hS (fun _ h => fA_in h) hl.1 (by decide) pcl pcl (fun _ _ _ => rfl) (@os_stallOf l D ct ad _ _ _ (i) (j) hOS hO (by omega) (by omega)) cw_L_29 h0 rfl rfl ⟨Nat.le_of_ble_eq_true rfl, Nat.le_of_ble_eq_true rfl⟩ (Nat.le_of_ble_eq_true rfl) dL_tells_190 ⟨Nat.le_of_ble_eq_true rfl, Nat.le_of_ble_eq_true rfl⟩ (fun H locs hP hS => ?_)
              refine lv_aload_n hx hb dL_tells_193 rfl (lv_at hl 9 rfl) ?_
              refine lv_bipush (v := nI 6) hx hb dL_tells_194 (by decide) ?_
              refine lv_iload hx hb dL_tells_196 (lv_at hl 2 rfl) ?_
              refine lv_imulN hx hb dL_tells_198 ?_
              refine lv_iload hx hb dL_tells_199 (lv_at hl 0 rfl) ?_
              refine lv_iaddN hx hb dL_tells_201 ?_
              refine fr_iald (k := 198) (f := vwA Z) hx hb hK hP (by decide) rfl (by omega) (by decide) dL_tells_202 ?_
              refine lv_teq (vwA_at (by omega) (by omega)) ?_
              refine lv_icmp_ne (tgt := 210) hx hb dL_tells_203 (by decide) (fun h => absurd (if_pos (by omega)) h) (fun _ => ?_)
              refine lv_iconst (v := nI 1) hx hb dL_tells_206 (by decide) ?_
              refine lv_goto (tgt := 211) hx hb dL_tells_207 (by decide) ?_
              refine lv_istore (lv' := [(12, .int (nI 1)), (13, .int (nI j)), (11, .int (nI i)), (10, .int (plgS Z i)), (9, .int (sumS Z 9 i)), (8, .int (sumS Z 7 i)), (7, .int (sumS Z 6 i)), (6, .int (drA Z i)), (0, .ref (ad 0)), (1, .ref (ad 198)), (2, .ref (ad 199)), (3, .ref (ad 200)), (4, .ref (ad 201)), (5, .ref (ad 202))]) hx hb dL_tells_211 hl (by decide) rfl (fun ls hl => ?_)
              refine lv_iinc (v := nI (j + 1)) (lv' := [(13, .int (nI (j + 1))), (12, .int (nI 1)), (11, .int (nI i)), (10, .int (plgS Z i)), (9, .int (sumS Z 9 i)), (8, .int (sumS Z 7 i)), (7, .int (sumS Z 6 i)), (6, .int (drA Z i)), (0, .ref (ad 0)), (1, .ref (ad 198)), (2, .ref (ad 199)), (3, .ref (ad 200)), (4, .ref (ad 201)), (5, .ref (ad 202))]) hx hb dL_tells_213 hl (k := 1) rfl (nI_add j 1) (by decide) rfl (fun ls hl => ?_)
              refine lv_goto (tgt := 174) hx hb dL_tells_216 (by decide) ?_
              have hl := lv_sub (l' := [(13, .int (nI (j + 1))), (12, .int (nI 1)), (11, .int (nI i)), (10, .int (plgS Z i)), (9, .int (sumS Z 9 i)), (8, .int (sumS Z 7 i)), (7, .int (sumS Z 6 i)), (6, .int (drA Z i)), (0, .ref (ad 0)), (1, .ref (ad 198)), (2, .ref (ad 199)), (3, .ref (ad 200)), (4, .ref (ad 201)), (5, .ref (ad 202))]) hl [0, 1, 2, 3, 4, 5, 6, 7, 8, 9, 10, 11, 12, 13] rfl
              exact ih174 (j + 1) (by omega) (by omega) _ _ hP hS _ hl
        have hl := lv_sub (l' := [(13, .int (nI 0)), (12, .int (nI 1)), (11, .int (nI i)), (10, .int (plgS Z i)), (9, .int (sumS Z 9 i)), (8, .int (sumS Z 7 i)), (7, .int (sumS Z 6 i)), (6, .int (drA Z i)), (0, .ref (ad 0)), (1, .ref (ad 198)), (2, .ref (ad 199)), (3, .ref (ad 200)), (4, .ref (ad 201)), (5, .ref (ad 202))]) hl [0, 1, 2, 3, 4, 5, 6, 7, 8, 9, 10, 11, 12, 13] rfl
        exact lp174 (4 - 0 + 1) 0 (by omega) (Nat.lt_succ_self _) _ _ hP hS _ hl
  have hl := lv_sub (l' := [(11, .int (nI 0)), (10, .int (nI 0)), (9, .int (nI 0)), (8, .int (nI 0)), (7, .int (nI 0)), (6, .int (nI 0)), (0, .ref (ad 0)), (1, .ref (ad 198)), (2, .ref (ad 199)), (3, .ref (ad 200)), (4, .ref (ad 201)), (5, .ref (ad 202))]) hl [0, 1, 2, 3, 4, 5, 6, 7, 8, 9, 10, 11] rfl
  have le10 : Value.int (nI 0) = Value.int (plgS Z 0) := by rfl
  have le9 : Value.int (nI 0) = Value.int (sumS Z 9 0) := by rfl
  have le8 : Value.int (nI 0) = Value.int (sumS Z 7 0) := by rfl
  have le7 : Value.int (nI 0) = Value.int (sumS Z 6 0) := by rfl
  have le6 : Value.int (nI 0) = Value.int (drA Z 0) := by rfl
  have hl := lv_hasE hl (lcons rfl (lcons le10 (lcons le9 (lcons le8 (lcons le7 (lcons le6 (lcons rfl (lcons rfl (lcons rfl (lcons rfl (lcons rfl (lcons rfl rfl))))))))))))
  exact lp18 (n - 0 + 1) 0 (by omega) (Nat.lt_succ_self _) _ _ hP hS _ hl
