/-! THE REFERENCE: orders read -/
theorem rsR_w {B : Nat → Int32} {tn p w : Nat} {O : Nat → Int32} {to : Nat} {r : Nat × Nat × (Nat → Int32)} (h : rsR B tn p w O to = r) (ht : tn ≤ 60) (hp : pI tn p w) : pI tn r.1 r.2.1 := by rw [← h]; exact rsR_pI ht hp
theorem roR_w {B : Nat → Int32} {tn p w : Nat} {O : Nat → Int32} {o : Nat} {r : Nat × Nat × (Nat → Int32)} (h : roR B tn p w O o = r) (ht : tn ≤ 60) (hp : pI tn p w) : pI tn r.1 r.2.1 := by rw [← h]; exact roR_pI ht hp
theorem roR_g {B : Nat → Int32} {tn p w : Nat} {O : Nat → Int32} {o : Nat} {r : Nat × Nat × (Nat → Int32)} (h : roR B tn p w O o = r) (ht : tn ≤ 60) (hp : pI tn p w) : r.2.1 = 99 → p + 2 ≤ r.1 := by rw [← h]; exact fun q => (roR_go ht hp q).2
theorem rbL_end {B : Nat → Int32} {tn f o p : Nat} {O : Nat → Int32} {s : Nat × Nat × (Nat → Int32)} (hf : 1 ≤ f) (hs : roR B tn p 99 O o = s) (h : ¬ (s.2.1 = 99 ∧ s.1 < tn)) : rbL B tn f o p O = (o + 1, s.1, s.2.1, s.2.2) := by
  cases f
  · omega
  · rw [rbL, hs, if_neg h]
theorem rbL_bad {B : Nat → Int32} {tn f o p : Nat} {O : Nat → Int32} {s : Nat × Nat × (Nat → Int32)} (hf : 1 ≤ f) (hs : roR B tn p 99 O o = s) (h : s.2.1 = 99 ∧ s.1 < tn) (h2 : ¬ ltr B tn s.1 = nI 59) : rbL B tn f o p O = (o + 1, s.1 + 1, s.1, s.2.2) := by
  cases f
  · omega
  · rw [rbL, hs, if_pos h, if_neg h2]
theorem rbL_on {B : Nat → Int32} {tn f o p : Nat} {O : Nat → Int32} {s : Nat × Nat × (Nat → Int32)} (hf : 1 ≤ f) (hs : roR B tn p 99 O o = s) (h : s.2.1 = 99 ∧ s.1 < tn) (h2 : ltr B tn s.1 = nI 59) : rbL B tn f o p O = rbL B tn (f - 1) (o + 1) (s.1 + 1) s.2.2 := by
  cases f
  · omega
  · rw [rbL, hs, if_pos h, if_pos h2]; rfl
theorem roR_s {B : Nat → Int32} {tn p w : Nat} {O : Nat → Int32} {o : Nat} (c : ltr B tn p = nI 115) : roR B tn p w O o = rsR B tn (wnP p w) (wnW p w true) (upd O (5 * o) (ltr B tn p)) (5 * o) := by
  have k : kdB (ltr B tn p) = true := by unfold kdB; rw [decide_eq_true c]; rfl
  unfold roR
  rw [if_pos c, k]
theorem roR_p {B : Nat → Int32} {tn p w : Nat} {O : Nat → Int32} {o : Nat} (c1 : ¬ ltr B tn p = nI 115) (c : ltr B tn p = nI 112) : roR B tn p w O o = rqR B tn (wnP p w) (wnW p w true) (upd O (5 * o) (ltr B tn p)) (5 * o) := by
  have k : kdB (ltr B tn p) = true := by unfold kdB; rw [decide_eq_true c, decide_eq_false c1]; rfl
  unfold roR
  rw [if_neg c1, if_pos c, k]
theorem roR_h {B : Nat → Int32} {tn p w : Nat} {O : Nat → Int32} {o : Nat} (c1 : ¬ ltr B tn p = nI 115) (c2 : ¬ ltr B tn p = nI 112) (c : ltr B tn p = nI 104) : roR B tn p w O o = nfR B tn (wnP p w) (wnW p w true) (upd O (5 * o) (ltr B tn p)) (nI 1) (nI 48) (5 * o + 1) := by
  have k : kdB (ltr B tn p) = true := by unfold kdB; rw [decide_eq_true c, decide_eq_false c1, decide_eq_false c2]; rfl
  unfold roR
  rw [if_neg c1, if_neg c2, k]
theorem roR_x {B : Nat → Int32} {tn p w : Nat} {O : Nat → Int32} {o : Nat} (c1 : ¬ ltr B tn p = nI 115) (c2 : ¬ ltr B tn p = nI 112) (c : ¬ ltr B tn p = nI 104) : roR B tn p w O o = nfR B tn (wnP p w) (wnW p w false) (upd O (5 * o) (ltr B tn p)) (nI 1) (nI 48) (5 * o + 1) := by
  have k : kdB (ltr B tn p) = false := by unfold kdB; rw [decide_eq_false c, decide_eq_false c1, decide_eq_false c2]; rfl
  unfold roR
  rw [if_neg c1, if_neg c2, k]
set_option maxRecDepth 100000 in
set_option maxHeartbeats 4000000 in
theorem m6_readStall (l : Launch) (D : va_G) (ct : Nat → ClassId) (ad : Nat → Nat) (Z g : Nat → Int32) (hs : Int64) (F : Nat → Nat → Int32) (to : Nat) (pp : Nat) (ww : Nat) (tn : Nat) (rr : Nat × Nat × (Nat → Int32)) (hrr : rsR (F 6) tn pp ww (F 7) to = rr) (ht : g 8 = nI tn) (htn : tn ≤ 60) (hpi : pI tn pp ww) (hto : to + 4 < 110) : FMet l yX6_readStall cX6_readStall 2 (none : Option Jvm.ClassFile.FieldType) 2 46 D ct 8 ad [.ref (ad 0), .int (nI to)] (mdc ct ad Z (upd (upd g 11 (nI pp)) 12 (ow ww)) hs F) none (mdc ct ad Z (upd (upd g 11 (nI rr.1)) 12 (ow rr.2.1)) hs (va_up F 7 rr.2.2)) := by
  refine FMet.of (by decide +kernel) (Nat.le_of_ble_eq_true rfl) ?_
  intro p e s m args below meth c ls hx hb hr hml hown hlocks htg hK hI hP hS hl
  have hl : lv_has ls 2 [(0, .ref (ad 0)), (1, .int (nI to))] := hl
  have hp1 := hpi.1
  have hp3 := hpi.2.2
  refine lv_aload_n hx hb dX6_readStall_0 rfl (lv_at hl 0 rfl) ?_
  refine md_g9 hx hb hown htg hK hP dX6_readStall_1 ?_
  refine lv_iload_n hx hb dX6_readStall_4 rfl (lv_at hl 1 rfl) ?_
  refine lv_iconst (v := nI 1) hx hb dX6_readStall_5 (by decide) ?_
  refine lv_iaddN hx hb dX6_readStall_6 ?_
  refine lv_aload_n hx hb dX6_readStall_7 rfl (lv_at hl 0 rfl) ?_
  refine lv_iconst (v := nI 1) hx hb dX6_readStall_8 (by decide) ?_
  refine lv_sipush (v := nI 500) hx hb dX6_readStall_9 (by decide) ?_
  obtain ⟨rr1, hrr1⟩ : ∃ z9, nuR ((F 6)) tn pp ww (nI 1) (nI 500) = z9 := ⟨_, rfl⟩
  refine md_cVr (As := [.int (nI 1), .int (nI 500)]) (rest := [.int (nI (to + 1)), .ref (ad 7)]) hx hb hown htg hK hI hS hP hml hl.1 (m6_number l D ct ad _ _ _ _ (nI 1) (nI 500) pp ww tn rr1 hrr1 ht (by omega) hpi (by decide)) cw_X6_145 rfl rfl ⟨Nat.le_of_ble_eq_true rfl, Nat.le_of_ble_eq_true rfl⟩ (Nat.le_of_ble_eq_true rfl) dX6_readStall_12 ⟨Nat.le_refl _, Nat.le_refl _⟩ (fun H locs hP hS => ?_)
  refine md_s7 hx hb hK hI hS hP (by omega) dX6_readStall_15 (fun H locs hP hS => ?_)
  refine lv_aload_n hx hb dX6_readStall_16 rfl (lv_at hl 0 rfl) ?_
  refine lv_aload_n hx hb dX6_readStall_17 rfl (lv_at hl 0 rfl) ?_
  refine md_cVr (As := []) (rest := [.ref (ad 0)]) hx hb hown htg hK hI hS hP hml hl.1 (m6_letter l D ct ad _ _ _ _ rr1.2.1 rr1.2.2 tn ht (by omega) (nuR_w hrr1 (by omega) (by decide) hpi)) cw_X6_138 rfl rfl ⟨Nat.le_of_ble_eq_true rfl, Nat.le_of_ble_eq_true rfl⟩ (Nat.le_of_ble_eq_true rfl) dX6_readStall_18 ⟨Nat.le_refl _, Nat.le_refl _⟩ (fun H locs hP hS => ?_)
  refine lv_teq (y := ltr ((F 6)) tn rr1.2.1) rfl ?_
  refine lv_bipush (v := nI 64) hx hb dX6_readStall_21 (by decide) ?_
  refine lv_icmp_ne (tgt := 30) hx hb dX6_readStall_23 (by decide) (fun c23 => ?_) (fun c23 => ?_)
  · refine lv_iconst (v := nI 0) hx hb dX6_readStall_30 (by decide) ?_
    refine md_cV0 (As := [.int (nI 0)]) (rest := []) hx hb hown htg hK hI hS hP hml hl.1 (m6_wants l D ct ad _ _ _ _ false rr1.2.1 rr1.2.2 tn (by omega) (nuR_w hrr1 (by omega) (by decide) hpi)) cw_X6_141 rfl rfl ⟨Nat.le_of_ble_eq_true rfl, Nat.le_of_ble_eq_true rfl⟩ (Nat.le_of_ble_eq_true rfl) dX6_readStall_31 ⟨Nat.le_refl _, Nat.le_refl _⟩ (fun H locs hP hS => ?_)
    refine lv_aload_n hx hb dX6_readStall_34 rfl (lv_at hl 0 rfl) ?_
    refine md_g9 hx hb hown htg hK hP dX6_readStall_35 ?_
    refine lv_iload_n hx hb dX6_readStall_38 rfl (lv_at hl 1 rfl) ?_
    refine lv_iconst (v := nI 2) hx hb dX6_readStall_39 (by decide) ?_
    refine lv_iaddN hx hb dX6_readStall_40 ?_
    refine lv_aload_n hx hb dX6_readStall_41 rfl (lv_at hl 0 rfl) ?_
    refine lv_iconst (v := nI 0) hx hb dX6_readStall_42 (by decide) ?_
    refine lv_bipush (v := nI 23) hx hb dX6_readStall_43 (by decide) ?_
    obtain ⟨rr2, hrr2⟩ : ∃ z9, nuR ((F 6)) tn (wnP rr1.2.1 rr1.2.2) (wnW rr1.2.1 rr1.2.2 false) (nI 0) (nI 23) = z9 := ⟨_, rfl⟩
    refine md_cVr (As := [.int (nI 0), .int (nI 23)]) (rest := [.int (nI (to + 2)), .ref (ad 7)]) hx hb hown htg hK hI hS hP hml hl.1 (m6_number l D ct ad _ _ _ _ (nI 0) (nI 23) (wnP rr1.2.1 rr1.2.2) (wnW rr1.2.1 rr1.2.2 false) tn rr2 hrr2 ht (by omega) (wn_pI htn (nuR_w hrr1 (by omega) (by decide) hpi) (fun q _ => absurd q Bool.false_ne_true)) (by decide)) cw_X6_145 rfl rfl ⟨Nat.le_of_ble_eq_true rfl, Nat.le_of_ble_eq_true rfl⟩ (Nat.le_of_ble_eq_true rfl) dX6_readStall_45 ⟨Nat.le_refl _, Nat.le_refl _⟩ (fun H locs hP hS => ?_)
    refine md_s7 hx hb hK hI hS hP (by omega) dX6_readStall_48 (fun H locs hP hS => ?_)
    refine lv_aload_n hx hb dX6_readStall_49 rfl (lv_at hl 0 rfl) ?_
    refine lv_aload_n hx hb dX6_readStall_50 rfl (lv_at hl 0 rfl) ?_
    refine md_cVr (As := []) (rest := [.ref (ad 0)]) hx hb hown htg hK hI hS hP hml hl.1 (m6_letter l D ct ad _ _ _ _ rr2.2.1 rr2.2.2 tn ht (by omega) (nuR_w hrr2 (by omega) (by decide) (wn_pI htn (nuR_w hrr1 (by omega) (by decide) hpi) (fun q _ => absurd q Bool.false_ne_true)))) cw_X6_138 rfl rfl ⟨Nat.le_of_ble_eq_true rfl, Nat.le_of_ble_eq_true rfl⟩ (Nat.le_of_ble_eq_true rfl) dX6_readStall_51 ⟨Nat.le_refl _, Nat.le_refl _⟩ (fun H locs hP hS => ?_)
    refine lv_teq (y := ltr ((F 6)) tn rr2.2.1) rfl ?_
    refine lv_bipush (v := nI 45) hx hb dX6_readStall_54 (by decide) ?_
    refine lv_icmp_ne (tgt := 63) hx hb dX6_readStall_56 (by decide) (fun c56 => ?_) (fun c56 => ?_)
    · refine lv_iconst (v := nI 0) hx hb dX6_readStall_63 (by decide) ?_
      refine md_cV0 (As := [.int (nI 0)]) (rest := []) hx hb hown htg hK hI hS hP hml hl.1 (m6_wants l D ct ad _ _ _ _ false rr2.2.1 rr2.2.2 tn (by omega) (nuR_w hrr2 (by omega) (by decide) (wn_pI htn (nuR_w hrr1 (by omega) (by decide) hpi) (fun q _ => absurd q Bool.false_ne_true)))) cw_X6_141 rfl rfl ⟨Nat.le_of_ble_eq_true rfl, Nat.le_of_ble_eq_true rfl⟩ (Nat.le_of_ble_eq_true rfl) dX6_readStall_64 ⟨Nat.le_refl _, Nat.le_refl _⟩ (fun H locs hP hS => ?_)
      refine lv_aload_n hx hb dX6_readStall_67 rfl (lv_at hl 0 rfl) ?_
      refine md_g9 hx hb hown htg hK hP dX6_readStall_68 ?_
      refine lv_iload_n hx hb dX6_readStall_71 rfl (lv_at hl 1 rfl) ?_
      refine lv_iconst (v := nI 3) hx hb dX6_readStall_72 (by decide) ?_
      refine lv_iaddN hx hb dX6_readStall_73 ?_
      refine lv_aload_n hx hb dX6_readStall_74 rfl (lv_at hl 0 rfl) ?_
      refine lv_iconst (v := nI 0) hx hb dX6_readStall_75 (by decide) ?_
      refine lv_bipush (v := nI 23) hx hb dX6_readStall_76 (by decide) ?_
      obtain ⟨rr3, hrr3⟩ : ∃ z9, nuR ((F 6)) tn (wnP rr2.2.1 rr2.2.2) (wnW rr2.2.1 rr2.2.2 false) (nI 0) (nI 23) = z9 := ⟨_, rfl⟩
      refine md_cVr (As := [.int (nI 0), .int (nI 23)]) (rest := [.int (nI (to + 3)), .ref (ad 7)]) hx hb hown htg hK hI hS hP hml hl.1 (m6_number l D ct ad _ _ _ _ (nI 0) (nI 23) (wnP rr2.2.1 rr2.2.2) (wnW rr2.2.1 rr2.2.2 false) tn rr3 hrr3 ht (by omega) (wn_pI htn (nuR_w hrr2 (by omega) (by decide) (wn_pI htn (nuR_w hrr1 (by omega) (by decide) hpi) (fun q _ => absurd q Bool.false_ne_true))) (fun q _ => absurd q Bool.false_ne_true)) (by decide)) cw_X6_145 rfl rfl ⟨Nat.le_of_ble_eq_true rfl, Nat.le_of_ble_eq_true rfl⟩ (Nat.le_of_ble_eq_true rfl) dX6_readStall_78 ⟨Nat.le_refl _, Nat.le_refl _⟩ (fun H locs hP hS => ?_)
      refine md_s7 hx hb hK hI hS hP (by omega) dX6_readStall_81 (fun H locs hP hS => ?_)
      refine lv_aload_n hx hb dX6_readStall_82 rfl (lv_at hl 0 rfl) ?_
      refine lv_aload_n hx hb dX6_readStall_83 rfl (lv_at hl 0 rfl) ?_
      refine md_cVr (As := []) (rest := [.ref (ad 0)]) hx hb hown htg hK hI hS hP hml hl.1 (m6_letter l D ct ad _ _ _ _ rr3.2.1 rr3.2.2 tn ht (by omega) (nuR_w hrr3 (by omega) (by decide) (wn_pI htn (nuR_w hrr2 (by omega) (by decide) (wn_pI htn (nuR_w hrr1 (by omega) (by decide) hpi) (fun q _ => absurd q Bool.false_ne_true))) (fun q _ => absurd q Bool.false_ne_true)))) cw_X6_138 rfl rfl ⟨Nat.le_of_ble_eq_true rfl, Nat.le_of_ble_eq_true rfl⟩ (Nat.le_of_ble_eq_true rfl) dX6_readStall_84 ⟨Nat.le_refl _, Nat.le_refl _⟩ (fun H locs hP hS => ?_)
      refine lv_teq (y := ltr ((F 6)) tn rr3.2.1) rfl ?_
      refine lv_bipush (v := nI 42) hx hb dX6_readStall_87 (by decide) ?_
      refine lv_icmp_ne (tgt := 96) hx hb dX6_readStall_89 (by decide) (fun c89 => ?_) (fun c89 => ?_)
      · refine lv_iconst (v := nI 0) hx hb dX6_readStall_96 (by decide) ?_
        refine md_cV0 (As := [.int (nI 0)]) (rest := []) hx hb hown htg hK hI hS hP hml hl.1 (m6_wants l D ct ad _ _ _ _ false rr3.2.1 rr3.2.2 tn (by omega) (nuR_w hrr3 (by omega) (by decide) (wn_pI htn (nuR_w hrr2 (by omega) (by decide) (wn_pI htn (nuR_w hrr1 (by omega) (by decide) hpi) (fun q _ => absurd q Bool.false_ne_true))) (fun q _ => absurd q Bool.false_ne_true)))) cw_X6_141 rfl rfl ⟨Nat.le_of_ble_eq_true rfl, Nat.le_of_ble_eq_true rfl⟩ (Nat.le_of_ble_eq_true rfl) dX6_readStall_97 ⟨Nat.le_refl _, Nat.le_refl _⟩ (fun H locs hP hS => ?_)
        refine lv_aload_n hx hb dX6_readStall_100 rfl (lv_at hl 0 rfl) ?_
        refine md_g9 hx hb hown htg hK hP dX6_readStall_101 ?_
        refine lv_iload_n hx hb dX6_readStall_104 rfl (lv_at hl 1 rfl) ?_
        refine lv_iconst (v := nI 4) hx hb dX6_readStall_105 (by decide) ?_
        refine lv_iaddN hx hb dX6_readStall_106 ?_
        refine lv_aload_n hx hb dX6_readStall_107 rfl (lv_at hl 0 rfl) ?_
        refine lv_iconst (v := nI 1) hx hb dX6_readStall_108 (by decide) ?_
        refine lv_bipush (v := nI 9) hx hb dX6_readStall_109 (by decide) ?_
        obtain ⟨rr4, hrr4⟩ : ∃ z9, nuR ((F 6)) tn (wnP rr3.2.1 rr3.2.2) (wnW rr3.2.1 rr3.2.2 false) (nI 1) (nI 9) = z9 := ⟨_, rfl⟩
        refine md_cVr (As := [.int (nI 1), .int (nI 9)]) (rest := [.int (nI (to + 4)), .ref (ad 7)]) hx hb hown htg hK hI hS hP hml hl.1 (m6_number l D ct ad _ _ _ _ (nI 1) (nI 9) (wnP rr3.2.1 rr3.2.2) (wnW rr3.2.1 rr3.2.2 false) tn rr4 hrr4 ht (by omega) (wn_pI htn (nuR_w hrr3 (by omega) (by decide) (wn_pI htn (nuR_w hrr2 (by omega) (by decide) (wn_pI htn (nuR_w hrr1 (by omega) (by decide) hpi) (fun q _ => absurd q Bool.false_ne_true))) (fun q _ => absurd q Bool.false_ne_true))) (fun q _ => absurd q Bool.false_ne_true)) (by decide)) cw_X6_145 rfl rfl ⟨Nat.le_of_ble_eq_true rfl, Nat.le_of_ble_eq_true rfl⟩ (Nat.le_of_ble_eq_true rfl) dX6_readStall_111 ⟨Nat.le_refl _, Nat.le_refl _⟩ (fun H locs hP hS => ?_)
        refine md_s7 hx hb hK hI hS hP (by omega) dX6_readStall_114 (fun H locs hP hS => ?_)
        have hr9 : rr = (rr4.2.1, rr4.2.2, upd (upd (upd (upd (F 7) (to + 1) rr1.1) (to + 2) rr2.1) (to + 3) rr3.1) (to + 4) rr4.1) := by rw [← hrr]; simp only [rsR, rs3, rs2, rs1, nsR, nfR, hrr1, c23, hrr2, c56, hrr3, c89, hrr4, decide_true, decide_false, eq_self]
        refine fr_vret hx hb hr hlocks hK hI hS dX6_readStall_115 ?_
        refine fP.eqc (congrArg (fun v9 => mdc ct ad Z v9 hs (va_up F 7 rr.2.2)) (show (upd (upd g 11 (nI rr.1)) 12 (ow rr.2.1)) = (upd (upd g 11 (nI rr4.2.1)) 12 (ow rr4.2.2)) from by (rw [hr9]; try simp only [va_up_up])).symm) ?_
        refine fP.eqc (congrArg (fun v9 => mdc ct ad Z (upd (upd g 11 (nI rr4.2.1)) 12 (ow rr4.2.2)) hs v9) (show (va_up F 7 rr.2.2) = (va_up (va_up (va_up (va_up F 7 (upd (F 7) (to + 1) rr1.1)) 7 (upd (upd (F 7) (to + 1) rr1.1) (to + 2) rr2.1)) 7 (upd (upd (upd (F 7) (to + 1) rr1.1) (to + 2) rr2.1) (to + 3) rr3.1)) 7 (upd (upd (upd (upd (F 7) (to + 1) rr1.1) (to + 2) rr2.1) (to + 3) rr3.1) (to + 4) rr4.1)) from by (rw [hr9]; try simp only [va_up_up])).symm) ?_
        exact hP
      · refine lv_iconst (v := nI 1) hx hb dX6_readStall_92 (by decide) ?_
        refine lv_goto (tgt := 97) hx hb dX6_readStall_93 (by decide) ?_
        refine md_cV0 (As := [.int (nI 1)]) (rest := []) hx hb hown htg hK hI hS hP hml hl.1 (m6_wants l D ct ad _ _ _ _ true rr3.2.1 rr3.2.2 tn (by omega) (nuR_w hrr3 (by omega) (by decide) (wn_pI htn (nuR_w hrr2 (by omega) (by decide) (wn_pI htn (nuR_w hrr1 (by omega) (by decide) hpi) (fun q _ => absurd q Bool.false_ne_true))) (fun q _ => absurd q Bool.false_ne_true)))) cw_X6_141 rfl rfl ⟨Nat.le_of_ble_eq_true rfl, Nat.le_of_ble_eq_true rfl⟩ (Nat.le_of_ble_eq_true rfl) dX6_readStall_97 ⟨Nat.le_refl _, Nat.le_refl _⟩ (fun H locs hP hS => ?_)
        refine lv_aload_n hx hb dX6_readStall_100 rfl (lv_at hl 0 rfl) ?_
        refine md_g9 hx hb hown htg hK hP dX6_readStall_101 ?_
        refine lv_iload_n hx hb dX6_readStall_104 rfl (lv_at hl 1 rfl) ?_
        refine lv_iconst (v := nI 4) hx hb dX6_readStall_105 (by decide) ?_
        refine lv_iaddN hx hb dX6_readStall_106 ?_
        refine lv_aload_n hx hb dX6_readStall_107 rfl (lv_at hl 0 rfl) ?_
        refine lv_iconst (v := nI 1) hx hb dX6_readStall_108 (by decide) ?_
        refine lv_bipush (v := nI 9) hx hb dX6_readStall_109 (by decide) ?_
        obtain ⟨rr5, hrr5⟩ : ∃ z9, nuR ((F 6)) tn (wnP rr3.2.1 rr3.2.2) (wnW rr3.2.1 rr3.2.2 true) (nI 1) (nI 9) = z9 := ⟨_, rfl⟩
        refine md_cVr (As := [.int (nI 1), .int (nI 9)]) (rest := [.int (nI (to + 4)), .ref (ad 7)]) hx hb hown htg hK hI hS hP hml hl.1 (m6_number l D ct ad _ _ _ _ (nI 1) (nI 9) (wnP rr3.2.1 rr3.2.2) (wnW rr3.2.1 rr3.2.2 true) tn rr5 hrr5 ht (by omega) (wn_pI htn (nuR_w hrr3 (by omega) (by decide) (wn_pI htn (nuR_w hrr2 (by omega) (by decide) (wn_pI htn (nuR_w hrr1 (by omega) (by decide) hpi) (fun q _ => absurd q Bool.false_ne_true))) (fun q _ => absurd q Bool.false_ne_true))) (fun _ _ => ltr_lt (by decide) c89)) (by decide)) cw_X6_145 rfl rfl ⟨Nat.le_of_ble_eq_true rfl, Nat.le_of_ble_eq_true rfl⟩ (Nat.le_of_ble_eq_true rfl) dX6_readStall_111 ⟨Nat.le_refl _, Nat.le_refl _⟩ (fun H locs hP hS => ?_)
        refine md_s7 hx hb hK hI hS hP (by omega) dX6_readStall_114 (fun H locs hP hS => ?_)
        have hr9 : rr = (rr5.2.1, rr5.2.2, upd (upd (upd (upd (F 7) (to + 1) rr1.1) (to + 2) rr2.1) (to + 3) rr3.1) (to + 4) rr5.1) := by rw [← hrr]; simp only [rsR, rs3, rs2, rs1, nsR, nfR, hrr1, c23, hrr2, c56, hrr3, c89, hrr5, decide_true, decide_false, eq_self]
        refine fr_vret hx hb hr hlocks hK hI hS dX6_readStall_115 ?_
        refine fP.eqc (congrArg (fun v9 => mdc ct ad Z v9 hs (va_up F 7 rr.2.2)) (show (upd (upd g 11 (nI rr.1)) 12 (ow rr.2.1)) = (upd (upd g 11 (nI rr5.2.1)) 12 (ow rr5.2.2)) from by (rw [hr9]; try simp only [va_up_up])).symm) ?_
        refine fP.eqc (congrArg (fun v9 => mdc ct ad Z (upd (upd g 11 (nI rr5.2.1)) 12 (ow rr5.2.2)) hs v9) (show (va_up F 7 rr.2.2) = (va_up (va_up (va_up (va_up F 7 (upd (F 7) (to + 1) rr1.1)) 7 (upd (upd (F 7) (to + 1) rr1.1) (to + 2) rr2.1)) 7 (upd (upd (upd (F 7) (to + 1) rr1.1) (to + 2) rr2.1) (to + 3) rr3.1)) 7 (upd (upd (upd (upd (F 7) (to + 1) rr1.1) (to + 2) rr2.1) (to + 3) rr3.1) (to + 4) rr5.1)) from by (rw [hr9]; try simp only [va_up_up])).symm) ?_
        exact hP
    · refine lv_iconst (v := nI 1) hx hb dX6_readStall_59 (by decide) ?_
      refine lv_goto (tgt := 64) hx hb dX6_readStall_60 (by decide) ?_
      refine md_cV0 (As := [.int (nI 1)]) (rest := []) hx hb hown htg hK hI hS hP hml hl.1 (m6_wants l D ct ad _ _ _ _ true rr2.2.1 rr2.2.2 tn (by omega) (nuR_w hrr2 (by omega) (by decide) (wn_pI htn (nuR_w hrr1 (by omega) (by decide) hpi) (fun q _ => absurd q Bool.false_ne_true)))) cw_X6_141 rfl rfl ⟨Nat.le_of_ble_eq_true rfl, Nat.le_of_ble_eq_true rfl⟩ (Nat.le_of_ble_eq_true rfl) dX6_readStall_64 ⟨Nat.le_refl _, Nat.le_refl _⟩ (fun H locs hP hS => ?_)
      refine lv_aload_n hx hb dX6_readStall_67 rfl (lv_at hl 0 rfl) ?_
      refine md_g9 hx hb hown htg hK hP dX6_readStall_68 ?_
      refine lv_iload_n hx hb dX6_readStall_71 rfl (lv_at hl 1 rfl) ?_
      refine lv_iconst (v := nI 3) hx hb dX6_readStall_72 (by decide) ?_
      refine lv_iaddN hx hb dX6_readStall_73 ?_
      refine lv_aload_n hx hb dX6_readStall_74 rfl (lv_at hl 0 rfl) ?_
      refine lv_iconst (v := nI 0) hx hb dX6_readStall_75 (by decide) ?_
      refine lv_bipush (v := nI 23) hx hb dX6_readStall_76 (by decide) ?_
      obtain ⟨rr6, hrr6⟩ : ∃ z9, nuR ((F 6)) tn (wnP rr2.2.1 rr2.2.2) (wnW rr2.2.1 rr2.2.2 true) (nI 0) (nI 23) = z9 := ⟨_, rfl⟩
      refine md_cVr (As := [.int (nI 0), .int (nI 23)]) (rest := [.int (nI (to + 3)), .ref (ad 7)]) hx hb hown htg hK hI hS hP hml hl.1 (m6_number l D ct ad _ _ _ _ (nI 0) (nI 23) (wnP rr2.2.1 rr2.2.2) (wnW rr2.2.1 rr2.2.2 true) tn rr6 hrr6 ht (by omega) (wn_pI htn (nuR_w hrr2 (by omega) (by decide) (wn_pI htn (nuR_w hrr1 (by omega) (by decide) hpi) (fun q _ => absurd q Bool.false_ne_true))) (fun _ _ => ltr_lt (by decide) c56)) (by decide)) cw_X6_145 rfl rfl ⟨Nat.le_of_ble_eq_true rfl, Nat.le_of_ble_eq_true rfl⟩ (Nat.le_of_ble_eq_true rfl) dX6_readStall_78 ⟨Nat.le_refl _, Nat.le_refl _⟩ (fun H locs hP hS => ?_)
      refine md_s7 hx hb hK hI hS hP (by omega) dX6_readStall_81 (fun H locs hP hS => ?_)
      refine lv_aload_n hx hb dX6_readStall_82 rfl (lv_at hl 0 rfl) ?_
      refine lv_aload_n hx hb dX6_readStall_83 rfl (lv_at hl 0 rfl) ?_
      refine md_cVr (As := []) (rest := [.ref (ad 0)]) hx hb hown htg hK hI hS hP hml hl.1 (m6_letter l D ct ad _ _ _ _ rr6.2.1 rr6.2.2 tn ht (by omega) (nuR_w hrr6 (by omega) (by decide) (wn_pI htn (nuR_w hrr2 (by omega) (by decide) (wn_pI htn (nuR_w hrr1 (by omega) (by decide) hpi) (fun q _ => absurd q Bool.false_ne_true))) (fun _ _ => ltr_lt (by decide) c56)))) cw_X6_138 rfl rfl ⟨Nat.le_of_ble_eq_true rfl, Nat.le_of_ble_eq_true rfl⟩ (Nat.le_of_ble_eq_true rfl) dX6_readStall_84 ⟨Nat.le_refl _, Nat.le_refl _⟩ (fun H locs hP hS => ?_)
      refine lv_teq (y := ltr ((F 6)) tn rr6.2.1) rfl ?_
      refine lv_bipush (v := nI 42) hx hb dX6_readStall_87 (by decide) ?_
      refine lv_icmp_ne (tgt := 96) hx hb dX6_readStall_89 (by decide) (fun c89 => ?_) (fun c89 => ?_)
      · refine lv_iconst (v := nI 0) hx hb dX6_readStall_96 (by decide) ?_
        refine md_cV0 (As := [.int (nI 0)]) (rest := []) hx hb hown htg hK hI hS hP hml hl.1 (m6_wants l D ct ad _ _ _ _ false rr6.2.1 rr6.2.2 tn (by omega) (nuR_w hrr6 (by omega) (by decide) (wn_pI htn (nuR_w hrr2 (by omega) (by decide) (wn_pI htn (nuR_w hrr1 (by omega) (by decide) hpi) (fun q _ => absurd q Bool.false_ne_true))) (fun _ _ => ltr_lt (by decide) c56)))) cw_X6_141 rfl rfl ⟨Nat.le_of_ble_eq_true rfl, Nat.le_of_ble_eq_true rfl⟩ (Nat.le_of_ble_eq_true rfl) dX6_readStall_97 ⟨Nat.le_refl _, Nat.le_refl _⟩ (fun H locs hP hS => ?_)
        refine lv_aload_n hx hb dX6_readStall_100 rfl (lv_at hl 0 rfl) ?_
        refine md_g9 hx hb hown htg hK hP dX6_readStall_101 ?_
        refine lv_iload_n hx hb dX6_readStall_104 rfl (lv_at hl 1 rfl) ?_
        refine lv_iconst (v := nI 4) hx hb dX6_readStall_105 (by decide) ?_
        refine lv_iaddN hx hb dX6_readStall_106 ?_
        refine lv_aload_n hx hb dX6_readStall_107 rfl (lv_at hl 0 rfl) ?_
        refine lv_iconst (v := nI 1) hx hb dX6_readStall_108 (by decide) ?_
        refine lv_bipush (v := nI 9) hx hb dX6_readStall_109 (by decide) ?_
        obtain ⟨rr7, hrr7⟩ : ∃ z9, nuR ((F 6)) tn (wnP rr6.2.1 rr6.2.2) (wnW rr6.2.1 rr6.2.2 false) (nI 1) (nI 9) = z9 := ⟨_, rfl⟩
        refine md_cVr (As := [.int (nI 1), .int (nI 9)]) (rest := [.int (nI (to + 4)), .ref (ad 7)]) hx hb hown htg hK hI hS hP hml hl.1 (m6_number l D ct ad _ _ _ _ (nI 1) (nI 9) (wnP rr6.2.1 rr6.2.2) (wnW rr6.2.1 rr6.2.2 false) tn rr7 hrr7 ht (by omega) (wn_pI htn (nuR_w hrr6 (by omega) (by decide) (wn_pI htn (nuR_w hrr2 (by omega) (by decide) (wn_pI htn (nuR_w hrr1 (by omega) (by decide) hpi) (fun q _ => absurd q Bool.false_ne_true))) (fun _ _ => ltr_lt (by decide) c56))) (fun q _ => absurd q Bool.false_ne_true)) (by decide)) cw_X6_145 rfl rfl ⟨Nat.le_of_ble_eq_true rfl, Nat.le_of_ble_eq_true rfl⟩ (Nat.le_of_ble_eq_true rfl) dX6_readStall_111 ⟨Nat.le_refl _, Nat.le_refl _⟩ (fun H locs hP hS => ?_)
        refine md_s7 hx hb hK hI hS hP (by omega) dX6_readStall_114 (fun H locs hP hS => ?_)
        have hr9 : rr = (rr7.2.1, rr7.2.2, upd (upd (upd (upd (F 7) (to + 1) rr1.1) (to + 2) rr2.1) (to + 3) rr6.1) (to + 4) rr7.1) := by rw [← hrr]; simp only [rsR, rs3, rs2, rs1, nsR, nfR, hrr1, c23, hrr2, c56, hrr6, c89, hrr7, decide_true, decide_false, eq_self]
        refine fr_vret hx hb hr hlocks hK hI hS dX6_readStall_115 ?_
        refine fP.eqc (congrArg (fun v9 => mdc ct ad Z v9 hs (va_up F 7 rr.2.2)) (show (upd (upd g 11 (nI rr.1)) 12 (ow rr.2.1)) = (upd (upd g 11 (nI rr7.2.1)) 12 (ow rr7.2.2)) from by (rw [hr9]; try simp only [va_up_up])).symm) ?_
        refine fP.eqc (congrArg (fun v9 => mdc ct ad Z (upd (upd g 11 (nI rr7.2.1)) 12 (ow rr7.2.2)) hs v9) (show (va_up F 7 rr.2.2) = (va_up (va_up (va_up (va_up F 7 (upd (F 7) (to + 1) rr1.1)) 7 (upd (upd (F 7) (to + 1) rr1.1) (to + 2) rr2.1)) 7 (upd (upd (upd (F 7) (to + 1) rr1.1) (to + 2) rr2.1) (to + 3) rr6.1)) 7 (upd (upd (upd (upd (F 7) (to + 1) rr1.1) (to + 2) rr2.1) (to + 3) rr6.1) (to + 4) rr7.1)) from by (rw [hr9]; try simp only [va_up_up])).symm) ?_
        exact hP
      · refine lv_iconst (v := nI 1) hx hb dX6_readStall_92 (by decide) ?_
        refine lv_goto (tgt := 97) hx hb dX6_readStall_93 (by decide) ?_
        refine md_cV0 (As := [.int (nI 1)]) (rest := []) hx hb hown htg hK hI hS hP hml hl.1 (m6_wants l D ct ad _ _ _ _ true rr6.2.1 rr6.2.2 tn (by omega) (nuR_w hrr6 (by omega) (by decide) (wn_pI htn (nuR_w hrr2 (by omega) (by decide) (wn_pI htn (nuR_w hrr1 (by omega) (by decide) hpi) (fun q _ => absurd q Bool.false_ne_true))) (fun _ _ => ltr_lt (by decide) c56)))) cw_X6_141 rfl rfl ⟨Nat.le_of_ble_eq_true rfl, Nat.le_of_ble_eq_true rfl⟩ (Nat.le_of_ble_eq_true rfl) dX6_readStall_97 ⟨Nat.le_refl _, Nat.le_refl _⟩ (fun H locs hP hS => ?_)
        refine lv_aload_n hx hb dX6_readStall_100 rfl (lv_at hl 0 rfl) ?_
        refine md_g9 hx hb hown htg hK hP dX6_readStall_101 ?_
        refine lv_iload_n hx hb dX6_readStall_104 rfl (lv_at hl 1 rfl) ?_
        refine lv_iconst (v := nI 4) hx hb dX6_readStall_105 (by decide) ?_
        refine lv_iaddN hx hb dX6_readStall_106 ?_
        refine lv_aload_n hx hb dX6_readStall_107 rfl (lv_at hl 0 rfl) ?_
        refine lv_iconst (v := nI 1) hx hb dX6_readStall_108 (by decide) ?_
        refine lv_bipush (v := nI 9) hx hb dX6_readStall_109 (by decide) ?_
        obtain ⟨rr8, hrr8⟩ : ∃ z9, nuR ((F 6)) tn (wnP rr6.2.1 rr6.2.2) (wnW rr6.2.1 rr6.2.2 true) (nI 1) (nI 9) = z9 := ⟨_, rfl⟩
        refine md_cVr (As := [.int (nI 1), .int (nI 9)]) (rest := [.int (nI (to + 4)), .ref (ad 7)]) hx hb hown htg hK hI hS hP hml hl.1 (m6_number l D ct ad _ _ _ _ (nI 1) (nI 9) (wnP rr6.2.1 rr6.2.2) (wnW rr6.2.1 rr6.2.2 true) tn rr8 hrr8 ht (by omega) (wn_pI htn (nuR_w hrr6 (by omega) (by decide) (wn_pI htn (nuR_w hrr2 (by omega) (by decide) (wn_pI htn (nuR_w hrr1 (by omega) (by decide) hpi) (fun q _ => absurd q Bool.false_ne_true))) (fun _ _ => ltr_lt (by decide) c56))) (fun _ _ => ltr_lt (by decide) c89)) (by decide)) cw_X6_145 rfl rfl ⟨Nat.le_of_ble_eq_true rfl, Nat.le_of_ble_eq_true rfl⟩ (Nat.le_of_ble_eq_true rfl) dX6_readStall_111 ⟨Nat.le_refl _, Nat.le_refl _⟩ (fun H locs hP hS => ?_)
        refine md_s7 hx hb hK hI hS hP (by omega) dX6_readStall_114 (fun H locs hP hS => ?_)
        have hr9 : rr = (rr8.2.1, rr8.2.2, upd (upd (upd (upd (F 7) (to + 1) rr1.1) (to + 2) rr2.1) (to + 3) rr6.1) (to + 4) rr8.1) := by rw [← hrr]; simp only [rsR, rs3, rs2, rs1, nsR, nfR, hrr1, c23, hrr2, c56, hrr6, c89, hrr8, decide_true, decide_false, eq_self]
        refine fr_vret hx hb hr hlocks hK hI hS dX6_readStall_115 ?_
        refine fP.eqc (congrArg (fun v9 => mdc ct ad Z v9 hs (va_up F 7 rr.2.2)) (show (upd (upd g 11 (nI rr.1)) 12 (ow rr.2.1)) = (upd (upd g 11 (nI rr8.2.1)) 12 (ow rr8.2.2)) from by (rw [hr9]; try simp only [va_up_up])).symm) ?_
        refine fP.eqc (congrArg (fun v9 => mdc ct ad Z (upd (upd g 11 (nI rr8.2.1)) 12 (ow rr8.2.2)) hs v9) (show (va_up F 7 rr.2.2) = (va_up (va_up (va_up (va_up F 7 (upd (F 7) (to + 1) rr1.1)) 7 (upd (upd (F 7) (to + 1) rr1.1) (to + 2) rr2.1)) 7 (upd (upd (upd (F 7) (to + 1) rr1.1) (to + 2) rr2.1) (to + 3) rr6.1)) 7 (upd (upd (upd (upd (F 7) (to + 1) rr1.1) (to + 2) rr2.1) (to + 3) rr6.1) (to + 4) rr8.1)) from by (rw [hr9]; try simp only [va_up_up])).symm) ?_
        exact hP
  · refine lv_iconst (v := nI 1) hx hb dX6_readStall_26 (by decide) ?_
    refine lv_goto (tgt := 31) hx hb dX6_readStall_27 (by decide) ?_
    refine md_cV0 (As := [.int (nI 1)]) (rest := []) hx hb hown htg hK hI hS hP hml hl.1 (m6_wants l D ct ad _ _ _ _ true rr1.2.1 rr1.2.2 tn (by omega) (nuR_w hrr1 (by omega) (by decide) hpi)) cw_X6_141 rfl rfl ⟨Nat.le_of_ble_eq_true rfl, Nat.le_of_ble_eq_true rfl⟩ (Nat.le_of_ble_eq_true rfl) dX6_readStall_31 ⟨Nat.le_refl _, Nat.le_refl _⟩ (fun H locs hP hS => ?_)
    refine lv_aload_n hx hb dX6_readStall_34 rfl (lv_at hl 0 rfl) ?_
    refine md_g9 hx hb hown htg hK hP dX6_readStall_35 ?_
    refine lv_iload_n hx hb dX6_readStall_38 rfl (lv_at hl 1 rfl) ?_
    refine lv_iconst (v := nI 2) hx hb dX6_readStall_39 (by decide) ?_
    refine lv_iaddN hx hb dX6_readStall_40 ?_
    refine lv_aload_n hx hb dX6_readStall_41 rfl (lv_at hl 0 rfl) ?_
    refine lv_iconst (v := nI 0) hx hb dX6_readStall_42 (by decide) ?_
    refine lv_bipush (v := nI 23) hx hb dX6_readStall_43 (by decide) ?_
    obtain ⟨rr9, hrr9⟩ : ∃ z9, nuR ((F 6)) tn (wnP rr1.2.1 rr1.2.2) (wnW rr1.2.1 rr1.2.2 true) (nI 0) (nI 23) = z9 := ⟨_, rfl⟩
    refine md_cVr (As := [.int (nI 0), .int (nI 23)]) (rest := [.int (nI (to + 2)), .ref (ad 7)]) hx hb hown htg hK hI hS hP hml hl.1 (m6_number l D ct ad _ _ _ _ (nI 0) (nI 23) (wnP rr1.2.1 rr1.2.2) (wnW rr1.2.1 rr1.2.2 true) tn rr9 hrr9 ht (by omega) (wn_pI htn (nuR_w hrr1 (by omega) (by decide) hpi) (fun _ _ => ltr_lt (by decide) c23)) (by decide)) cw_X6_145 rfl rfl ⟨Nat.le_of_ble_eq_true rfl, Nat.le_of_ble_eq_true rfl⟩ (Nat.le_of_ble_eq_true rfl) dX6_readStall_45 ⟨Nat.le_refl _, Nat.le_refl _⟩ (fun H locs hP hS => ?_)
    refine md_s7 hx hb hK hI hS hP (by omega) dX6_readStall_48 (fun H locs hP hS => ?_)
    refine lv_aload_n hx hb dX6_readStall_49 rfl (lv_at hl 0 rfl) ?_
    refine lv_aload_n hx hb dX6_readStall_50 rfl (lv_at hl 0 rfl) ?_
    refine md_cVr (As := []) (rest := [.ref (ad 0)]) hx hb hown htg hK hI hS hP hml hl.1 (m6_letter l D ct ad _ _ _ _ rr9.2.1 rr9.2.2 tn ht (by omega) (nuR_w hrr9 (by omega) (by decide) (wn_pI htn (nuR_w hrr1 (by omega) (by decide) hpi) (fun _ _ => ltr_lt (by decide) c23)))) cw_X6_138 rfl rfl ⟨Nat.le_of_ble_eq_true rfl, Nat.le_of_ble_eq_true rfl⟩ (Nat.le_of_ble_eq_true rfl) dX6_readStall_51 ⟨Nat.le_refl _, Nat.le_refl _⟩ (fun H locs hP hS => ?_)
    refine lv_teq (y := ltr ((F 6)) tn rr9.2.1) rfl ?_
    refine lv_bipush (v := nI 45) hx hb dX6_readStall_54 (by decide) ?_
    refine lv_icmp_ne (tgt := 63) hx hb dX6_readStall_56 (by decide) (fun c56 => ?_) (fun c56 => ?_)
    · refine lv_iconst (v := nI 0) hx hb dX6_readStall_63 (by decide) ?_
      refine md_cV0 (As := [.int (nI 0)]) (rest := []) hx hb hown htg hK hI hS hP hml hl.1 (m6_wants l D ct ad _ _ _ _ false rr9.2.1 rr9.2.2 tn (by omega) (nuR_w hrr9 (by omega) (by decide) (wn_pI htn (nuR_w hrr1 (by omega) (by decide) hpi) (fun _ _ => ltr_lt (by decide) c23)))) cw_X6_141 rfl rfl ⟨Nat.le_of_ble_eq_true rfl, Nat.le_of_ble_eq_true rfl⟩ (Nat.le_of_ble_eq_true rfl) dX6_readStall_64 ⟨Nat.le_refl _, Nat.le_refl _⟩ (fun H locs hP hS => ?_)
      refine lv_aload_n hx hb dX6_readStall_67 rfl (lv_at hl 0 rfl) ?_
      refine md_g9 hx hb hown htg hK hP dX6_readStall_68 ?_
      refine lv_iload_n hx hb dX6_readStall_71 rfl (lv_at hl 1 rfl) ?_
      refine lv_iconst (v := nI 3) hx hb dX6_readStall_72 (by decide) ?_
      refine lv_iaddN hx hb dX6_readStall_73 ?_
      refine lv_aload_n hx hb dX6_readStall_74 rfl (lv_at hl 0 rfl) ?_
      refine lv_iconst (v := nI 0) hx hb dX6_readStall_75 (by decide) ?_
      refine lv_bipush (v := nI 23) hx hb dX6_readStall_76 (by decide) ?_
      obtain ⟨rr10, hrr10⟩ : ∃ z9, nuR ((F 6)) tn (wnP rr9.2.1 rr9.2.2) (wnW rr9.2.1 rr9.2.2 false) (nI 0) (nI 23) = z9 := ⟨_, rfl⟩
      refine md_cVr (As := [.int (nI 0), .int (nI 23)]) (rest := [.int (nI (to + 3)), .ref (ad 7)]) hx hb hown htg hK hI hS hP hml hl.1 (m6_number l D ct ad _ _ _ _ (nI 0) (nI 23) (wnP rr9.2.1 rr9.2.2) (wnW rr9.2.1 rr9.2.2 false) tn rr10 hrr10 ht (by omega) (wn_pI htn (nuR_w hrr9 (by omega) (by decide) (wn_pI htn (nuR_w hrr1 (by omega) (by decide) hpi) (fun _ _ => ltr_lt (by decide) c23))) (fun q _ => absurd q Bool.false_ne_true)) (by decide)) cw_X6_145 rfl rfl ⟨Nat.le_of_ble_eq_true rfl, Nat.le_of_ble_eq_true rfl⟩ (Nat.le_of_ble_eq_true rfl) dX6_readStall_78 ⟨Nat.le_refl _, Nat.le_refl _⟩ (fun H locs hP hS => ?_)
      refine md_s7 hx hb hK hI hS hP (by omega) dX6_readStall_81 (fun H locs hP hS => ?_)
      refine lv_aload_n hx hb dX6_readStall_82 rfl (lv_at hl 0 rfl) ?_
      refine lv_aload_n hx hb dX6_readStall_83 rfl (lv_at hl 0 rfl) ?_
      refine md_cVr (As := []) (rest := [.ref (ad 0)]) hx hb hown htg hK hI hS hP hml hl.1 (m6_letter l D ct ad _ _ _ _ rr10.2.1 rr10.2.2 tn ht (by omega) (nuR_w hrr10 (by omega) (by decide) (wn_pI htn (nuR_w hrr9 (by omega) (by decide) (wn_pI htn (nuR_w hrr1 (by omega) (by decide) hpi) (fun _ _ => ltr_lt (by decide) c23))) (fun q _ => absurd q Bool.false_ne_true)))) cw_X6_138 rfl rfl ⟨Nat.le_of_ble_eq_true rfl, Nat.le_of_ble_eq_true rfl⟩ (Nat.le_of_ble_eq_true rfl) dX6_readStall_84 ⟨Nat.le_refl _, Nat.le_refl _⟩ (fun H locs hP hS => ?_)
      refine lv_teq (y := ltr ((F 6)) tn rr10.2.1) rfl ?_
      refine lv_bipush (v := nI 42) hx hb dX6_readStall_87 (by decide) ?_
      refine lv_icmp_ne (tgt := 96) hx hb dX6_readStall_89 (by decide) (fun c89 => ?_) (fun c89 => ?_)
      · refine lv_iconst (v := nI 0) hx hb dX6_readStall_96 (by decide) ?_
        refine md_cV0 (As := [.int (nI 0)]) (rest := []) hx hb hown htg hK hI hS hP hml hl.1 (m6_wants l D ct ad _ _ _ _ false rr10.2.1 rr10.2.2 tn (by omega) (nuR_w hrr10 (by omega) (by decide) (wn_pI htn (nuR_w hrr9 (by omega) (by decide) (wn_pI htn (nuR_w hrr1 (by omega) (by decide) hpi) (fun _ _ => ltr_lt (by decide) c23))) (fun q _ => absurd q Bool.false_ne_true)))) cw_X6_141 rfl rfl ⟨Nat.le_of_ble_eq_true rfl, Nat.le_of_ble_eq_true rfl⟩ (Nat.le_of_ble_eq_true rfl) dX6_readStall_97 ⟨Nat.le_refl _, Nat.le_refl _⟩ (fun H locs hP hS => ?_)
        refine lv_aload_n hx hb dX6_readStall_100 rfl (lv_at hl 0 rfl) ?_
        refine md_g9 hx hb hown htg hK hP dX6_readStall_101 ?_
        refine lv_iload_n hx hb dX6_readStall_104 rfl (lv_at hl 1 rfl) ?_
        refine lv_iconst (v := nI 4) hx hb dX6_readStall_105 (by decide) ?_
        refine lv_iaddN hx hb dX6_readStall_106 ?_
        refine lv_aload_n hx hb dX6_readStall_107 rfl (lv_at hl 0 rfl) ?_
        refine lv_iconst (v := nI 1) hx hb dX6_readStall_108 (by decide) ?_
        refine lv_bipush (v := nI 9) hx hb dX6_readStall_109 (by decide) ?_
        obtain ⟨rr11, hrr11⟩ : ∃ z9, nuR ((F 6)) tn (wnP rr10.2.1 rr10.2.2) (wnW rr10.2.1 rr10.2.2 false) (nI 1) (nI 9) = z9 := ⟨_, rfl⟩
        refine md_cVr (As := [.int (nI 1), .int (nI 9)]) (rest := [.int (nI (to + 4)), .ref (ad 7)]) hx hb hown htg hK hI hS hP hml hl.1 (m6_number l D ct ad _ _ _ _ (nI 1) (nI 9) (wnP rr10.2.1 rr10.2.2) (wnW rr10.2.1 rr10.2.2 false) tn rr11 hrr11 ht (by omega) (wn_pI htn (nuR_w hrr10 (by omega) (by decide) (wn_pI htn (nuR_w hrr9 (by omega) (by decide) (wn_pI htn (nuR_w hrr1 (by omega) (by decide) hpi) (fun _ _ => ltr_lt (by decide) c23))) (fun q _ => absurd q Bool.false_ne_true))) (fun q _ => absurd q Bool.false_ne_true)) (by decide)) cw_X6_145 rfl rfl ⟨Nat.le_of_ble_eq_true rfl, Nat.le_of_ble_eq_true rfl⟩ (Nat.le_of_ble_eq_true rfl) dX6_readStall_111 ⟨Nat.le_refl _, Nat.le_refl _⟩ (fun H locs hP hS => ?_)
        refine md_s7 hx hb hK hI hS hP (by omega) dX6_readStall_114 (fun H locs hP hS => ?_)
        have hr9 : rr = (rr11.2.1, rr11.2.2, upd (upd (upd (upd (F 7) (to + 1) rr1.1) (to + 2) rr9.1) (to + 3) rr10.1) (to + 4) rr11.1) := by rw [← hrr]; simp only [rsR, rs3, rs2, rs1, nsR, nfR, hrr1, c23, hrr9, c56, hrr10, c89, hrr11, decide_true, decide_false, eq_self]
        refine fr_vret hx hb hr hlocks hK hI hS dX6_readStall_115 ?_
        refine fP.eqc (congrArg (fun v9 => mdc ct ad Z v9 hs (va_up F 7 rr.2.2)) (show (upd (upd g 11 (nI rr.1)) 12 (ow rr.2.1)) = (upd (upd g 11 (nI rr11.2.1)) 12 (ow rr11.2.2)) from by (rw [hr9]; try simp only [va_up_up])).symm) ?_
        refine fP.eqc (congrArg (fun v9 => mdc ct ad Z (upd (upd g 11 (nI rr11.2.1)) 12 (ow rr11.2.2)) hs v9) (show (va_up F 7 rr.2.2) = (va_up (va_up (va_up (va_up F 7 (upd (F 7) (to + 1) rr1.1)) 7 (upd (upd (F 7) (to + 1) rr1.1) (to + 2) rr9.1)) 7 (upd (upd (upd (F 7) (to + 1) rr1.1) (to + 2) rr9.1) (to + 3) rr10.1)) 7 (upd (upd (upd (upd (F 7) (to + 1) rr1.1) (to + 2) rr9.1) (to + 3) rr10.1) (to + 4) rr11.1)) from by (rw [hr9]; try simp only [va_up_up])).symm) ?_
        exact hP
      · refine lv_iconst (v := nI 1) hx hb dX6_readStall_92 (by decide) ?_
        refine lv_goto (tgt := 97) hx hb dX6_readStall_93 (by decide) ?_
        refine md_cV0 (As := [.int (nI 1)]) (rest := []) hx hb hown htg hK hI hS hP hml hl.1 (m6_wants l D ct ad _ _ _ _ true rr10.2.1 rr10.2.2 tn (by omega) (nuR_w hrr10 (by omega) (by decide) (wn_pI htn (nuR_w hrr9 (by omega) (by decide) (wn_pI htn (nuR_w hrr1 (by omega) (by decide) hpi) (fun _ _ => ltr_lt (by decide) c23))) (fun q _ => absurd q Bool.false_ne_true)))) cw_X6_141 rfl rfl ⟨Nat.le_of_ble_eq_true rfl, Nat.le_of_ble_eq_true rfl⟩ (Nat.le_of_ble_eq_true rfl) dX6_readStall_97 ⟨Nat.le_refl _, Nat.le_refl _⟩ (fun H locs hP hS => ?_)
        refine lv_aload_n hx hb dX6_readStall_100 rfl (lv_at hl 0 rfl) ?_
        refine md_g9 hx hb hown htg hK hP dX6_readStall_101 ?_
        refine lv_iload_n hx hb dX6_readStall_104 rfl (lv_at hl 1 rfl) ?_
        refine lv_iconst (v := nI 4) hx hb dX6_readStall_105 (by decide) ?_
        refine lv_iaddN hx hb dX6_readStall_106 ?_
        refine lv_aload_n hx hb dX6_readStall_107 rfl (lv_at hl 0 rfl) ?_
        refine lv_iconst (v := nI 1) hx hb dX6_readStall_108 (by decide) ?_
        refine lv_bipush (v := nI 9) hx hb dX6_readStall_109 (by decide) ?_
        obtain ⟨rr12, hrr12⟩ : ∃ z9, nuR ((F 6)) tn (wnP rr10.2.1 rr10.2.2) (wnW rr10.2.1 rr10.2.2 true) (nI 1) (nI 9) = z9 := ⟨_, rfl⟩
        refine md_cVr (As := [.int (nI 1), .int (nI 9)]) (rest := [.int (nI (to + 4)), .ref (ad 7)]) hx hb hown htg hK hI hS hP hml hl.1 (m6_number l D ct ad _ _ _ _ (nI 1) (nI 9) (wnP rr10.2.1 rr10.2.2) (wnW rr10.2.1 rr10.2.2 true) tn rr12 hrr12 ht (by omega) (wn_pI htn (nuR_w hrr10 (by omega) (by decide) (wn_pI htn (nuR_w hrr9 (by omega) (by decide) (wn_pI htn (nuR_w hrr1 (by omega) (by decide) hpi) (fun _ _ => ltr_lt (by decide) c23))) (fun q _ => absurd q Bool.false_ne_true))) (fun _ _ => ltr_lt (by decide) c89)) (by decide)) cw_X6_145 rfl rfl ⟨Nat.le_of_ble_eq_true rfl, Nat.le_of_ble_eq_true rfl⟩ (Nat.le_of_ble_eq_true rfl) dX6_readStall_111 ⟨Nat.le_refl _, Nat.le_refl _⟩ (fun H locs hP hS => ?_)
        refine md_s7 hx hb hK hI hS hP (by omega) dX6_readStall_114 (fun H locs hP hS => ?_)
        have hr9 : rr = (rr12.2.1, rr12.2.2, upd (upd (upd (upd (F 7) (to + 1) rr1.1) (to + 2) rr9.1) (to + 3) rr10.1) (to + 4) rr12.1) := by rw [← hrr]; simp only [rsR, rs3, rs2, rs1, nsR, nfR, hrr1, c23, hrr9, c56, hrr10, c89, hrr12, decide_true, decide_false, eq_self]
        refine fr_vret hx hb hr hlocks hK hI hS dX6_readStall_115 ?_
        refine fP.eqc (congrArg (fun v9 => mdc ct ad Z v9 hs (va_up F 7 rr.2.2)) (show (upd (upd g 11 (nI rr.1)) 12 (ow rr.2.1)) = (upd (upd g 11 (nI rr12.2.1)) 12 (ow rr12.2.2)) from by (rw [hr9]; try simp only [va_up_up])).symm) ?_
        refine fP.eqc (congrArg (fun v9 => mdc ct ad Z (upd (upd g 11 (nI rr12.2.1)) 12 (ow rr12.2.2)) hs v9) (show (va_up F 7 rr.2.2) = (va_up (va_up (va_up (va_up F 7 (upd (F 7) (to + 1) rr1.1)) 7 (upd (upd (F 7) (to + 1) rr1.1) (to + 2) rr9.1)) 7 (upd (upd (upd (F 7) (to + 1) rr1.1) (to + 2) rr9.1) (to + 3) rr10.1)) 7 (upd (upd (upd (upd (F 7) (to + 1) rr1.1) (to + 2) rr9.1) (to + 3) rr10.1) (to + 4) rr12.1)) from by (rw [hr9]; try simp only [va_up_up])).symm) ?_
        exact hP
    · refine lv_iconst (v := nI 1) hx hb dX6_readStall_59 (by decide) ?_
      refine lv_goto (tgt := 64) hx hb dX6_readStall_60 (by decide) ?_
      refine md_cV0 (As := [.int (nI 1)]) (rest := []) hx hb hown htg hK hI hS hP hml hl.1 (m6_wants l D ct ad _ _ _ _ true rr9.2.1 rr9.2.2 tn (by omega) (nuR_w hrr9 (by omega) (by decide) (wn_pI htn (nuR_w hrr1 (by omega) (by decide) hpi) (fun _ _ => ltr_lt (by decide) c23)))) cw_X6_141 rfl rfl ⟨Nat.le_of_ble_eq_true rfl, Nat.le_of_ble_eq_true rfl⟩ (Nat.le_of_ble_eq_true rfl) dX6_readStall_64 ⟨Nat.le_refl _, Nat.le_refl _⟩ (fun H locs hP hS => ?_)
      refine lv_aload_n hx hb dX6_readStall_67 rfl (lv_at hl 0 rfl) ?_
      refine md_g9 hx hb hown htg hK hP dX6_readStall_68 ?_
      refine lv_iload_n hx hb dX6_readStall_71 rfl (lv_at hl 1 rfl) ?_
      refine lv_iconst (v := nI 3) hx hb dX6_readStall_72 (by decide) ?_
      refine lv_iaddN hx hb dX6_readStall_73 ?_
      refine lv_aload_n hx hb dX6_readStall_74 rfl (lv_at hl 0 rfl) ?_
      refine lv_iconst (v := nI 0) hx hb dX6_readStall_75 (by decide) ?_
      refine lv_bipush (v := nI 23) hx hb dX6_readStall_76 (by decide) ?_
      obtain ⟨rr13, hrr13⟩ : ∃ z9, nuR ((F 6)) tn (wnP rr9.2.1 rr9.2.2) (wnW rr9.2.1 rr9.2.2 true) (nI 0) (nI 23) = z9 := ⟨_, rfl⟩
      refine md_cVr (As := [.int (nI 0), .int (nI 23)]) (rest := [.int (nI (to + 3)), .ref (ad 7)]) hx hb hown htg hK hI hS hP hml hl.1 (m6_number l D ct ad _ _ _ _ (nI 0) (nI 23) (wnP rr9.2.1 rr9.2.2) (wnW rr9.2.1 rr9.2.2 true) tn rr13 hrr13 ht (by omega) (wn_pI htn (nuR_w hrr9 (by omega) (by decide) (wn_pI htn (nuR_w hrr1 (by omega) (by decide) hpi) (fun _ _ => ltr_lt (by decide) c23))) (fun _ _ => ltr_lt (by decide) c56)) (by decide)) cw_X6_145 rfl rfl ⟨Nat.le_of_ble_eq_true rfl, Nat.le_of_ble_eq_true rfl⟩ (Nat.le_of_ble_eq_true rfl) dX6_readStall_78 ⟨Nat.le_refl _, Nat.le_refl _⟩ (fun H locs hP hS => ?_)
      refine md_s7 hx hb hK hI hS hP (by omega) dX6_readStall_81 (fun H locs hP hS => ?_)
      refine lv_aload_n hx hb dX6_readStall_82 rfl (lv_at hl 0 rfl) ?_
      refine lv_aload_n hx hb dX6_readStall_83 rfl (lv_at hl 0 rfl) ?_
      refine md_cVr (As := []) (rest := [.ref (ad 0)]) hx hb hown htg hK hI hS hP hml hl.1 (m6_letter l D ct ad _ _ _ _ rr13.2.1 rr13.2.2 tn ht (by omega) (nuR_w hrr13 (by omega) (by decide) (wn_pI htn (nuR_w hrr9 (by omega) (by decide) (wn_pI htn (nuR_w hrr1 (by omega) (by decide) hpi) (fun _ _ => ltr_lt (by decide) c23))) (fun _ _ => ltr_lt (by decide) c56)))) cw_X6_138 rfl rfl ⟨Nat.le_of_ble_eq_true rfl, Nat.le_of_ble_eq_true rfl⟩ (Nat.le_of_ble_eq_true rfl) dX6_readStall_84 ⟨Nat.le_refl _, Nat.le_refl _⟩ (fun H locs hP hS => ?_)
      refine lv_teq (y := ltr ((F 6)) tn rr13.2.1) rfl ?_
      refine lv_bipush (v := nI 42) hx hb dX6_readStall_87 (by decide) ?_
      refine lv_icmp_ne (tgt := 96) hx hb dX6_readStall_89 (by decide) (fun c89 => ?_) (fun c89 => ?_)
      · refine lv_iconst (v := nI 0) hx hb dX6_readStall_96 (by decide) ?_
        refine md_cV0 (As := [.int (nI 0)]) (rest := []) hx hb hown htg hK hI hS hP hml hl.1 (m6_wants l D ct ad _ _ _ _ false rr13.2.1 rr13.2.2 tn (by omega) (nuR_w hrr13 (by omega) (by decide) (wn_pI htn (nuR_w hrr9 (by omega) (by decide) (wn_pI htn (nuR_w hrr1 (by omega) (by decide) hpi) (fun _ _ => ltr_lt (by decide) c23))) (fun _ _ => ltr_lt (by decide) c56)))) cw_X6_141 rfl rfl ⟨Nat.le_of_ble_eq_true rfl, Nat.le_of_ble_eq_true rfl⟩ (Nat.le_of_ble_eq_true rfl) dX6_readStall_97 ⟨Nat.le_refl _, Nat.le_refl _⟩ (fun H locs hP hS => ?_)
        refine lv_aload_n hx hb dX6_readStall_100 rfl (lv_at hl 0 rfl) ?_
        refine md_g9 hx hb hown htg hK hP dX6_readStall_101 ?_
        refine lv_iload_n hx hb dX6_readStall_104 rfl (lv_at hl 1 rfl) ?_
        refine lv_iconst (v := nI 4) hx hb dX6_readStall_105 (by decide) ?_
        refine lv_iaddN hx hb dX6_readStall_106 ?_
        refine lv_aload_n hx hb dX6_readStall_107 rfl (lv_at hl 0 rfl) ?_
        refine lv_iconst (v := nI 1) hx hb dX6_readStall_108 (by decide) ?_
        refine lv_bipush (v := nI 9) hx hb dX6_readStall_109 (by decide) ?_
        obtain ⟨rr14, hrr14⟩ : ∃ z9, nuR ((F 6)) tn (wnP rr13.2.1 rr13.2.2) (wnW rr13.2.1 rr13.2.2 false) (nI 1) (nI 9) = z9 := ⟨_, rfl⟩
        refine md_cVr (As := [.int (nI 1), .int (nI 9)]) (rest := [.int (nI (to + 4)), .ref (ad 7)]) hx hb hown htg hK hI hS hP hml hl.1 (m6_number l D ct ad _ _ _ _ (nI 1) (nI 9) (wnP rr13.2.1 rr13.2.2) (wnW rr13.2.1 rr13.2.2 false) tn rr14 hrr14 ht (by omega) (wn_pI htn (nuR_w hrr13 (by omega) (by decide) (wn_pI htn (nuR_w hrr9 (by omega) (by decide) (wn_pI htn (nuR_w hrr1 (by omega) (by decide) hpi) (fun _ _ => ltr_lt (by decide) c23))) (fun _ _ => ltr_lt (by decide) c56))) (fun q _ => absurd q Bool.false_ne_true)) (by decide)) cw_X6_145 rfl rfl ⟨Nat.le_of_ble_eq_true rfl, Nat.le_of_ble_eq_true rfl⟩ (Nat.le_of_ble_eq_true rfl) dX6_readStall_111 ⟨Nat.le_refl _, Nat.le_refl _⟩ (fun H locs hP hS => ?_)
        refine md_s7 hx hb hK hI hS hP (by omega) dX6_readStall_114 (fun H locs hP hS => ?_)
        have hr9 : rr = (rr14.2.1, rr14.2.2, upd (upd (upd (upd (F 7) (to + 1) rr1.1) (to + 2) rr9.1) (to + 3) rr13.1) (to + 4) rr14.1) := by rw [← hrr]; simp only [rsR, rs3, rs2, rs1, nsR, nfR, hrr1, c23, hrr9, c56, hrr13, c89, hrr14, decide_true, decide_false, eq_self]
        refine fr_vret hx hb hr hlocks hK hI hS dX6_readStall_115 ?_
        refine fP.eqc (congrArg (fun v9 => mdc ct ad Z v9 hs (va_up F 7 rr.2.2)) (show (upd (upd g 11 (nI rr.1)) 12 (ow rr.2.1)) = (upd (upd g 11 (nI rr14.2.1)) 12 (ow rr14.2.2)) from by (rw [hr9]; try simp only [va_up_up])).symm) ?_
        refine fP.eqc (congrArg (fun v9 => mdc ct ad Z (upd (upd g 11 (nI rr14.2.1)) 12 (ow rr14.2.2)) hs v9) (show (va_up F 7 rr.2.2) = (va_up (va_up (va_up (va_up F 7 (upd (F 7) (to + 1) rr1.1)) 7 (upd (upd (F 7) (to + 1) rr1.1) (to + 2) rr9.1)) 7 (upd (upd (upd (F 7) (to + 1) rr1.1) (to + 2) rr9.1) (to + 3) rr13.1)) 7 (upd (upd (upd (upd (F 7) (to + 1) rr1.1) (to + 2) rr9.1) (to + 3) rr13.1) (to + 4) rr14.1)) from by (rw [hr9]; try simp only [va_up_up])).symm) ?_
        exact hP
      · refine lv_iconst (v := nI 1) hx hb dX6_readStall_92 (by decide) ?_
        refine lv_goto (tgt := 97) hx hb dX6_readStall_93 (by decide) ?_
        refine md_cV0 (As := [.int (nI 1)]) (rest := []) hx hb hown htg hK hI hS hP hml hl.1 (m6_wants l D ct ad _ _ _ _ true rr13.2.1 rr13.2.2 tn (by omega) (nuR_w hrr13 (by omega) (by decide) (wn_pI htn (nuR_w hrr9 (by omega) (by decide) (wn_pI htn (nuR_w hrr1 (by omega) (by decide) hpi) (fun _ _ => ltr_lt (by decide) c23))) (fun _ _ => ltr_lt (by decide) c56)))) cw_X6_141 rfl rfl ⟨Nat.le_of_ble_eq_true rfl, Nat.le_of_ble_eq_true rfl⟩ (Nat.le_of_ble_eq_true rfl) dX6_readStall_97 ⟨Nat.le_refl _, Nat.le_refl _⟩ (fun H locs hP hS => ?_)
        refine lv_aload_n hx hb dX6_readStall_100 rfl (lv_at hl 0 rfl) ?_
        refine md_g9 hx hb hown htg hK hP dX6_readStall_101 ?_
        refine lv_iload_n hx hb dX6_readStall_104 rfl (lv_at hl 1 rfl) ?_
        refine lv_iconst (v := nI 4) hx hb dX6_readStall_105 (by decide) ?_
        refine lv_iaddN hx hb dX6_readStall_106 ?_
        refine lv_aload_n hx hb dX6_readStall_107 rfl (lv_at hl 0 rfl) ?_
        refine lv_iconst (v := nI 1) hx hb dX6_readStall_108 (by decide) ?_
        refine lv_bipush (v := nI 9) hx hb dX6_readStall_109 (by decide) ?_
        obtain ⟨rr15, hrr15⟩ : ∃ z9, nuR ((F 6)) tn (wnP rr13.2.1 rr13.2.2) (wnW rr13.2.1 rr13.2.2 true) (nI 1) (nI 9) = z9 := ⟨_, rfl⟩
        refine md_cVr (As := [.int (nI 1), .int (nI 9)]) (rest := [.int (nI (to + 4)), .ref (ad 7)]) hx hb hown htg hK hI hS hP hml hl.1 (m6_number l D ct ad _ _ _ _ (nI 1) (nI 9) (wnP rr13.2.1 rr13.2.2) (wnW rr13.2.1 rr13.2.2 true) tn rr15 hrr15 ht (by omega) (wn_pI htn (nuR_w hrr13 (by omega) (by decide) (wn_pI htn (nuR_w hrr9 (by omega) (by decide) (wn_pI htn (nuR_w hrr1 (by omega) (by decide) hpi) (fun _ _ => ltr_lt (by decide) c23))) (fun _ _ => ltr_lt (by decide) c56))) (fun _ _ => ltr_lt (by decide) c89)) (by decide)) cw_X6_145 rfl rfl ⟨Nat.le_of_ble_eq_true rfl, Nat.le_of_ble_eq_true rfl⟩ (Nat.le_of_ble_eq_true rfl) dX6_readStall_111 ⟨Nat.le_refl _, Nat.le_refl _⟩ (fun H locs hP hS => ?_)
        refine md_s7 hx hb hK hI hS hP (by omega) dX6_readStall_114 (fun H locs hP hS => ?_)
        have hr9 : rr = (rr15.2.1, rr15.2.2, upd (upd (upd (upd (F 7) (to + 1) rr1.1) (to + 2) rr9.1) (to + 3) rr13.1) (to + 4) rr15.1) := by rw [← hrr]; simp only [rsR, rs3, rs2, rs1, nsR, nfR, hrr1, c23, hrr9, c56, hrr13, c89, hrr15, decide_true, decide_false, eq_self]
        refine fr_vret hx hb hr hlocks hK hI hS dX6_readStall_115 ?_
        refine fP.eqc (congrArg (fun v9 => mdc ct ad Z v9 hs (va_up F 7 rr.2.2)) (show (upd (upd g 11 (nI rr.1)) 12 (ow rr.2.1)) = (upd (upd g 11 (nI rr15.2.1)) 12 (ow rr15.2.2)) from by (rw [hr9]; try simp only [va_up_up])).symm) ?_
        refine fP.eqc (congrArg (fun v9 => mdc ct ad Z (upd (upd g 11 (nI rr15.2.1)) 12 (ow rr15.2.2)) hs v9) (show (va_up F 7 rr.2.2) = (va_up (va_up (va_up (va_up F 7 (upd (F 7) (to + 1) rr1.1)) 7 (upd (upd (F 7) (to + 1) rr1.1) (to + 2) rr9.1)) 7 (upd (upd (upd (F 7) (to + 1) rr1.1) (to + 2) rr9.1) (to + 3) rr13.1)) 7 (upd (upd (upd (upd (F 7) (to + 1) rr1.1) (to + 2) rr9.1) (to + 3) rr13.1) (to + 4) rr15.1)) from by (rw [hr9]; try simp only [va_up_up])).symm) ?_
        exact hP
set_option maxRecDepth 100000 in
set_option maxHeartbeats 4000000 in
theorem m6_readOrder (l : Launch) (D : va_G) (ct : Nat → ClassId) (ad : Nat → Nat) (Z g : Nat → Int32) (hs : Int64) (F : Nat → Nat → Int32)  (pp : Nat) (ww : Nat) (tn : Nat) (o : Nat) (rr : Nat × Nat × (Nat → Int32)) (hrr : roR (F 6) tn pp ww (F 7) o = rr) (ht : g 8 = nI tn) (htn : tn ≤ 60) (hpi : pI tn pp ww) (ho : g 10 = nI o) (ho20 : o ≤ 20) : FMet l yX6_readOrder cX6_readOrder 3 (none : Option Jvm.ClassFile.FieldType) 3 67 D ct 8 ad [.ref (ad 0)] (mdc ct ad Z (upd (upd g 11 (nI pp)) 12 (ow ww)) hs F) none (mdc ct ad Z (upd (upd (upd g 10 (nI (o + 1))) 11 (nI rr.1)) 12 (ow rr.2.1)) hs (va_up F 7 rr.2.2)) := by
  refine FMet.of (by decide +kernel) (Nat.le_of_ble_eq_true rfl) ?_
  intro p e s m args below meth c ls hx hb hr hml hown hlocks htg hK hI hP hS hl
  have hl : lv_has ls 3 [(0, .ref (ad 0))] := hl
  have hp1 := hpi.1
  have hp3 := hpi.2.2
  refine lv_iconst (v := nI 5) hx hb dX6_readOrder_0 (by decide) ?_
  refine lv_aload_n hx hb dX6_readOrder_1 rfl (lv_at hl 0 rfl) ?_
  refine md_g10 (v := g 10) hx hb hown htg hK hP rfl dX6_readOrder_2 ?_
  refine lv_teq ho ?_
  refine lv_imulN hx hb dX6_readOrder_5 ?_
  refine lv_istore_n (lv' := [(1, .int (nI (5 * o))), (0, .ref (ad 0))]) hx hb dX6_readOrder_6 rfl hl (by decide) rfl (fun ls hl => ?_)
  refine lv_aload_n hx hb dX6_readOrder_7 rfl (lv_at hl 1 rfl) ?_
  refine md_cVr (As := []) (rest := []) hx hb hown htg hK hI hS hP hml hl.1 (m6_letter l D ct ad _ _ _ _ pp ww tn ht (by omega) hpi) cw_X6_138 rfl rfl ⟨Nat.le_of_ble_eq_true rfl, Nat.le_of_ble_eq_true rfl⟩ (Nat.le_of_ble_eq_true rfl) dX6_readOrder_8 ⟨Nat.le_refl _, Nat.le_refl _⟩ (fun H locs hP hS => ?_)
  refine lv_istore_n (lv' := [(2, .int (ltr ((F 6)) tn pp)), (1, .int (nI (5 * o))), (0, .ref (ad 0))]) hx hb dX6_readOrder_11 rfl hl (by decide) rfl (fun ls hl => ?_)
  refine lv_aload_n hx hb dX6_readOrder_12 rfl (lv_at hl 2 rfl) ?_
  refine md_g9 hx hb hown htg hK hP dX6_readOrder_13 ?_
  refine lv_iload_n hx hb dX6_readOrder_16 rfl (lv_at hl 1 rfl) ?_
  refine lv_iload_n hx hb dX6_readOrder_17 rfl (lv_at hl 0 rfl) ?_
  refine md_s7 hx hb hK hI hS hP (by omega) dX6_readOrder_18 (fun H locs hP hS => ?_)
  refine lv_aload_n hx hb dX6_readOrder_19 rfl (lv_at hl 2 rfl) ?_
  refine lv_iload_n hx hb dX6_readOrder_20 rfl (lv_at hl 0 rfl) ?_
  refine lv_bipush (v := nI 115) hx hb dX6_readOrder_21 (by decide) ?_
  refine lv_icmp_eq (tgt := 38) hx hb dX6_readOrder_23 (by decide) (fun c23 => ?_) (fun c23 => ?_)
  · refine lv_iconst (v := nI 1) hx hb dX6_readOrder_38 (by decide) ?_
    refine lv_goto (tgt := 43) hx hb dX6_readOrder_39 (by decide) ?_
    refine md_cV0 (As := [.int (nI 1)]) (rest := []) hx hb hown htg hK hI hS hP hml hl.1 (m6_wants l D ct ad _ _ _ _ true pp ww tn (by omega) hpi) cw_X6_141 rfl rfl ⟨Nat.le_of_ble_eq_true rfl, Nat.le_of_ble_eq_true rfl⟩ (Nat.le_of_ble_eq_true rfl) dX6_readOrder_43 ⟨Nat.le_refl _, Nat.le_refl _⟩ (fun H locs hP hS => ?_)
    refine lv_iload_n hx hb dX6_readOrder_46 rfl (lv_at hl 0 rfl) ?_
    refine lv_bipush (v := nI 115) hx hb dX6_readOrder_47 (by decide) ?_
    refine lv_icmp_ne (tgt := 60) hx hb dX6_readOrder_49 (by decide) (fun h => absurd c23 h) (fun _ => ?_)
    refine lv_aload_n hx hb dX6_readOrder_52 rfl (lv_at hl 2 rfl) ?_
    refine lv_iload_n hx hb dX6_readOrder_53 rfl (lv_at hl 1 rfl) ?_
    obtain ⟨rr1, hrr1⟩ : ∃ z9, rsR ((F 6)) tn (wnP pp ww) (wnW pp ww true) ((upd (F 7) (5 * o) (ltr ((F 6)) tn pp))) (5 * o) = z9 := ⟨_, rfl⟩
    refine md_cV0 (As := [.int (nI (5 * o))]) (rest := []) hx hb hown htg hK hI hS hP hml hl.1 (m6_readStall l D ct ad _ _ _ _ (5 * o) (wnP pp ww) (wnW pp ww true) tn rr1 hrr1 ht (by omega) (wn_pI htn hpi (fun _ _ => ltr_lt (by decide) c23)) (by omega)) cw_X6_151 rfl rfl ⟨Nat.le_of_ble_eq_true rfl, Nat.le_of_ble_eq_true rfl⟩ (Nat.le_of_ble_eq_true rfl) dX6_readOrder_54 ⟨Nat.le_refl _, Nat.le_refl _⟩ (fun H locs hP hS => ?_)
    refine lv_goto (tgt := 132) hx hb dX6_readOrder_57 (by decide) ?_
    refine lv_aload_n hx hb dX6_readOrder_132 rfl (lv_at hl 2 rfl) ?_
    refine lv_dup hx hb dX6_readOrder_133 rfl ?_
    refine md_g10 (v := g 10) hx hb hown htg hK hP rfl dX6_readOrder_134 ?_
    refine lv_teq ho ?_
    refine lv_iconst (v := nI 1) hx hb dX6_readOrder_137 (by decide) ?_
    refine lv_iaddN hx hb dX6_readOrder_138 ?_
    refine md_p10 hx hb hown htg hK hI hS hP dX6_readOrder_139 (fun H locs hP hS => ?_)
    have hr9 : rr = (rr1.1, rr1.2.1, rr1.2.2) := by rw [← hrr, roR_s c23, hrr1]
    refine fr_vret hx hb hr hlocks hK hI hS dX6_readOrder_142 ?_
    refine fP.eqc (congrArg (fun v9 => mdc ct ad Z v9 hs (va_up F 7 rr.2.2)) (show (upd (upd (upd g 10 (nI (o + 1))) 11 (nI rr.1)) 12 (ow rr.2.1)) = (upd (upd (upd g 11 (nI rr1.1)) 12 (ow rr1.2.1)) 10 (nI (o + 1))) from by (rw [hr9]; first | exact (pg5 _ _ _ _).symm | (simp only [va_up_up]; done) | with_reducible rfl)).symm) ?_
    refine fP.eqc (congrArg (fun v9 => mdc ct ad Z (upd (upd (upd g 11 (nI rr1.1)) 12 (ow rr1.2.1)) 10 (nI (o + 1))) hs v9) (show (va_up F 7 rr.2.2) = (va_up (va_up F 7 (upd (F 7) (5 * o) (ltr ((F 6)) tn pp))) 7 rr1.2.2) from by (rw [hr9]; first | exact (pg5 _ _ _ _).symm | (simp only [va_up_up]; done) | with_reducible rfl)).symm) ?_
    exact hP
  · refine lv_iload_n hx hb dX6_readOrder_26 rfl (lv_at hl 0 rfl) ?_
    refine lv_bipush (v := nI 112) hx hb dX6_readOrder_27 (by decide) ?_
    refine lv_icmp_eq (tgt := 38) hx hb dX6_readOrder_29 (by decide) (fun c29 => ?_) (fun c29 => ?_)
    · refine lv_iconst (v := nI 1) hx hb dX6_readOrder_38 (by decide) ?_
      refine lv_goto (tgt := 43) hx hb dX6_readOrder_39 (by decide) ?_
      refine md_cV0 (As := [.int (nI 1)]) (rest := []) hx hb hown htg hK hI hS hP hml hl.1 (m6_wants l D ct ad _ _ _ _ true pp ww tn (by omega) hpi) cw_X6_141 rfl rfl ⟨Nat.le_of_ble_eq_true rfl, Nat.le_of_ble_eq_true rfl⟩ (Nat.le_of_ble_eq_true rfl) dX6_readOrder_43 ⟨Nat.le_refl _, Nat.le_refl _⟩ (fun H locs hP hS => ?_)
      refine lv_iload_n hx hb dX6_readOrder_46 rfl (lv_at hl 0 rfl) ?_
      refine lv_bipush (v := nI 115) hx hb dX6_readOrder_47 (by decide) ?_
      refine lv_icmp_ne (tgt := 60) hx hb dX6_readOrder_49 (by decide) (fun _ => ?_) (fun h => absurd h c23)
      refine lv_iload_n hx hb dX6_readOrder_60 rfl (lv_at hl 0 rfl) ?_
      refine lv_bipush (v := nI 112) hx hb dX6_readOrder_61 (by decide) ?_
      refine lv_icmp_ne (tgt := 117) hx hb dX6_readOrder_63 (by decide) (fun h => absurd c29 h) (fun _ => ?_)
      refine lv_aload_n hx hb dX6_readOrder_66 rfl (lv_at hl 2 rfl) ?_
      refine md_g9 hx hb hown htg hK hP dX6_readOrder_67 ?_
      refine lv_iload_n hx hb dX6_readOrder_70 rfl (lv_at hl 1 rfl) ?_
      refine lv_iconst (v := nI 1) hx hb dX6_readOrder_71 (by decide) ?_
      refine lv_iaddN hx hb dX6_readOrder_72 ?_
      refine lv_aload_n hx hb dX6_readOrder_73 rfl (lv_at hl 2 rfl) ?_
      refine lv_iconst (v := nI 0) hx hb dX6_readOrder_74 (by decide) ?_
      refine lv_bipush (v := nI 9) hx hb dX6_readOrder_75 (by decide) ?_
      obtain ⟨rr2, hrr2⟩ : ∃ z9, nuR ((F 6)) tn (wnP pp ww) (wnW pp ww true) (nI 0) (nI 9) = z9 := ⟨_, rfl⟩
      refine md_cVr (As := [.int (nI 0), .int (nI 9)]) (rest := [.int (nI (5 * o + 1)), .ref (ad 7)]) hx hb hown htg hK hI hS hP hml hl.1 (m6_number l D ct ad _ _ _ _ (nI 0) (nI 9) (wnP pp ww) (wnW pp ww true) tn rr2 hrr2 ht (by omega) (wn_pI htn hpi (fun _ _ => ltr_lt (by decide) c29)) (by decide)) cw_X6_145 rfl rfl ⟨Nat.le_of_ble_eq_true rfl, Nat.le_of_ble_eq_true rfl⟩ (Nat.le_of_ble_eq_true rfl) dX6_readOrder_77 ⟨Nat.le_refl _, Nat.le_refl _⟩ (fun H locs hP hS => ?_)
      refine md_s7 hx hb hK hI hS hP (by omega) dX6_readOrder_80 (fun H locs hP hS => ?_)
      refine lv_aload_n hx hb dX6_readOrder_81 rfl (lv_at hl 2 rfl) ?_
      refine lv_aload_n hx hb dX6_readOrder_82 rfl (lv_at hl 2 rfl) ?_
      refine md_cVr (As := []) (rest := [.ref (ad 0)]) hx hb hown htg hK hI hS hP hml hl.1 (m6_letter l D ct ad _ _ _ _ rr2.2.1 rr2.2.2 tn ht (by omega) (nuR_w hrr2 (by omega) (by decide) (wn_pI htn hpi (fun _ _ => ltr_lt (by decide) c29)))) cw_X6_138 rfl rfl ⟨Nat.le_of_ble_eq_true rfl, Nat.le_of_ble_eq_true rfl⟩ (Nat.le_of_ble_eq_true rfl) dX6_readOrder_83 ⟨Nat.le_refl _, Nat.le_refl _⟩ (fun H locs hP hS => ?_)
      refine lv_teq (y := ltr ((F 6)) tn rr2.2.1) rfl ?_
      refine lv_bipush (v := nI 61) hx hb dX6_readOrder_86 (by decide) ?_
      refine lv_icmp_ne (tgt := 95) hx hb dX6_readOrder_88 (by decide) (fun c88 => ?_) (fun c88 => ?_)
      · refine lv_iconst (v := nI 0) hx hb dX6_readOrder_95 (by decide) ?_
        refine md_cV0 (As := [.int (nI 0)]) (rest := []) hx hb hown htg hK hI hS hP hml hl.1 (m6_wants l D ct ad _ _ _ _ false rr2.2.1 rr2.2.2 tn (by omega) (nuR_w hrr2 (by omega) (by decide) (wn_pI htn hpi (fun _ _ => ltr_lt (by decide) c29)))) cw_X6_141 rfl rfl ⟨Nat.le_of_ble_eq_true rfl, Nat.le_of_ble_eq_true rfl⟩ (Nat.le_of_ble_eq_true rfl) dX6_readOrder_96 ⟨Nat.le_refl _, Nat.le_refl _⟩ (fun H locs hP hS => ?_)
        refine lv_aload_n hx hb dX6_readOrder_99 rfl (lv_at hl 2 rfl) ?_
        refine md_g9 hx hb hown htg hK hP dX6_readOrder_100 ?_
        refine lv_iload_n hx hb dX6_readOrder_103 rfl (lv_at hl 1 rfl) ?_
        refine lv_iconst (v := nI 2) hx hb dX6_readOrder_104 (by decide) ?_
        refine lv_iaddN hx hb dX6_readOrder_105 ?_
        refine lv_aload_n hx hb dX6_readOrder_106 rfl (lv_at hl 2 rfl) ?_
        refine lv_iconst (v := nI 0) hx hb dX6_readOrder_107 (by decide) ?_
        refine lv_bipush (v := nI 11) hx hb dX6_readOrder_108 (by decide) ?_
        obtain ⟨rr3, hrr3⟩ : ∃ z9, nuR ((F 6)) tn (wnP rr2.2.1 rr2.2.2) (wnW rr2.2.1 rr2.2.2 false) (nI 0) (nI 11) = z9 := ⟨_, rfl⟩
        refine md_cVr (As := [.int (nI 0), .int (nI 11)]) (rest := [.int (nI (5 * o + 2)), .ref (ad 7)]) hx hb hown htg hK hI hS hP hml hl.1 (m6_number l D ct ad _ _ _ _ (nI 0) (nI 11) (wnP rr2.2.1 rr2.2.2) (wnW rr2.2.1 rr2.2.2 false) tn rr3 hrr3 ht (by omega) (wn_pI htn (nuR_w hrr2 (by omega) (by decide) (wn_pI htn hpi (fun _ _ => ltr_lt (by decide) c29))) (fun q _ => absurd q Bool.false_ne_true)) (by decide)) cw_X6_145 rfl rfl ⟨Nat.le_of_ble_eq_true rfl, Nat.le_of_ble_eq_true rfl⟩ (Nat.le_of_ble_eq_true rfl) dX6_readOrder_110 ⟨Nat.le_refl _, Nat.le_refl _⟩ (fun H locs hP hS => ?_)
        refine md_s7 hx hb hK hI hS hP (by omega) dX6_readOrder_113 (fun H locs hP hS => ?_)
        refine lv_goto (tgt := 132) hx hb dX6_readOrder_114 (by decide) ?_
        refine lv_aload_n hx hb dX6_readOrder_132 rfl (lv_at hl 2 rfl) ?_
        refine lv_dup hx hb dX6_readOrder_133 rfl ?_
        refine md_g10 (v := g 10) hx hb hown htg hK hP rfl dX6_readOrder_134 ?_
        refine lv_teq ho ?_
        refine lv_iconst (v := nI 1) hx hb dX6_readOrder_137 (by decide) ?_
        refine lv_iaddN hx hb dX6_readOrder_138 ?_
        refine md_p10 hx hb hown htg hK hI hS hP dX6_readOrder_139 (fun H locs hP hS => ?_)
        have hr9 : rr = (rr3.2.1, rr3.2.2, upd (upd (upd (F 7) (5 * o) (ltr ((F 6)) tn pp)) (5 * o + 1) rr2.1) (5 * o + 2) rr3.1) := by rw [← hrr, roR_p c23 c29]; simp only [rqR, rq1, nsR, nfR, hrr2, hrr3, c88, decide_true, decide_false, eq_self]
        refine fr_vret hx hb hr hlocks hK hI hS dX6_readOrder_142 ?_
        refine fP.eqc (congrArg (fun v9 => mdc ct ad Z v9 hs (va_up F 7 rr.2.2)) (show (upd (upd (upd g 10 (nI (o + 1))) 11 (nI rr.1)) 12 (ow rr.2.1)) = (upd (upd (upd g 11 (nI rr3.2.1)) 12 (ow rr3.2.2)) 10 (nI (o + 1))) from by (rw [hr9]; first | exact (pg5 _ _ _ _).symm | (simp only [va_up_up]; done) | with_reducible rfl)).symm) ?_
        refine fP.eqc (congrArg (fun v9 => mdc ct ad Z (upd (upd (upd g 11 (nI rr3.2.1)) 12 (ow rr3.2.2)) 10 (nI (o + 1))) hs v9) (show (va_up F 7 rr.2.2) = (va_up (va_up (va_up F 7 (upd (F 7) (5 * o) (ltr ((F 6)) tn pp))) 7 (upd (upd (F 7) (5 * o) (ltr ((F 6)) tn pp)) (5 * o + 1) rr2.1)) 7 (upd (upd (upd (F 7) (5 * o) (ltr ((F 6)) tn pp)) (5 * o + 1) rr2.1) (5 * o + 2) rr3.1)) from by (rw [hr9]; first | exact (pg5 _ _ _ _).symm | (simp only [va_up_up]; done) | with_reducible rfl)).symm) ?_
        exact hP
      · refine lv_iconst (v := nI 1) hx hb dX6_readOrder_91 (by decide) ?_
        refine lv_goto (tgt := 96) hx hb dX6_readOrder_92 (by decide) ?_
        refine md_cV0 (As := [.int (nI 1)]) (rest := []) hx hb hown htg hK hI hS hP hml hl.1 (m6_wants l D ct ad _ _ _ _ true rr2.2.1 rr2.2.2 tn (by omega) (nuR_w hrr2 (by omega) (by decide) (wn_pI htn hpi (fun _ _ => ltr_lt (by decide) c29)))) cw_X6_141 rfl rfl ⟨Nat.le_of_ble_eq_true rfl, Nat.le_of_ble_eq_true rfl⟩ (Nat.le_of_ble_eq_true rfl) dX6_readOrder_96 ⟨Nat.le_refl _, Nat.le_refl _⟩ (fun H locs hP hS => ?_)
        refine lv_aload_n hx hb dX6_readOrder_99 rfl (lv_at hl 2 rfl) ?_
        refine md_g9 hx hb hown htg hK hP dX6_readOrder_100 ?_
        refine lv_iload_n hx hb dX6_readOrder_103 rfl (lv_at hl 1 rfl) ?_
        refine lv_iconst (v := nI 2) hx hb dX6_readOrder_104 (by decide) ?_
        refine lv_iaddN hx hb dX6_readOrder_105 ?_
        refine lv_aload_n hx hb dX6_readOrder_106 rfl (lv_at hl 2 rfl) ?_
        refine lv_iconst (v := nI 0) hx hb dX6_readOrder_107 (by decide) ?_
        refine lv_bipush (v := nI 11) hx hb dX6_readOrder_108 (by decide) ?_
        obtain ⟨rr4, hrr4⟩ : ∃ z9, nuR ((F 6)) tn (wnP rr2.2.1 rr2.2.2) (wnW rr2.2.1 rr2.2.2 true) (nI 0) (nI 11) = z9 := ⟨_, rfl⟩
        refine md_cVr (As := [.int (nI 0), .int (nI 11)]) (rest := [.int (nI (5 * o + 2)), .ref (ad 7)]) hx hb hown htg hK hI hS hP hml hl.1 (m6_number l D ct ad _ _ _ _ (nI 0) (nI 11) (wnP rr2.2.1 rr2.2.2) (wnW rr2.2.1 rr2.2.2 true) tn rr4 hrr4 ht (by omega) (wn_pI htn (nuR_w hrr2 (by omega) (by decide) (wn_pI htn hpi (fun _ _ => ltr_lt (by decide) c29))) (fun _ _ => ltr_lt (by decide) c88)) (by decide)) cw_X6_145 rfl rfl ⟨Nat.le_of_ble_eq_true rfl, Nat.le_of_ble_eq_true rfl⟩ (Nat.le_of_ble_eq_true rfl) dX6_readOrder_110 ⟨Nat.le_refl _, Nat.le_refl _⟩ (fun H locs hP hS => ?_)
        refine md_s7 hx hb hK hI hS hP (by omega) dX6_readOrder_113 (fun H locs hP hS => ?_)
        refine lv_goto (tgt := 132) hx hb dX6_readOrder_114 (by decide) ?_
        refine lv_aload_n hx hb dX6_readOrder_132 rfl (lv_at hl 2 rfl) ?_
        refine lv_dup hx hb dX6_readOrder_133 rfl ?_
        refine md_g10 (v := g 10) hx hb hown htg hK hP rfl dX6_readOrder_134 ?_
        refine lv_teq ho ?_
        refine lv_iconst (v := nI 1) hx hb dX6_readOrder_137 (by decide) ?_
        refine lv_iaddN hx hb dX6_readOrder_138 ?_
        refine md_p10 hx hb hown htg hK hI hS hP dX6_readOrder_139 (fun H locs hP hS => ?_)
        have hr9 : rr = (rr4.2.1, rr4.2.2, upd (upd (upd (F 7) (5 * o) (ltr ((F 6)) tn pp)) (5 * o + 1) rr2.1) (5 * o + 2) rr4.1) := by rw [← hrr, roR_p c23 c29]; simp only [rqR, rq1, nsR, nfR, hrr2, hrr4, c88, decide_true, decide_false, eq_self]
        refine fr_vret hx hb hr hlocks hK hI hS dX6_readOrder_142 ?_
        refine fP.eqc (congrArg (fun v9 => mdc ct ad Z v9 hs (va_up F 7 rr.2.2)) (show (upd (upd (upd g 10 (nI (o + 1))) 11 (nI rr.1)) 12 (ow rr.2.1)) = (upd (upd (upd g 11 (nI rr4.2.1)) 12 (ow rr4.2.2)) 10 (nI (o + 1))) from by (rw [hr9]; first | exact (pg5 _ _ _ _).symm | (simp only [va_up_up]; done) | with_reducible rfl)).symm) ?_
        refine fP.eqc (congrArg (fun v9 => mdc ct ad Z (upd (upd (upd g 11 (nI rr4.2.1)) 12 (ow rr4.2.2)) 10 (nI (o + 1))) hs v9) (show (va_up F 7 rr.2.2) = (va_up (va_up (va_up F 7 (upd (F 7) (5 * o) (ltr ((F 6)) tn pp))) 7 (upd (upd (F 7) (5 * o) (ltr ((F 6)) tn pp)) (5 * o + 1) rr2.1)) 7 (upd (upd (upd (F 7) (5 * o) (ltr ((F 6)) tn pp)) (5 * o + 1) rr2.1) (5 * o + 2) rr4.1)) from by (rw [hr9]; first | exact (pg5 _ _ _ _).symm | (simp only [va_up_up]; done) | with_reducible rfl)).symm) ?_
        exact hP
    · refine lv_iload_n hx hb dX6_readOrder_32 rfl (lv_at hl 0 rfl) ?_
      refine lv_bipush (v := nI 104) hx hb dX6_readOrder_33 (by decide) ?_
      refine lv_icmp_ne (tgt := 42) hx hb dX6_readOrder_35 (by decide) (fun c35 => ?_) (fun c35 => ?_)
      · refine lv_iconst (v := nI 0) hx hb dX6_readOrder_42 (by decide) ?_
        refine md_cV0 (As := [.int (nI 0)]) (rest := []) hx hb hown htg hK hI hS hP hml hl.1 (m6_wants l D ct ad _ _ _ _ false pp ww tn (by omega) hpi) cw_X6_141 rfl rfl ⟨Nat.le_of_ble_eq_true rfl, Nat.le_of_ble_eq_true rfl⟩ (Nat.le_of_ble_eq_true rfl) dX6_readOrder_43 ⟨Nat.le_refl _, Nat.le_refl _⟩ (fun H locs hP hS => ?_)
        refine lv_iload_n hx hb dX6_readOrder_46 rfl (lv_at hl 0 rfl) ?_
        refine lv_bipush (v := nI 115) hx hb dX6_readOrder_47 (by decide) ?_
        refine lv_icmp_ne (tgt := 60) hx hb dX6_readOrder_49 (by decide) (fun _ => ?_) (fun h => absurd h c23)
        refine lv_iload_n hx hb dX6_readOrder_60 rfl (lv_at hl 0 rfl) ?_
        refine lv_bipush (v := nI 112) hx hb dX6_readOrder_61 (by decide) ?_
        refine lv_icmp_ne (tgt := 117) hx hb dX6_readOrder_63 (by decide) (fun _ => ?_) (fun h => absurd h c29)
        refine lv_aload_n hx hb dX6_readOrder_117 rfl (lv_at hl 2 rfl) ?_
        refine md_g9 hx hb hown htg hK hP dX6_readOrder_118 ?_
        refine lv_iload_n hx hb dX6_readOrder_121 rfl (lv_at hl 1 rfl) ?_
        refine lv_iconst (v := nI 1) hx hb dX6_readOrder_122 (by decide) ?_
        refine lv_iaddN hx hb dX6_readOrder_123 ?_
        refine lv_aload_n hx hb dX6_readOrder_124 rfl (lv_at hl 2 rfl) ?_
        refine lv_iconst (v := nI 1) hx hb dX6_readOrder_125 (by decide) ?_
        refine lv_bipush (v := nI 48) hx hb dX6_readOrder_126 (by decide) ?_
        obtain ⟨rr5, hrr5⟩ : ∃ z9, nuR ((F 6)) tn (wnP pp ww) (wnW pp ww false) (nI 1) (nI 48) = z9 := ⟨_, rfl⟩
        refine md_cVr (As := [.int (nI 1), .int (nI 48)]) (rest := [.int (nI (5 * o + 1)), .ref (ad 7)]) hx hb hown htg hK hI hS hP hml hl.1 (m6_number l D ct ad _ _ _ _ (nI 1) (nI 48) (wnP pp ww) (wnW pp ww false) tn rr5 hrr5 ht (by omega) (wn_pI htn hpi (fun q _ => absurd q Bool.false_ne_true)) (by decide)) cw_X6_145 rfl rfl ⟨Nat.le_of_ble_eq_true rfl, Nat.le_of_ble_eq_true rfl⟩ (Nat.le_of_ble_eq_true rfl) dX6_readOrder_128 ⟨Nat.le_refl _, Nat.le_refl _⟩ (fun H locs hP hS => ?_)
        refine md_s7 hx hb hK hI hS hP (by omega) dX6_readOrder_131 (fun H locs hP hS => ?_)
        refine lv_aload_n hx hb dX6_readOrder_132 rfl (lv_at hl 2 rfl) ?_
        refine lv_dup hx hb dX6_readOrder_133 rfl ?_
        refine md_g10 (v := g 10) hx hb hown htg hK hP rfl dX6_readOrder_134 ?_
        refine lv_teq ho ?_
        refine lv_iconst (v := nI 1) hx hb dX6_readOrder_137 (by decide) ?_
        refine lv_iaddN hx hb dX6_readOrder_138 ?_
        refine md_p10 hx hb hown htg hK hI hS hP dX6_readOrder_139 (fun H locs hP hS => ?_)
        have hr9 : rr = (rr5.2.1, rr5.2.2, upd (upd (F 7) (5 * o) (ltr ((F 6)) tn pp)) (5 * o + 1) rr5.1) := by rw [← hrr, roR_x c23 c29 c35]; simp only [nfR, hrr5]
        refine fr_vret hx hb hr hlocks hK hI hS dX6_readOrder_142 ?_
        refine fP.eqc (congrArg (fun v9 => mdc ct ad Z v9 hs (va_up F 7 rr.2.2)) (show (upd (upd (upd g 10 (nI (o + 1))) 11 (nI rr.1)) 12 (ow rr.2.1)) = (upd (upd (upd g 11 (nI rr5.2.1)) 12 (ow rr5.2.2)) 10 (nI (o + 1))) from by (rw [hr9]; first | exact (pg5 _ _ _ _).symm | (simp only [va_up_up]; done) | with_reducible rfl)).symm) ?_
        refine fP.eqc (congrArg (fun v9 => mdc ct ad Z (upd (upd (upd g 11 (nI rr5.2.1)) 12 (ow rr5.2.2)) 10 (nI (o + 1))) hs v9) (show (va_up F 7 rr.2.2) = (va_up (va_up F 7 (upd (F 7) (5 * o) (ltr ((F 6)) tn pp))) 7 (upd (upd (F 7) (5 * o) (ltr ((F 6)) tn pp)) (5 * o + 1) rr5.1)) from by (rw [hr9]; first | exact (pg5 _ _ _ _).symm | (simp only [va_up_up]; done) | with_reducible rfl)).symm) ?_
        exact hP
      · refine lv_iconst (v := nI 1) hx hb dX6_readOrder_38 (by decide) ?_
        refine lv_goto (tgt := 43) hx hb dX6_readOrder_39 (by decide) ?_
        refine md_cV0 (As := [.int (nI 1)]) (rest := []) hx hb hown htg hK hI hS hP hml hl.1 (m6_wants l D ct ad _ _ _ _ true pp ww tn (by omega) hpi) cw_X6_141 rfl rfl ⟨Nat.le_of_ble_eq_true rfl, Nat.le_of_ble_eq_true rfl⟩ (Nat.le_of_ble_eq_true rfl) dX6_readOrder_43 ⟨Nat.le_refl _, Nat.le_refl _⟩ (fun H locs hP hS => ?_)
        refine lv_iload_n hx hb dX6_readOrder_46 rfl (lv_at hl 0 rfl) ?_
        refine lv_bipush (v := nI 115) hx hb dX6_readOrder_47 (by decide) ?_
        refine lv_icmp_ne (tgt := 60) hx hb dX6_readOrder_49 (by decide) (fun _ => ?_) (fun h => absurd h c23)
        refine lv_iload_n hx hb dX6_readOrder_60 rfl (lv_at hl 0 rfl) ?_
        refine lv_bipush (v := nI 112) hx hb dX6_readOrder_61 (by decide) ?_
        refine lv_icmp_ne (tgt := 117) hx hb dX6_readOrder_63 (by decide) (fun _ => ?_) (fun h => absurd h c29)
        refine lv_aload_n hx hb dX6_readOrder_117 rfl (lv_at hl 2 rfl) ?_
        refine md_g9 hx hb hown htg hK hP dX6_readOrder_118 ?_
        refine lv_iload_n hx hb dX6_readOrder_121 rfl (lv_at hl 1 rfl) ?_
        refine lv_iconst (v := nI 1) hx hb dX6_readOrder_122 (by decide) ?_
        refine lv_iaddN hx hb dX6_readOrder_123 ?_
        refine lv_aload_n hx hb dX6_readOrder_124 rfl (lv_at hl 2 rfl) ?_
        refine lv_iconst (v := nI 1) hx hb dX6_readOrder_125 (by decide) ?_
        refine lv_bipush (v := nI 48) hx hb dX6_readOrder_126 (by decide) ?_
        obtain ⟨rr6, hrr6⟩ : ∃ z9, nuR ((F 6)) tn (wnP pp ww) (wnW pp ww true) (nI 1) (nI 48) = z9 := ⟨_, rfl⟩
        refine md_cVr (As := [.int (nI 1), .int (nI 48)]) (rest := [.int (nI (5 * o + 1)), .ref (ad 7)]) hx hb hown htg hK hI hS hP hml hl.1 (m6_number l D ct ad _ _ _ _ (nI 1) (nI 48) (wnP pp ww) (wnW pp ww true) tn rr6 hrr6 ht (by omega) (wn_pI htn hpi (fun _ _ => ltr_lt (by decide) c35)) (by decide)) cw_X6_145 rfl rfl ⟨Nat.le_of_ble_eq_true rfl, Nat.le_of_ble_eq_true rfl⟩ (Nat.le_of_ble_eq_true rfl) dX6_readOrder_128 ⟨Nat.le_refl _, Nat.le_refl _⟩ (fun H locs hP hS => ?_)
        refine md_s7 hx hb hK hI hS hP (by omega) dX6_readOrder_131 (fun H locs hP hS => ?_)
        refine lv_aload_n hx hb dX6_readOrder_132 rfl (lv_at hl 2 rfl) ?_
        refine lv_dup hx hb dX6_readOrder_133 rfl ?_
        refine md_g10 (v := g 10) hx hb hown htg hK hP rfl dX6_readOrder_134 ?_
        refine lv_teq ho ?_
        refine lv_iconst (v := nI 1) hx hb dX6_readOrder_137 (by decide) ?_
        refine lv_iaddN hx hb dX6_readOrder_138 ?_
        refine md_p10 hx hb hown htg hK hI hS hP dX6_readOrder_139 (fun H locs hP hS => ?_)
        have hr9 : rr = (rr6.2.1, rr6.2.2, upd (upd (F 7) (5 * o) (ltr ((F 6)) tn pp)) (5 * o + 1) rr6.1) := by rw [← hrr, roR_h c23 c29 c35]; simp only [nfR, hrr6]
        refine fr_vret hx hb hr hlocks hK hI hS dX6_readOrder_142 ?_
        refine fP.eqc (congrArg (fun v9 => mdc ct ad Z v9 hs (va_up F 7 rr.2.2)) (show (upd (upd (upd g 10 (nI (o + 1))) 11 (nI rr.1)) 12 (ow rr.2.1)) = (upd (upd (upd g 11 (nI rr6.2.1)) 12 (ow rr6.2.2)) 10 (nI (o + 1))) from by (rw [hr9]; first | exact (pg5 _ _ _ _).symm | (simp only [va_up_up]; done) | with_reducible rfl)).symm) ?_
        refine fP.eqc (congrArg (fun v9 => mdc ct ad Z (upd (upd (upd g 11 (nI rr6.2.1)) 12 (ow rr6.2.2)) 10 (nI (o + 1))) hs v9) (show (va_up F 7 rr.2.2) = (va_up (va_up F 7 (upd (F 7) (5 * o) (ltr ((F 6)) tn pp))) 7 (upd (upd (F 7) (5 * o) (ltr ((F 6)) tn pp)) (5 * o + 1) rr6.1)) from by (rw [hr9]; first | exact (pg5 _ _ _ _).symm | (simp only [va_up_up]; done) | with_reducible rfl)).symm) ?_
        exact hP
