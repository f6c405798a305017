/-! THE REFERENCE: looks, trials -/
def sp5 (F : Nat → Nat → Int32) (Z : Nat → Int32) : Bool → (Nat → Nat → Int32)
  | true => va_up F 5 Z
  | false => F
theorem sp5_sp5 (F : Nat → Nat → Int32) (Z : Nat → Int32) (u v : Bool) : sp5 (sp5 F Z u) Z v = sp5 F Z (u || v) := by
  cases u <;> cases v <;> first | rfl | exact va_up_up _ _ _ _
theorem sp5_ne {F : Nat → Nat → Int32} {Z : Nat → Int32} {u : Bool} {j : Nat} (h : j ≠ 5) : sp5 F Z u j = F j := by
  cases u
  · rfl
  · exact va_up_ne _ _ h
def wpY (Z : Nat → Int32) (a q : Nat) : Nat → Int32 := upd Z (39 + 8 * a + 4) (nI q)
theorem wpY_zW {Z : Nat → Int32} {n a q : Nat} (h : zW Z n) (ha : a < n) (hq : q < 12) : zW (wpY Z a q) n := by
  have h10 := h.1
  refine ⟨h.1, ?_, fun k hk => ?_, fun b hb => ?_⟩
  · unfold wpY; rw [upd_n (by omega)]; exact h.2.1
  · unfold wpY
    by_cases e : k = a
    · subst e; rw [upd_s]; exact Or.inr ⟨q, hq, rfl⟩
    · rw [upd_n (by omega)]; exact h.2.2.1 k hk
  · unfold wpY; rw [upd_n (by omega)]; exact h.2.2.2 b hb
def wpR (Z : Nat → Int32) (n a q tm w : Nat) : Int32 := if tknB Z n a (nI q) = true then -1 else if w = 0 then hsT (wpY Z a q) n tm else if w = 1 then sumS (hsZ (wpY Z a q) n tm) 7 n - sumS Z 7 n else hsZ (wpY Z a q) n tm (39 + 8 * a + 6) - Z (39 + 8 * a + 6)
def htF (Z : Nat → Int32) (n b : Nat) : Nat → Nat → Int32
  | 0, _ => -1
  | f + 1, i => if i ≤ 96 then (if hsZ Z n i (7 + 5 * b + 1) = nI 1 then htF Z n b f (i + 1) else nI i) else -1
def bfS (Z : Nat → Int32) (n a : Nat) : Nat → Int32 × Int32 × Int32
  | 0 => (-1, nI 0, nI 0)
  | i + 1 => if tknB Z n a (nI i) = true then bfS Z n a i else if (bfS Z n a i).1 = -1 ∨ wpR Z n a i 24 1 < (bfS Z n a i).2.1 ∨ (wpR Z n a i 24 1 = (bfS Z n a i).2.1 ∧ wpR Z n a i 24 0 < (bfS Z n a i).2.2) then (nI i, wpR Z n a i 24 1, wpR Z n a i 24 0) else bfS Z n a i
def bfU (Z : Nat → Int32) (n a : Nat) : Nat → Bool
  | 0 => false
  | i + 1 => bfU Z n a i || !tknB Z n a (nI i)
def pon (Z : Nat → Int32) (b : Nat) : Nat → Int32 := upd (upd Z (7 + 5 * b + 1) (nI 1)) (7 + 5 * b + 2) (nI 0)
theorem pon_zW {Z : Nat → Int32} {n b : Nat} (h : zW Z n) (hb : b < 4) : zW (pon Z b) n := zW_upd (zW_upd h (by omega) (fun _ _ => by omega) (fun _ _ => by omega)) (by omega) (fun _ _ => by omega) (fun _ _ => by omega)
theorem bnd_zW {Z : Nat → Int32} {n b v : Nat} (h : zW Z n) (hb : b < 4) (hv : v < 2147483648) : zW (upd Z (7 + 5 * b + 0) (nI v)) n := by
  have h10 := h.1
  refine ⟨h.1, ?_, fun k hk => ?_, fun c hc => ?_⟩
  · rw [upd_n (by omega)]; exact h.2.1
  · rw [upd_n (by omega)]; exact h.2.2.1 k hk
  · by_cases e : c = b
    · subst e; rw [upd_s]; exact nI_pos' hv
    · rw [upd_n (by omega)]; exact h.2.2.2 c hc
def lsY (Z : Nat → Int32) (b v : Nat) : Nat → Int32 := pon (upd Z (7 + 5 * b + 0) (nI v)) b
theorem lsY_zW {Z : Nat → Int32} {n b v : Nat} (h : zW Z n) (hb : b < 4) (hv : v < 2147483648) : zW (lsY Z b v) n := pon_zW (bnd_zW h hb hv) hb
def lwF (Y : Nat → Int32) (n b : Nat) : Nat → Nat → Bool
  | 0, i => decide (hsZ Y n i (7 + 5 * b + 1) = nI 1)
  | f + 1, i => if i < 48 then (if hsZ Y n i (7 + 5 * b + 1) = nI 1 then lwF Y n b f (i + 1) else false) else decide (hsZ Y n i (7 + 5 * b + 1) = nI 1)
def lsF (Z : Nat → Int32) (n b : Nat) : Nat → Nat → Int32
  | 0, _ => -1
  | f + 1, v => if v ≤ 999 then (if lwF (lsY Z b v) n b 49 0 = true then nI v else lsF Z n b f (v + 1)) else -1
set_option maxRecDepth 100000 in
set_option maxHeartbeats 4000000 in
theorem m6_stallAt (l : Launch) (D : va_G) (ct : Nat → ClassId) (ad : Nat → Nat) (Z g : Nat → Int32) (hs : Int64) (F : Nat → Nat → Int32) (q : Int32) (n : Nat)  (hw : zW Z n) : FMet l yX6_stallAt cX6_stallAt 4 (some .int) 1 22 D ct 8 ad [.ref (ad 0), .int (q)] (mdc ct ad Z g hs F) (some (.int (ox (satN Z q n)))) (mdc ct ad Z g hs F) := by
  refine FMet.of (by decide +kernel) (Nat.le_of_ble_eq_true rfl) ?_
  intro p e s m args below meth c ls hx hb hr hml hown hlocks htg hK hI hP hS hl
  have hl : lv_has ls 4 [(0, .ref (ad 0)), (1, .int (q))] := hl
  have hn10 := hw.1
  refine lv_iconst (v := -1) hx hb dX6_stallAt_0 (by decide) ?_
  refine lv_istore_n (lv' := [(2, .int (-1)), (0, .ref (ad 0)), (1, .int (q))]) hx hb dX6_stallAt_1 rfl hl (by decide) rfl (fun ls hl => ?_)
  refine lv_iconst (v := nI 0) hx hb dX6_stallAt_2 (by decide) ?_
  refine lv_istore_n (lv' := [(3, .int (nI 0)), (2, .int (-1)), (0, .ref (ad 0)), (1, .int (q))]) hx hb dX6_stallAt_3 rfl hl (by decide) rfl (fun ls hl => ?_)
  have lp4 : ∀ (fu4 : Nat) (i : Nat), i ≤ n → n - i < fu4 → ∀ (H : Heap) (locs : List Loc), fP D 8 ad (mdc ct ad Z g hs F) H → va_S (fA 8 ad) s.heap H locs → ∀ (ls : Array Slot), lv_has ls 4 [(3, .int (nI i)), (2, .int (ox (satN Z q i))), (0, .ref (ad 0)), (1, .int (q))] → W p l e ({ frames := 1, cells := 0, slots := 0, locals := 22 }) s m args below meth c H locs 0 0 (MQ below (fQ D ct 8 ad (some (.int (ox (satN Z q n)))) (mdc ct ad Z g hs F)) args s 0 0 (fA 8 ad)) (F0 m 4 ls []) := by
    intro fu4
    induction fu4 with
    | zero => intro i hi hfu4; exact absurd hfu4 (Nat.not_lt_zero _)
    | succ fu4 ih4 =>
      intro i hi hfu4 H locs hP hS ls hl
      refine lv_iload_n hx hb dX6_stallAt_4 rfl (lv_at hl 0 rfl) ?_
      refine lv_aload_n hx hb dX6_stallAt_5 rfl (lv_at hl 2 rfl) ?_
      refine md_g1 hx hb hown htg hK hP dX6_stallAt_6 ?_
      refine lv_iconst (v := nI 4) hx hb dX6_stallAt_9 (by decide) ?_
      refine md_l1 hx hb hK hP (by omega) dX6_stallAt_10 ?_
      refine lv_teq (hw).2.1 ?_
      refine lv_icmp_geN (tgt := 36) hx hb (by omega) (by omega) dX6_stallAt_11 (by decide) (fun c11 => ?_) (fun c11 => ?_)
      · have e9 : n = i := by omega
        subst e9
        refine lv_iload_n hx hb dX6_stallAt_36 rfl (lv_at hl 1 rfl) ?_
        refine fr_iret hx hb hr hlocks hK hI hS rfl dX6_stallAt_37 ?_ ?_
        · exact rfl
        · exact hP
      · refine lv_aload_n hx hb dX6_stallAt_14 rfl (lv_at hl 2 rfl) ?_
        refine lv_iload_n hx hb dX6_stallAt_15 rfl (lv_at hl 0 rfl) ?_
        refine lv_iconst (v := nI 4) hx hb dX6_stallAt_16 (by decide) ?_
        refine md_cVr (As := [.int (nI i), .int (nI 4)]) (rest := []) hx hb hown htg hK hI hS hP hml hl.1 (m6_of l D ct ad _ _ _ _ i 4 (by omega) (by omega)) cw_X6_47 rfl rfl ⟨Nat.le_of_ble_eq_true rfl, Nat.le_of_ble_eq_true rfl⟩ (Nat.le_of_ble_eq_true rfl) dX6_stallAt_17 ⟨Nat.le_refl _, Nat.le_refl _⟩ (fun H locs hP hS => ?_)
        refine lv_iload_n hx hb dX6_stallAt_20 rfl (lv_at hl 3 rfl) ?_
        refine lv_icmp_ne (tgt := 28) hx hb dX6_stallAt_21 (by decide) (fun c21 => ?_) (fun c21 => ?_)
        · refine lv_iload_n hx hb dX6_stallAt_28 rfl (lv_at hl 1 rfl) ?_
          refine lv_istore_n (lv' := [(2, .int (ox (satN Z q i))), (3, .int (nI i)), (0, .ref (ad 0)), (1, .int (q))]) hx hb dX6_stallAt_29 rfl hl (by decide) rfl (fun ls hl => ?_)
          refine lv_iinc (v := nI (i + 1)) (lv' := [(3, .int (nI (i + 1))), (2, .int (ox (satN Z q i))), (0, .ref (ad 0)), (1, .int (q))]) hx hb dX6_stallAt_30 hl (k := 1) rfl (nI_add i 1) (by decide) rfl (fun ls hl => ?_)
          refine lv_goto (tgt := 4) hx hb dX6_stallAt_33 (by decide) ?_
          have hl := lv_sub (l' := [(3, .int (nI (i + 1))), (2, .int (ox (satN Z q i))), (0, .ref (ad 0)), (1, .int (q))]) hl [0, 1, 2, 3] rfl
          have e2 : Value.int (ox (satN Z q i)) = Value.int (ox (satN Z q (i + 1))) := by first | (rw [satN_t c21, ox_n (by omega)]; done) | (rw [satN_f c21]; done)
          have hl := lv_hasE hl (lcons rfl (lcons e2 (lcons rfl (lcons rfl rfl))))
          exact ih4 (i + 1) (by omega) (by omega) _ _ hP hS _ hl
        · refine lv_iload_n hx hb dX6_stallAt_24 rfl (lv_at hl 0 rfl) ?_
          refine lv_goto (tgt := 29) hx hb dX6_stallAt_25 (by decide) ?_
          refine lv_istore_n (lv' := [(2, .int (nI i)), (3, .int (nI i)), (0, .ref (ad 0)), (1, .int (q))]) hx hb dX6_stallAt_29 rfl hl (by decide) rfl (fun ls hl => ?_)
          refine lv_iinc (v := nI (i + 1)) (lv' := [(3, .int (nI (i + 1))), (2, .int (nI i)), (0, .ref (ad 0)), (1, .int (q))]) hx hb dX6_stallAt_30 hl (k := 1) rfl (nI_add i 1) (by decide) rfl (fun ls hl => ?_)
          refine lv_goto (tgt := 4) hx hb dX6_stallAt_33 (by decide) ?_
          have hl := lv_sub (l' := [(3, .int (nI (i + 1))), (2, .int (nI i)), (0, .ref (ad 0)), (1, .int (q))]) hl [0, 1, 2, 3] rfl
          have e2 : Value.int (nI i) = Value.int (ox (satN Z q (i + 1))) := by first | (rw [satN_t c21, ox_n (by omega)]; done) | (rw [satN_f c21]; done)
          have hl := lv_hasE hl (lcons rfl (lcons e2 (lcons rfl (lcons rfl rfl))))
          exact ih4 (i + 1) (by omega) (by omega) _ _ hP hS _ hl
  have hl := lv_sub (l' := [(3, .int (nI 0)), (2, .int (-1)), (0, .ref (ad 0)), (1, .int (q))]) hl [0, 1, 2, 3] rfl
  have e2 : Value.int (-1) = Value.int (ox (satN Z q 0)) := by rfl
  have hl := lv_hasE hl (lcons rfl (lcons e2 (lcons rfl (lcons rfl rfl))))
  exact lp4 (n - 0 + 1) 0 (by omega) (Nat.lt_succ_self _) _ _ hP hS _ hl
set_option maxRecDepth 100000 in
set_option maxHeartbeats 4000000 in
theorem m6_whyNotPlug (l : Launch) (D : va_G) (ct : Nat → ClassId) (ad : Nat → Nat) (Z g : Nat → Int32) (hs : Int64) (F : Nat → Nat → Int32) (a : Int32) (b : Int32) (n : Nat)  (hw : zW Z n) : FMet l yX6_whyNotPlug cX6_whyNotPlug 3 (some .int) 2 45 D ct 8 ad [.ref (ad 0), .int (a), .int (b)] (mdc ct ad Z g hs F) (some (.int (nI (wnp Z n a b)))) (mdc ct ad Z g hs F) := by
  refine FMet.of (by decide +kernel) (Nat.le_of_ble_eq_true rfl) ?_
  intro p e s m args below meth c ls hx hb hr hml hown hlocks htg hK hI hP hS hl
  have hl : lv_has ls 3 [(0, .ref (ad 0)), (1, .int (a)), (2, .int (b))] := hl
  have hn10 := hw.1
  refine lv_aload_n hx hb dX6_whyNotPlug_0 rfl (lv_at hl 0 rfl) ?_
  refine lv_iload_n hx hb dX6_whyNotPlug_1 rfl (lv_at hl 1 rfl) ?_
  refine md_cVr (As := [.int (a)]) (rest := []) hx hb hown htg hK hI hS hP hml hl.1 (m6_isStall l D ct ad _ _ _ _ a) cw_X6_102 rfl rfl ⟨Nat.le_of_ble_eq_true rfl, Nat.le_of_ble_eq_true rfl⟩ (Nat.le_of_ble_eq_true rfl) dX6_whyNotPlug_2 ⟨Nat.le_refl _, Nat.le_refl _⟩ (fun H locs hP hS => ?_)
  refine lv_ifneB (tgt := 10) hx hb dX6_whyNotPlug_5 (by decide) (fun c5 => ?_) (fun c5 => ?_)
  · refine lv_iload_n hx hb dX6_whyNotPlug_10 rfl (lv_at hl 2 rfl) ?_
    refine md_cSr (As := [.int (b)]) (rest := []) hx hb hown htg hK hI hS hP hml hl.1 (m6_isSocket l D ct ad _ _ _ _ b) cw_X6_105 rfl rfl ⟨Nat.le_of_ble_eq_true rfl, Nat.le_of_ble_eq_true rfl⟩ (Nat.le_of_ble_eq_true rfl) dX6_whyNotPlug_11 ⟨Nat.le_refl _, Nat.le_refl _⟩ (fun H locs hP hS => ?_)
    refine lv_ifneB (tgt := 21) hx hb dX6_whyNotPlug_14 (by decide) (fun c14 => ?_) (fun c14 => ?_)
    · refine lv_aload_n hx hb dX6_whyNotPlug_21 rfl (lv_at hl 0 rfl) ?_
      refine lv_iload_n hx hb dX6_whyNotPlug_22 rfl (lv_at hl 2 rfl) ?_
      refine md_cVr (As := [.int (b)]) (rest := []) hx hb hown htg hK hI hS hP hml hl.1 (m6_stallAt l D ct ad _ _ _ _ b n hw) cw_X6_108 rfl rfl ⟨Nat.le_of_ble_eq_true rfl, Nat.le_of_ble_eq_true rfl⟩ (Nat.le_of_ble_eq_true rfl) dX6_whyNotPlug_23 ⟨Nat.le_refl _, Nat.le_refl _⟩ (fun H locs hP hS => ?_)
      refine lv_iconst (v := -1) hx hb dX6_whyNotPlug_26 (by decide) ?_
      refine lv_icmp_eq (tgt := 34) hx hb dX6_whyNotPlug_27 (by decide) (fun c27 => ?_) (fun c27 => ?_)
      · refine lv_iconst (v := nI 0) hx hb dX6_whyNotPlug_34 (by decide) ?_
        refine fr_iret hx hb hr hlocks hK hI hS rfl dX6_whyNotPlug_35 ?_ ?_
        · exact congrArg nI (show 0 = wnp Z n a b from by first | (exfalso; omega) | (simp only [wnp, c5, c14, c27, decide_true, decide_false, Bool.and_true, Bool.true_and, Bool.and_false, Bool.false_and, Bool.or_true, Bool.true_or, Bool.or_false, Bool.false_or, Bool.and_self, Bool.or_self, if_true, if_false, eq_self, Bool.false_eq_true, Bool.true_eq_false, reduceCtorEq, nI_0, not_true_eq_false, not_false_eq_true, and_true, true_and, and_false, false_and, or_true, true_or, or_false, false_or, and_self, or_self, Int32.add_zero]; done) | (simp [wnp, c5, c14, c27, nI_0]; done) | (simp only [wnp, c5, c14, c27, decide_true, decide_false, Bool.and_true, Bool.true_and, Bool.and_false, Bool.false_and, Bool.or_true, Bool.true_or, Bool.or_false, Bool.false_or, Bool.and_self, Bool.or_self, if_true, if_false, eq_self, Bool.false_eq_true, Bool.true_eq_false, reduceCtorEq, nI_0, not_true_eq_false, not_false_eq_true, and_true, true_and, and_false, false_and, or_true, true_or, or_false, false_or, and_self, or_self, Int32.add_zero]; omega) | (simp [wnp, c5, c14, c27, nI_0]; omega))
        · exact hP
      · refine lv_iconst (v := nI 3) hx hb dX6_whyNotPlug_30 (by decide) ?_
        refine lv_goto (tgt := 35) hx hb dX6_whyNotPlug_31 (by decide) ?_
        refine fr_iret hx hb hr hlocks hK hI hS rfl dX6_whyNotPlug_35 ?_ ?_
        · exact congrArg nI (show 3 = wnp Z n a b from by first | (exfalso; omega) | (simp only [wnp, c5, c14, c27, decide_true, decide_false, Bool.and_true, Bool.true_and, Bool.and_false, Bool.false_and, Bool.or_true, Bool.true_or, Bool.or_false, Bool.false_or, Bool.and_self, Bool.or_self, if_true, if_false, eq_self, Bool.false_eq_true, Bool.true_eq_false, reduceCtorEq, nI_0, not_true_eq_false, not_false_eq_true, and_true, true_and, and_false, false_and, or_true, true_or, or_false, false_or, and_self, or_self, Int32.add_zero]; done) | (simp [wnp, c5, c14, c27, nI_0]; done) | (simp only [wnp, c5, c14, c27, decide_true, decide_false, Bool.and_true, Bool.true_and, Bool.and_false, Bool.false_and, Bool.or_true, Bool.true_or, Bool.or_false, Bool.false_or, Bool.and_self, Bool.or_self, if_true, if_false, eq_self, Bool.false_eq_true, Bool.true_eq_false, reduceCtorEq, nI_0, not_true_eq_false, not_false_eq_true, and_true, true_and, and_false, false_and, or_true, true_or, or_false, false_or, and_self, or_self, Int32.add_zero]; omega) | (simp [wnp, c5, c14, c27, nI_0]; omega))
        · exact hP
    · refine lv_iconst (v := nI 2) hx hb dX6_whyNotPlug_17 (by decide) ?_
      refine lv_goto (tgt := 35) hx hb dX6_whyNotPlug_18 (by decide) ?_
      refine fr_iret hx hb hr hlocks hK hI hS rfl dX6_whyNotPlug_35 ?_ ?_
      · exact congrArg nI (show 2 = wnp Z n a b from by first | (exfalso; omega) | (simp only [wnp, c5, c14, decide_true, decide_false, Bool.and_true, Bool.true_and, Bool.and_false, Bool.false_and, Bool.or_true, Bool.true_or, Bool.or_false, Bool.false_or, Bool.and_self, Bool.or_self, if_true, if_false, eq_self, Bool.false_eq_true, Bool.true_eq_false, reduceCtorEq, nI_0, not_true_eq_false, not_false_eq_true, and_true, true_and, and_false, false_and, or_true, true_or, or_false, false_or, and_self, or_self, Int32.add_zero]; done) | (simp [wnp, c5, c14, nI_0]; done) | (simp only [wnp, c5, c14, decide_true, decide_false, Bool.and_true, Bool.true_and, Bool.and_false, Bool.false_and, Bool.or_true, Bool.true_or, Bool.or_false, Bool.false_or, Bool.and_self, Bool.or_self, if_true, if_false, eq_self, Bool.false_eq_true, Bool.true_eq_false, reduceCtorEq, nI_0, not_true_eq_false, not_false_eq_true, and_true, true_and, and_false, false_and, or_true, true_or, or_false, false_or, and_self, or_self, Int32.add_zero]; omega) | (simp [wnp, c5, c14, nI_0]; omega))
      · exact hP
  · refine lv_iconst (v := nI 1) hx hb dX6_whyNotPlug_8 (by decide) ?_
    refine fr_iret hx hb hr hlocks hK hI hS rfl dX6_whyNotPlug_9 ?_ ?_
    · exact congrArg nI (show 1 = wnp Z n a b from by first | (exfalso; omega) | (simp only [wnp, c5, decide_true, decide_false, Bool.and_true, Bool.true_and, Bool.and_false, Bool.false_and, Bool.or_true, Bool.true_or, Bool.or_false, Bool.false_or, Bool.and_self, Bool.or_self, if_true, if_false, eq_self, Bool.false_eq_true, Bool.true_eq_false, reduceCtorEq, nI_0, not_true_eq_false, not_false_eq_true, and_true, true_and, and_false, false_and, or_true, true_or, or_false, false_or, and_self, or_self, Int32.add_zero]; done) | (simp [wnp, c5, nI_0]; done) | (simp only [wnp, c5, decide_true, decide_false, Bool.and_true, Bool.true_and, Bool.and_false, Bool.false_and, Bool.or_true, Bool.true_or, Bool.or_false, Bool.false_or, Bool.and_self, Bool.or_self, if_true, if_false, eq_self, Bool.false_eq_true, Bool.true_eq_false, reduceCtorEq, nI_0, not_true_eq_false, not_false_eq_true, and_true, true_and, and_false, false_and, or_true, true_or, or_false, false_or, and_self, or_self, Int32.add_zero]; omega) | (simp [wnp, c5, nI_0]; omega))
    · exact hP
set_option maxRecDepth 100000 in
set_option maxHeartbeats 4000000 in
theorem m6_drawing (l : Launch) (D : va_G) (ct : Nat → ClassId) (ad : Nat → Nat) (Z g : Nat → Int32) (hs : Int64) (F : Nat → Nat → Int32) (b : Nat) (n : Nat)  (hw : zW Z n) (hb4 : b < 4) : FMet l yX6_drawing cX6_drawing 4 (some .int) 3 67 D ct 8 ad [.ref (ad 0), .int (nI b)] (mdc ct ad Z g hs F) (some (.int (drS Z b n))) (mdc ct ad Z g hs F) := by
  refine FMet.of (by decide +kernel) (Nat.le_of_ble_eq_true rfl) ?_
  intro p e s m args below meth c ls hx hb hr hml hown hlocks htg hK hI hP hS hl
  have hl : lv_has ls 4 [(0, .ref (ad 0)), (1, .int (nI b))] := hl
  have hn10 := hw.1
  refine lv_iconst (v := nI 0) hx hb dX6_drawing_0 (by decide) ?_
  refine lv_istore_n (lv' := [(2, .int (nI 0)), (0, .ref (ad 0)), (1, .int (nI b))]) hx hb dX6_drawing_1 rfl hl (by decide) rfl (fun ls hl => ?_)
  refine lv_iconst (v := nI 0) hx hb dX6_drawing_2 (by decide) ?_
  refine lv_istore_n (lv' := [(3, .int (nI 0)), (2, .int (nI 0)), (0, .ref (ad 0)), (1, .int (nI b))]) hx hb dX6_drawing_3 rfl hl (by decide) rfl (fun ls hl => ?_)
  have lp4 : ∀ (fu4 : Nat) (i : Nat), i ≤ n → n - i < fu4 → ∀ (H : Heap) (locs : List Loc), fP D 8 ad (mdc ct ad Z g hs F) H → va_S (fA 8 ad) s.heap H locs → ∀ (ls : Array Slot), lv_has ls 4 [(3, .int (nI i)), (2, .int (drS Z b i)), (0, .ref (ad 0)), (1, .int (nI b))] → W p l e ({ frames := 3, cells := 0, slots := 0, locals := 67 }) s m args below meth c H locs 0 0 (MQ below (fQ D ct 8 ad (some (.int (drS Z b n))) (mdc ct ad Z g hs F)) args s 0 0 (fA 8 ad)) (F0 m 4 ls []) := by
    intro fu4
    induction fu4 with
    | zero => intro i hi hfu4; exact absurd hfu4 (Nat.not_lt_zero _)
    | succ fu4 ih4 =>
      intro i hi hfu4 H locs hP hS ls hl
      refine lv_iload_n hx hb dX6_drawing_4 rfl (lv_at hl 0 rfl) ?_
      refine lv_aload_n hx hb dX6_drawing_5 rfl (lv_at hl 2 rfl) ?_
      refine md_g1 hx hb hown htg hK hP dX6_drawing_6 ?_
      refine lv_iconst (v := nI 4) hx hb dX6_drawing_9 (by decide) ?_
      refine md_l1 hx hb hK hP (by omega) dX6_drawing_10 ?_
      refine lv_teq (hw).2.1 ?_
      refine lv_icmp_geN (tgt := 50) hx hb (by omega) (by omega) dX6_drawing_11 (by decide) (fun c11 => ?_) (fun c11 => ?_)
      · have e9 : n = i := by omega
        subst e9
        refine lv_iload_n hx hb dX6_drawing_50 rfl (lv_at hl 1 rfl) ?_
        refine fr_iret hx hb hr hlocks hK hI hS rfl dX6_drawing_51 ?_ ?_
        · exact rfl
        · exact hP
      · refine lv_iload_n hx hb dX6_drawing_14 rfl (lv_at hl 1 rfl) ?_
        refine lv_iload_n hx hb dX6_drawing_15 rfl (lv_at hl 3 rfl) ?_
        refine lv_iconst (v := -1) hx hb dX6_drawing_16 (by decide) ?_
        refine lv_icmp_eq (tgt := 29) hx hb dX6_drawing_17 (by decide) (fun h => absurd h (nI_nm1 (by omega))) (fun _ => ?_)
        refine lv_aload_n hx hb dX6_drawing_20 rfl (lv_at hl 2 rfl) ?_
        refine lv_iload_n hx hb dX6_drawing_21 rfl (lv_at hl 0 rfl) ?_
        refine lv_iload_n hx hb dX6_drawing_22 rfl (lv_at hl 3 rfl) ?_
        refine md_cVr (As := [.int (nI i), .int (nI b)]) (rest := [.int (drS Z b i)]) hx hb hown htg hK hI hS hP hml hl.1 (m6_isOn l D ct ad _ _ _ _ i b n hw (by omega) (by omega)) cw_X6_62 rfl rfl ⟨Nat.le_of_ble_eq_true rfl, Nat.le_of_ble_eq_true rfl⟩ (Nat.le_of_ble_eq_true rfl) dX6_drawing_23 ⟨Nat.le_refl _, Nat.le_refl _⟩ (fun H locs hP hS => ?_)
        refine lv_ifeqB (tgt := 41) hx hb dX6_drawing_26 (by decide) (fun c26 => ?_) (fun c26 => ?_)
        · refine lv_iconst (v := nI 0) hx hb dX6_drawing_41 (by decide) ?_
          refine lv_iadd hx hb dX6_drawing_42 ?_
          refine lv_istore_n (lv' := [(2, .int ((drS Z b i) + (nI 0))), (3, .int (nI i)), (0, .ref (ad 0)), (1, .int (nI b))]) hx hb dX6_drawing_43 rfl hl (by decide) rfl (fun ls hl => ?_)
          refine lv_iinc (v := nI (i + 1)) (lv' := [(3, .int (nI (i + 1))), (2, .int ((drS Z b i) + (nI 0))), (0, .ref (ad 0)), (1, .int (nI b))]) hx hb dX6_drawing_44 hl (k := 1) rfl (nI_add i 1) (by decide) rfl (fun ls hl => ?_)
          refine lv_goto (tgt := 4) hx hb dX6_drawing_47 (by decide) ?_
          have hl := lv_sub (l' := [(3, .int (nI (i + 1))), (2, .int ((drS Z b i) + (nI 0))), (0, .ref (ad 0)), (1, .int (nI b))]) hl [0, 1, 2, 3] rfl
          have e2 : Value.int ((drS Z b i) + (nI 0)) = Value.int (drS Z b (i + 1)) := by first | (exfalso; omega) | (simp only [drS, drwB, c11, Nat.not_le.mpr c11, c26, decide_true, decide_false, Bool.and_true, Bool.true_and, Bool.and_false, Bool.false_and, Bool.or_true, Bool.true_or, Bool.or_false, Bool.false_or, Bool.and_self, Bool.or_self, if_true, if_false, eq_self, Bool.false_eq_true, Bool.true_eq_false, reduceCtorEq, nI_0, not_true_eq_false, not_false_eq_true, and_true, true_and, and_false, false_and, or_true, true_or, or_false, false_or, and_self, or_self, Int32.add_zero]; done) | (simp [drS, drwB, c11, Nat.not_le.mpr c11, c26, nI_0]; done) | (simp only [drS, drwB, c11, Nat.not_le.mpr c11, c26, decide_true, decide_false, Bool.and_true, Bool.true_and, Bool.and_false, Bool.false_and, Bool.or_true, Bool.true_or, Bool.or_false, Bool.false_or, Bool.and_self, Bool.or_self, if_true, if_false, eq_self, Bool.false_eq_true, Bool.true_eq_false, reduceCtorEq, nI_0, not_true_eq_false, not_false_eq_true, and_true, true_and, and_false, false_and, or_true, true_or, or_false, false_or, and_self, or_self, Int32.add_zero]; omega) | (simp [drS, drwB, c11, Nat.not_le.mpr c11, c26, nI_0]; omega)
          have hl := lv_hasE hl (lcons rfl (lcons e2 (lcons rfl (lcons rfl rfl))))
          exact ih4 (i + 1) (by omega) (by omega) _ _ hP hS _ hl
        · refine lv_aload_n hx hb dX6_drawing_29 rfl (lv_at hl 2 rfl) ?_
          refine lv_iload_n hx hb dX6_drawing_30 rfl (lv_at hl 0 rfl) ?_
          refine md_cVr (As := [.int (nI i)]) (rest := [.int (drS Z b i)]) hx hb hown htg hK hI hS hP hml hl.1 (m6_reason l D ct ad _ _ _ _ i n hw (by omega)) cw_X6_66 rfl rfl ⟨Nat.le_of_ble_eq_true rfl, Nat.le_of_ble_eq_true rfl⟩ (Nat.le_of_ble_eq_true rfl) dX6_drawing_31 ⟨Nat.le_refl _, Nat.le_refl _⟩ (fun H locs hP hS => ?_)
          have hrl := @rsn_lt Z i
          refine lv_ifneN (tgt := 41) hx hb (by omega) dX6_drawing_34 (by decide) (fun c34 => ?_) (fun c34 => ?_)
          · refine lv_iconst (v := nI 0) hx hb dX6_drawing_41 (by decide) ?_
            refine lv_iadd hx hb dX6_drawing_42 ?_
            refine lv_istore_n (lv' := [(2, .int ((drS Z b i) + (nI 0))), (3, .int (nI i)), (0, .ref (ad 0)), (1, .int (nI b))]) hx hb dX6_drawing_43 rfl hl (by decide) rfl (fun ls hl => ?_)
            refine lv_iinc (v := nI (i + 1)) (lv' := [(3, .int (nI (i + 1))), (2, .int ((drS Z b i) + (nI 0))), (0, .ref (ad 0)), (1, .int (nI b))]) hx hb dX6_drawing_44 hl (k := 1) rfl (nI_add i 1) (by decide) rfl (fun ls hl => ?_)
            refine lv_goto (tgt := 4) hx hb dX6_drawing_47 (by decide) ?_
            have hl := lv_sub (l' := [(3, .int (nI (i + 1))), (2, .int ((drS Z b i) + (nI 0))), (0, .ref (ad 0)), (1, .int (nI b))]) hl [0, 1, 2, 3] rfl
            have e2 : Value.int ((drS Z b i) + (nI 0)) = Value.int (drS Z b (i + 1)) := by first | (exfalso; omega) | (simp only [drS, drwB, c11, Nat.not_le.mpr c11, c26, c34, decide_true, decide_false, Bool.and_true, Bool.true_and, Bool.and_false, Bool.false_and, Bool.or_true, Bool.true_or, Bool.or_false, Bool.false_or, Bool.and_self, Bool.or_self, if_true, if_false, eq_self, Bool.false_eq_true, Bool.true_eq_false, reduceCtorEq, nI_0, not_true_eq_false, not_false_eq_true, and_true, true_and, and_false, false_and, or_true, true_or, or_false, false_or, and_self, or_self, Int32.add_zero]; done) | (simp [drS, drwB, c11, Nat.not_le.mpr c11, c26, c34, nI_0]; done) | (simp only [drS, drwB, c11, Nat.not_le.mpr c11, c26, c34, decide_true, decide_false, Bool.and_true, Bool.true_and, Bool.and_false, Bool.false_and, Bool.or_true, Bool.true_or, Bool.or_false, Bool.false_or, Bool.and_self, Bool.or_self, if_true, if_false, eq_self, Bool.false_eq_true, Bool.true_eq_false, reduceCtorEq, nI_0, not_true_eq_false, not_false_eq_true, and_true, true_and, and_false, false_and, or_true, true_or, or_false, false_or, and_self, or_self, Int32.add_zero]; omega) | (simp [drS, drwB, c11, Nat.not_le.mpr c11, c26, c34, nI_0]; omega)
            have hl := lv_hasE hl (lcons rfl (lcons e2 (lcons rfl (lcons rfl rfl))))
            exact ih4 (i + 1) (by omega) (by omega) _ _ hP hS _ hl
          · refine lv_iconst (v := nI 1) hx hb dX6_drawing_37 (by decide) ?_
            refine lv_goto (tgt := 42) hx hb dX6_drawing_38 (by decide) ?_
            refine lv_iadd hx hb dX6_drawing_42 ?_
            refine lv_istore_n (lv' := [(2, .int ((drS Z b i) + (nI 1))), (3, .int (nI i)), (0, .ref (ad 0)), (1, .int (nI b))]) hx hb dX6_drawing_43 rfl hl (by decide) rfl (fun ls hl => ?_)
            refine lv_iinc (v := nI (i + 1)) (lv' := [(3, .int (nI (i + 1))), (2, .int ((drS Z b i) + (nI 1))), (0, .ref (ad 0)), (1, .int (nI b))]) hx hb dX6_drawing_44 hl (k := 1) rfl (nI_add i 1) (by decide) rfl (fun ls hl => ?_)
            refine lv_goto (tgt := 4) hx hb dX6_drawing_47 (by decide) ?_
            have hl := lv_sub (l' := [(3, .int (nI (i + 1))), (2, .int ((drS Z b i) + (nI 1))), (0, .ref (ad 0)), (1, .int (nI b))]) hl [0, 1, 2, 3] rfl
            have e2 : Value.int ((drS Z b i) + (nI 1)) = Value.int (drS Z b (i + 1)) := by first | (exfalso; omega) | (simp only [drS, drwB, c11, Nat.not_le.mpr c11, c26, c34, decide_true, decide_false, Bool.and_true, Bool.true_and, Bool.and_false, Bool.false_and, Bool.or_true, Bool.true_or, Bool.or_false, Bool.false_or, Bool.and_self, Bool.or_self, if_true, if_false, eq_self, Bool.false_eq_true, Bool.true_eq_false, reduceCtorEq, nI_0, not_true_eq_false, not_false_eq_true, and_true, true_and, and_false, false_and, or_true, true_or, or_false, false_or, and_self, or_self, Int32.add_zero]; done) | (simp [drS, drwB, c11, Nat.not_le.mpr c11, c26, c34, nI_0]; done) | (simp only [drS, drwB, c11, Nat.not_le.mpr c11, c26, c34, decide_true, decide_false, Bool.and_true, Bool.true_and, Bool.and_false, Bool.false_and, Bool.or_true, Bool.true_or, Bool.or_false, Bool.false_or, Bool.and_self, Bool.or_self, if_true, if_false, eq_self, Bool.false_eq_true, Bool.true_eq_false, reduceCtorEq, nI_0, not_true_eq_false, not_false_eq_true, and_true, true_and, and_false, false_and, or_true, true_or, or_false, false_or, and_self, or_self, Int32.add_zero]; omega) | (simp [drS, drwB, c11, Nat.not_le.mpr c11, c26, c34, nI_0]; omega)
            have hl := lv_hasE hl (lcons rfl (lcons e2 (lcons rfl (lcons rfl rfl))))
            exact ih4 (i + 1) (by omega) (by omega) _ _ hP hS _ hl
  have hl := lv_sub (l' := [(3, .int (nI 0)), (2, .int (nI 0)), (0, .ref (ad 0)), (1, .int (nI b))]) hl [0, 1, 2, 3] rfl
  have e2 : Value.int (nI 0) = Value.int (drS Z b 0) := by rfl
  have hl := lv_hasE hl (lcons rfl (lcons e2 (lcons rfl (lcons rfl rfl))))
  exact lp4 (n - 0 + 1) 0 (by omega) (Nat.lt_succ_self _) _ _ hP hS _ hl
set_option maxRecDepth 100000 in
set_option maxHeartbeats 4000000 in
theorem m6_drawingA (l : Launch) (D : va_G) (ct : Nat → ClassId) (ad : Nat → Nat) (Z g : Nat → Int32) (hs : Int64) (F : Nat → Nat → Int32)  (n : Nat)  (hw : zW Z n) : FMet l yX6_drawing cX6_drawing 4 (some .int) 3 67 D ct 8 ad [.ref (ad 0), .int (-1)] (mdc ct ad Z g hs F) (some (.int (drA Z n))) (mdc ct ad Z g hs F) := by
  refine FMet.of (by decide +kernel) (Nat.le_of_ble_eq_true rfl) ?_
  intro p e s m args below meth c ls hx hb hr hml hown hlocks htg hK hI hP hS hl
  have hl : lv_has ls 4 [(0, .ref (ad 0)), (1, .int (-1))] := hl
  have hn10 := hw.1
  refine lv_iconst (v := nI 0) hx hb dX6_drawing_0 (by decide) ?_
  refine lv_istore_n (lv' := [(2, .int (nI 0)), (0, .ref (ad 0)), (1, .int (-1))]) hx hb dX6_drawing_1 rfl hl (by decide) rfl (fun ls hl => ?_)
  refine lv_iconst (v := nI 0) hx hb dX6_drawing_2 (by decide) ?_
  refine lv_istore_n (lv' := [(3, .int (nI 0)), (2, .int (nI 0)), (0, .ref (ad 0)), (1, .int (-1))]) hx hb dX6_drawing_3 rfl hl (by decide) rfl (fun ls hl => ?_)
  have lp4 : ∀ (fu4 : Nat) (i : Nat), i ≤ n → n - i < fu4 → ∀ (H : Heap) (locs : List Loc), fP D 8 ad (mdc ct ad Z g hs F) H → va_S (fA 8 ad) s.heap H locs → ∀ (ls : Array Slot), lv_has ls 4 [(3, .int (nI i)), (2, .int (drA Z i)), (0, .ref (ad 0)), (1, .int (-1))] → W p l e ({ frames := 3, cells := 0, slots := 0, locals := 67 }) s m args below meth c H locs 0 0 (MQ below (fQ D ct 8 ad (some (.int (drA Z n))) (mdc ct ad Z g hs F)) args s 0 0 (fA 8 ad)) (F0 m 4 ls []) := by
    intro fu4
    induction fu4 with
    | zero => intro i hi hfu4; exact absurd hfu4 (Nat.not_lt_zero _)
    | succ fu4 ih4 =>
      intro i hi hfu4 H locs hP hS ls hl
      refine lv_iload_n hx hb dX6_drawing_4 rfl (lv_at hl 0 rfl) ?_
      refine lv_aload_n hx hb dX6_drawing_5 rfl (lv_at hl 2 rfl) ?_
      refine md_g1 hx hb hown htg hK hP dX6_drawing_6 ?_
      refine lv_iconst (v := nI 4) hx hb dX6_drawing_9 (by decide) ?_
      refine md_l1 hx hb hK hP (by omega) dX6_drawing_10 ?_
      refine lv_teq (hw).2.1 ?_
      refine lv_icmp_geN (tgt := 50) hx hb (by omega) (by omega) dX6_drawing_11 (by decide) (fun c11 => ?_) (fun c11 => ?_)
      · have e9 : n = i := by omega
        subst e9
        refine lv_iload_n hx hb dX6_drawing_50 rfl (lv_at hl 1 rfl) ?_
        refine fr_iret hx hb hr hlocks hK hI hS rfl dX6_drawing_51 ?_ ?_
        · exact rfl
        · exact hP
      · refine lv_iload_n hx hb dX6_drawing_14 rfl (lv_at hl 1 rfl) ?_
        refine lv_iload_n hx hb dX6_drawing_15 rfl (lv_at hl 3 rfl) ?_
        refine lv_iconst (v := -1) hx hb dX6_drawing_16 (by decide) ?_
        refine lv_icmp_eq (tgt := 29) hx hb dX6_drawing_17 (by decide) (fun _ => ?_) (fun h => absurd (by decide) h)
        refine lv_aload_n hx hb dX6_drawing_29 rfl (lv_at hl 2 rfl) ?_
        refine lv_iload_n hx hb dX6_drawing_30 rfl (lv_at hl 0 rfl) ?_
        refine md_cVr (As := [.int (nI i)]) (rest := [.int (drA Z i)]) hx hb hown htg hK hI hS hP hml hl.1 (m6_reason l D ct ad _ _ _ _ i n hw (by omega)) cw_X6_66 rfl rfl ⟨Nat.le_of_ble_eq_true rfl, Nat.le_of_ble_eq_true rfl⟩ (Nat.le_of_ble_eq_true rfl) dX6_drawing_31 ⟨Nat.le_refl _, Nat.le_refl _⟩ (fun H locs hP hS => ?_)
        have hrl := @rsn_lt Z i
        refine lv_ifneN (tgt := 41) hx hb (by omega) dX6_drawing_34 (by decide) (fun c34 => ?_) (fun c34 => ?_)
        · refine lv_iconst (v := nI 0) hx hb dX6_drawing_41 (by decide) ?_
          refine lv_iadd hx hb dX6_drawing_42 ?_
          refine lv_istore_n (lv' := [(2, .int ((drA Z i) + (nI 0))), (3, .int (nI i)), (0, .ref (ad 0)), (1, .int (-1))]) hx hb dX6_drawing_43 rfl hl (by decide) rfl (fun ls hl => ?_)
          refine lv_iinc (v := nI (i + 1)) (lv' := [(3, .int (nI (i + 1))), (2, .int ((drA Z i) + (nI 0))), (0, .ref (ad 0)), (1, .int (-1))]) hx hb dX6_drawing_44 hl (k := 1) rfl (nI_add i 1) (by decide) rfl (fun ls hl => ?_)
          refine lv_goto (tgt := 4) hx hb dX6_drawing_47 (by decide) ?_
          have hl := lv_sub (l' := [(3, .int (nI (i + 1))), (2, .int ((drA Z i) + (nI 0))), (0, .ref (ad 0)), (1, .int (-1))]) hl [0, 1, 2, 3] rfl
          have e2 : Value.int ((drA Z i) + (nI 0)) = Value.int (drA Z (i + 1)) := by first | (exfalso; omega) | (simp only [drA, c11, Nat.not_le.mpr c11, c34, decide_true, decide_false, Bool.and_true, Bool.true_and, Bool.and_false, Bool.false_and, Bool.or_true, Bool.true_or, Bool.or_false, Bool.false_or, Bool.and_self, Bool.or_self, if_true, if_false, eq_self, Bool.false_eq_true, Bool.true_eq_false, reduceCtorEq, nI_0, not_true_eq_false, not_false_eq_true, and_true, true_and, and_false, false_and, or_true, true_or, or_false, false_or, and_self, or_self, Int32.add_zero]; done) | (simp [drA, c11, Nat.not_le.mpr c11, c34, nI_0]; done) | (simp only [drA, c11, Nat.not_le.mpr c11, c34, decide_true, decide_false, Bool.and_true, Bool.true_and, Bool.and_false, Bool.false_and, Bool.or_true, Bool.true_or, Bool.or_false, Bool.false_or, Bool.and_self, Bool.or_self, if_true, if_false, eq_self, Bool.false_eq_true, Bool.true_eq_false, reduceCtorEq, nI_0, not_true_eq_false, not_false_eq_true, and_true, true_and, and_false, false_and, or_true, true_or, or_false, false_or, and_self, or_self, Int32.add_zero]; omega) | (simp [drA, c11, Nat.not_le.mpr c11, c34, nI_0]; omega)
          have hl := lv_hasE hl (lcons rfl (lcons e2 (lcons rfl (lcons rfl rfl))))
          exact ih4 (i + 1) (by omega) (by omega) _ _ hP hS _ hl
        · refine lv_iconst (v := nI 1) hx hb dX6_drawing_37 (by decide) ?_
          refine lv_goto (tgt := 42) hx hb dX6_drawing_38 (by decide) ?_
          refine lv_iadd hx hb dX6_drawing_42 ?_
          refine lv_istore_n (lv' := [(2, .int ((drA Z i) + (nI 1))), (3, .int (nI i)), (0, .ref (ad 0)), (1, .int (-1))]) hx hb dX6_drawing_43 rfl hl (by decide) rfl (fun ls hl => ?_)
          refine lv_iinc (v := nI (i + 1)) (lv' := [(3, .int (nI (i + 1))), (2, .int ((drA Z i) + (nI 1))), (0, .ref (ad 0)), (1, .int (-1))]) hx hb dX6_drawing_44 hl (k := 1) rfl (nI_add i 1) (by decide) rfl (fun ls hl => ?_)
          refine lv_goto (tgt := 4) hx hb dX6_drawing_47 (by decide) ?_
          have hl := lv_sub (l' := [(3, .int (nI (i + 1))), (2, .int ((drA Z i) + (nI 1))), (0, .ref (ad 0)), (1, .int (-1))]) hl [0, 1, 2, 3] rfl
          have e2 : Value.int ((drA Z i) + (nI 1)) = Value.int (drA Z (i + 1)) := by first | (exfalso; omega) | (simp only [drA, c11, Nat.not_le.mpr c11, c34, decide_true, decide_false, Bool.and_true, Bool.true_and, Bool.and_false, Bool.false_and, Bool.or_true, Bool.true_or, Bool.or_false, Bool.false_or, Bool.and_self, Bool.or_self, if_true, if_false, eq_self, Bool.false_eq_true, Bool.true_eq_false, reduceCtorEq, nI_0, not_true_eq_false, not_false_eq_true, and_true, true_and, and_false, false_and, or_true, true_or, or_false, false_or, and_self, or_self, Int32.add_zero]; done) | (simp [drA, c11, Nat.not_le.mpr c11, c34, nI_0]; done) | (simp only [drA, c11, Nat.not_le.mpr c11, c34, decide_true, decide_false, Bool.and_true, Bool.true_and, Bool.and_false, Bool.false_and, Bool.or_true, Bool.true_or, Bool.or_false, Bool.false_or, Bool.and_self, Bool.or_self, if_true, if_false, eq_self, Bool.false_eq_true, Bool.true_eq_false, reduceCtorEq, nI_0, not_true_eq_false, not_false_eq_true, and_true, true_and, and_false, false_and, or_true, true_or, or_false, false_or, and_self, or_self, Int32.add_zero]; omega) | (simp [drA, c11, Nat.not_le.mpr c11, c34, nI_0]; omega)
          have hl := lv_hasE hl (lcons rfl (lcons e2 (lcons rfl (lcons rfl rfl))))
          exact ih4 (i + 1) (by omega) (by omega) _ _ hP hS _ hl
  have hl := lv_sub (l' := [(3, .int (nI 0)), (2, .int (nI 0)), (0, .ref (ad 0)), (1, .int (-1))]) hl [0, 1, 2, 3] rfl
  have e2 : Value.int (nI 0) = Value.int (drA Z 0) := by rfl
  have hl := lv_hasE hl (lcons rfl (lcons e2 (lcons rfl (lcons rfl rfl))))
  exact lp4 (n - 0 + 1) 0 (by omega) (Nat.lt_succ_self _) _ _ hP hS _ hl
set_option maxRecDepth 100000 in
set_option maxHeartbeats 4000000 in
theorem m6_putOn (l : Launch) (D : va_G) (ct : Nat → ClassId) (ad : Nat → Nat) (Z g : Nat → Int32) (hs : Int64) (F : Nat → Nat → Int32) (b : Nat)   (hb4 : b < 4) : FMet l yX6_putOn cX6_putOn 2 (none : Option Jvm.ClassFile.FieldType) 1 23 D ct 8 ad [.ref (ad 0), .int (nI b)] (mdc ct ad Z g hs F) none (mdc ct ad (pon Z b) g hs F) := by
  refine FMet.of (by decide +kernel) (Nat.le_of_ble_eq_true rfl) ?_
  intro p e s m args below meth c ls hx hb hr hml hown hlocks htg hK hI hP hS hl
  have hl : lv_has ls 2 [(0, .ref (ad 0)), (1, .int (nI b))] := hl
  refine lv_aload_n hx hb dX6_putOn_0 rfl (lv_at hl 0 rfl) ?_
  refine lv_iload_n hx hb dX6_putOn_1 rfl (lv_at hl 1 rfl) ?_
  refine lv_iconst (v := nI 1) hx hb dX6_putOn_2 (by decide) ?_
  refine lv_iconst (v := nI 1) hx hb dX6_putOn_3 (by decide) ?_
  refine md_cV0 (As := [.int (nI b), .int (nI 1), .int (nI 1)]) (rest := []) hx hb hown htg hK hI hS hP hml hl.1 (m6_put l D ct ad _ _ _ _ b 1 (nI 1) (by omega) (by omega)) cw_X6_32 rfl rfl ⟨Nat.le_of_ble_eq_true rfl, Nat.le_of_ble_eq_true rfl⟩ (Nat.le_of_ble_eq_true rfl) dX6_putOn_4 ⟨Nat.le_refl _, Nat.le_refl _⟩ (fun H locs hP hS => ?_)
  refine lv_aload_n hx hb dX6_putOn_7 rfl (lv_at hl 0 rfl) ?_
  refine lv_iload_n hx hb dX6_putOn_8 rfl (lv_at hl 1 rfl) ?_
  refine lv_iconst (v := nI 2) hx hb dX6_putOn_9 (by decide) ?_
  refine lv_iconst (v := nI 0) hx hb dX6_putOn_10 (by decide) ?_
  refine md_cV0 (As := [.int (nI b), .int (nI 2), .int (nI 0)]) (rest := []) hx hb hown htg hK hI hS hP hml hl.1 (m6_put l D ct ad _ _ _ _ b 2 (nI 0) (by omega) (by omega)) cw_X6_32 rfl rfl ⟨Nat.le_of_ble_eq_true rfl, Nat.le_of_ble_eq_true rfl⟩ (Nat.le_of_ble_eq_true rfl) dX6_putOn_11 ⟨Nat.le_refl _, Nat.le_refl _⟩ (fun H locs hP hS => ?_)
  refine fr_vret hx hb hr hlocks hK hI hS dX6_putOn_14 ?_
  refine fP.eqc (congrArg (fun v9 => mdc ct ad v9 g hs F) (show (pon Z b) = (upd (upd Z (7 + 5 * b + 1) (nI 1)) (7 + 5 * b + 2) (nI 0)) from by rfl).symm) ?_
  exact hP
set_option maxRecDepth 100000 in
set_option maxHeartbeats 4000000 in
theorem m6_fee (l : Launch) (D : va_G) (ct : Nat → ClassId) (ad : Nat → Nat) (Z g : Nat → Int32) (hs : Int64) (F : Nat → Nat → Int32) (k : Nat)   (hk10 : k < 10) : FMet l yX6_fee cX6_fee 2 (some .int) 1 22 D ct 8 ad [.ref (ad 0), .int (nI k)] (mdc ct ad Z g hs F) (some (.int (feeI Z k))) (mdc ct ad Z g hs F) := by
  refine FMet.of (by decide +kernel) (Nat.le_of_ble_eq_true rfl) ?_
  intro p e s m args below meth c ls hx hb hr hml hown hlocks htg hK hI hP hS hl
  have hl : lv_has ls 2 [(0, .ref (ad 0)), (1, .int (nI k))] := hl
  refine lv_aload_n hx hb dX6_fee_0 rfl (lv_at hl 0 rfl) ?_
  refine lv_iload_n hx hb dX6_fee_1 rfl (lv_at hl 1 rfl) ?_
  refine lv_bipush (v := nI 6) hx hb dX6_fee_2 (by decide) ?_
  refine md_cVr (As := [.int (nI k), .int (nI 6)]) (rest := []) hx hb hown htg hK hI hS hP hml hl.1 (m6_of l D ct ad _ _ _ _ k 6 (by omega) (by omega)) cw_X6_47 rfl rfl ⟨Nat.le_of_ble_eq_true rfl, Nat.le_of_ble_eq_true rfl⟩ (Nat.le_of_ble_eq_true rfl) dX6_fee_4 ⟨Nat.le_refl _, Nat.le_refl _⟩ (fun H locs hP hS => ?_)
  refine lv_aload_n hx hb dX6_fee_7 rfl (lv_at hl 0 rfl) ?_
  refine md_g1 hx hb hown htg hK hP dX6_fee_8 ?_
  refine lv_iconst (v := nI 2) hx hb dX6_fee_11 (by decide) ?_
  refine md_l1 hx hb hK hP (by omega) dX6_fee_12 ?_
  refine lv_imul hx hb dX6_fee_13 ?_
  refine lv_bipush (v := nI 10) hx hb dX6_fee_14 (by decide) ?_
  refine lv_idiv hx hb dX6_fee_16 (by decide) ?_
  refine fr_iret hx hb hr hlocks hK hI hS rfl dX6_fee_17 ?_ ?_
  · rfl
  · exact hP
set_option maxRecDepth 100000 in
set_option maxHeartbeats 4000000 in
theorem m6_toldStall (l : Launch) (D : va_G) (ct : Nat → ClassId) (ad : Nat → Nat) (Z g : Nat → Int32) (hs : Int64) (F : Nat → Nat → Int32) (k : Nat) (w : Nat) (n : Nat)  (hw : zW Z n) (hkn : k < n) (hw10 : w < 10) : FMet l yX6_toldStall cX6_toldStall 3 (some .int) 3 67 D ct 8 ad [.ref (ad 0), .int (nI k), .int (nI w)] (mdc ct ad Z g hs F) (some (.int (tldS Z k w))) (mdc ct ad Z g hs F) := by
  refine FMet.of (by decide +kernel) (Nat.le_of_ble_eq_true rfl) ?_
  intro p e s m args below meth c ls hx hb hr hml hown hlocks htg hK hI hP hS hl
  have hl : lv_has ls 3 [(0, .ref (ad 0)), (1, .int (nI k)), (2, .int (nI w))] := hl
  have hn10 := hw.1
  refine lv_iload_n hx hb dX6_toldStall_0 rfl (lv_at hl 2 rfl) ?_
  refine lv_bipush (v := nI 8) hx hb dX6_toldStall_1 (by decide) ?_
  refine lv_icmp_geN (tgt := 15) hx hb (by omega) (by omega) dX6_toldStall_3 (by decide) (fun c3 => ?_) (fun c3 => ?_)
  · refine lv_iload_n hx hb dX6_toldStall_15 rfl (lv_at hl 2 rfl) ?_
    refine lv_bipush (v := nI 8) hx hb dX6_toldStall_16 (by decide) ?_
    refine lv_icmp_neN (tgt := 29) hx hb (by omega) (by omega) dX6_toldStall_18 (by decide) (fun c18 => ?_) (fun c18 => ?_)
    · refine lv_aload_n hx hb dX6_toldStall_29 rfl (lv_at hl 0 rfl) ?_
      refine lv_iload_n hx hb dX6_toldStall_30 rfl (lv_at hl 1 rfl) ?_
      refine md_cVr (As := [.int (nI k)]) (rest := []) hx hb hown htg hK hI hS hP hml hl.1 (m6_fee l D ct ad _ _ _ _ k (by omega)) cw_X6_163 rfl rfl ⟨Nat.le_of_ble_eq_true rfl, Nat.le_of_ble_eq_true rfl⟩ (Nat.le_of_ble_eq_true rfl) dX6_toldStall_31 ⟨Nat.le_refl _, Nat.le_refl _⟩ (fun H locs hP hS => ?_)
      refine fr_iret hx hb hr hlocks hK hI hS rfl dX6_toldStall_34 ?_ ?_
      · first | (exfalso; omega) | (simp only [tldS, c3, Nat.not_lt.mpr c3, c18, decide_true, decide_false, Bool.and_true, Bool.true_and, Bool.and_false, Bool.false_and, Bool.or_true, Bool.true_or, Bool.or_false, Bool.false_or, Bool.and_self, Bool.or_self, if_true, if_false, eq_self, Bool.false_eq_true, Bool.true_eq_false, reduceCtorEq, nI_0, not_true_eq_false, not_false_eq_true, and_true, true_and, and_false, false_and, or_true, true_or, or_false, false_or, and_self, or_self, Int32.add_zero]; done) | (simp [tldS, c3, Nat.not_lt.mpr c3, c18, nI_0]; done) | (simp only [tldS, c3, Nat.not_lt.mpr c3, c18, decide_true, decide_false, Bool.and_true, Bool.true_and, Bool.and_false, Bool.false_and, Bool.or_true, Bool.true_or, Bool.or_false, Bool.false_or, Bool.and_self, Bool.or_self, if_true, if_false, eq_self, Bool.false_eq_true, Bool.true_eq_false, reduceCtorEq, nI_0, not_true_eq_false, not_false_eq_true, and_true, true_and, and_false, false_and, or_true, true_or, or_false, false_or, and_self, or_self, Int32.add_zero]; omega) | (simp [tldS, c3, Nat.not_lt.mpr c3, c18, nI_0]; omega)
      · exact hP
    · refine lv_aload_n hx hb dX6_toldStall_21 rfl (lv_at hl 0 rfl) ?_
      refine lv_iload_n hx hb dX6_toldStall_22 rfl (lv_at hl 1 rfl) ?_
      refine md_cVr (As := [.int (nI k)]) (rest := []) hx hb hown htg hK hI hS hP hml hl.1 (m6_reason l D ct ad _ _ _ _ k n hw (by omega)) cw_X6_66 rfl rfl ⟨Nat.le_of_ble_eq_true rfl, Nat.le_of_ble_eq_true rfl⟩ (Nat.le_of_ble_eq_true rfl) dX6_toldStall_23 ⟨Nat.le_refl _, Nat.le_refl _⟩ (fun H locs hP hS => ?_)
      have hrl := @rsn_lt Z k
      refine lv_goto (tgt := 34) hx hb dX6_toldStall_26 (by decide) ?_
      refine fr_iret hx hb hr hlocks hK hI hS rfl dX6_toldStall_34 ?_ ?_
      · first | (exfalso; omega) | (simp only [tldS, c3, Nat.not_lt.mpr c3, c18, decide_true, decide_false, Bool.and_true, Bool.true_and, Bool.and_false, Bool.false_and, Bool.or_true, Bool.true_or, Bool.or_false, Bool.false_or, Bool.and_self, Bool.or_self, if_true, if_false, eq_self, Bool.false_eq_true, Bool.true_eq_false, reduceCtorEq, nI_0, not_true_eq_false, not_false_eq_true, and_true, true_and, and_false, false_and, or_true, true_or, or_false, false_or, and_self, or_self, Int32.add_zero]; done) | (simp [tldS, c3, Nat.not_lt.mpr c3, c18, nI_0]; done) | (simp only [tldS, c3, Nat.not_lt.mpr c3, c18, decide_true, decide_false, Bool.and_true, Bool.true_and, Bool.and_false, Bool.false_and, Bool.or_true, Bool.true_or, Bool.or_false, Bool.false_or, Bool.and_self, Bool.or_self, if_true, if_false, eq_self, Bool.false_eq_true, Bool.true_eq_false, reduceCtorEq, nI_0, not_true_eq_false, not_false_eq_true, and_true, true_and, and_false, false_and, or_true, true_or, or_false, false_or, and_self, or_self, Int32.add_zero]; omega) | (simp [tldS, c3, Nat.not_lt.mpr c3, c18, nI_0]; omega)
      · exact hP
  · refine lv_aload_n hx hb dX6_toldStall_6 rfl (lv_at hl 0 rfl) ?_
    refine lv_iload_n hx hb dX6_toldStall_7 rfl (lv_at hl 1 rfl) ?_
    refine lv_iload_n hx hb dX6_toldStall_8 rfl (lv_at hl 2 rfl) ?_
    refine md_cVr (As := [.int (nI k), .int (nI w)]) (rest := []) hx hb hown htg hK hI hS hP hml hl.1 (m6_of l D ct ad _ _ _ _ k w (by omega) (by omega)) cw_X6_47 rfl rfl ⟨Nat.le_of_ble_eq_true rfl, Nat.le_of_ble_eq_true rfl⟩ (Nat.le_of_ble_eq_true rfl) dX6_toldStall_9 ⟨Nat.le_refl _, Nat.le_refl _⟩ (fun H locs hP hS => ?_)
    refine lv_goto (tgt := 34) hx hb dX6_toldStall_12 (by decide) ?_
    refine fr_iret hx hb hr hlocks hK hI hS rfl dX6_toldStall_34 ?_ ?_
    · first | (exfalso; omega) | (simp only [tldS, c3, Nat.not_le.mpr c3, decide_true, decide_false, Bool.and_true, Bool.true_and, Bool.and_false, Bool.false_and, Bool.or_true, Bool.true_or, Bool.or_false, Bool.false_or, Bool.and_self, Bool.or_self, if_true, if_false, eq_self, Bool.false_eq_true, Bool.true_eq_false, reduceCtorEq, nI_0, not_true_eq_false, not_false_eq_true, and_true, true_and, and_false, false_and, or_true, true_or, or_false, false_or, and_self, or_self, Int32.add_zero]; done) | (simp [tldS, c3, Nat.not_le.mpr c3, nI_0]; done) | (simp only [tldS, c3, Nat.not_le.mpr c3, decide_true, decide_false, Bool.and_true, Bool.true_and, Bool.and_false, Bool.false_and, Bool.or_true, Bool.true_or, Bool.or_false, Bool.false_or, Bool.and_self, Bool.or_self, if_true, if_false, eq_self, Bool.false_eq_true, Bool.true_eq_false, reduceCtorEq, nI_0, not_true_eq_false, not_false_eq_true, and_true, true_and, and_false, false_and, or_true, true_or, or_false, false_or, and_self, or_self, Int32.add_zero]; omega) | (simp [tldS, c3, Nat.not_le.mpr c3, nI_0]; omega)
    · exact hP
set_option maxRecDepth 100000 in
set_option maxHeartbeats 4000000 in
theorem m6_allLoads (l : Launch) (D : va_G) (ct : Nat → ClassId) (ad : Nat → Nat) (Z g : Nat → Int32) (hs : Int64) (F : Nat → Nat → Int32) (b : Nat) (n : Nat)  (hw : zW Z n) (hb4 : b < 4) : FMet l yX6_allLoads cX6_allLoads 4 (some .int) 2 44 D ct 8 ad [.ref (ad 0), .int (nI b)] (mdc ct ad Z g hs F) (some (.int (allS Z b n))) (mdc ct ad Z g hs F) := by
  refine FMet.of (by decide +kernel) (Nat.le_of_ble_eq_true rfl) ?_
  intro p e s m args below meth c ls hx hb hr hml hown hlocks htg hK hI hP hS hl
  have hl : lv_has ls 4 [(0, .ref (ad 0)), (1, .int (nI b))] := hl
  have hn10 := hw.1
  refine lv_iconst (v := nI 0) hx hb dX6_allLoads_0 (by decide) ?_
  refine lv_istore_n (lv' := [(2, .int (nI 0)), (0, .ref (ad 0)), (1, .int (nI b))]) hx hb dX6_allLoads_1 rfl hl (by decide) rfl (fun ls hl => ?_)
  refine lv_iconst (v := nI 0) hx hb dX6_allLoads_2 (by decide) ?_
  refine lv_istore_n (lv' := [(3, .int (nI 0)), (2, .int (nI 0)), (0, .ref (ad 0)), (1, .int (nI b))]) hx hb dX6_allLoads_3 rfl hl (by decide) rfl (fun ls hl => ?_)
  have lp4 : ∀ (fu4 : Nat) (i : Nat), i ≤ n → n - i < fu4 → ∀ (H : Heap) (locs : List Loc), fP D 8 ad (mdc ct ad Z g hs F) H → va_S (fA 8 ad) s.heap H locs → ∀ (ls : Array Slot), lv_has ls 4 [(3, .int (nI i)), (2, .int (allS Z b i)), (0, .ref (ad 0)), (1, .int (nI b))] → W p l e ({ frames := 2, cells := 0, slots := 0, locals := 44 }) s m args below meth c H locs 0 0 (MQ below (fQ D ct 8 ad (some (.int (allS Z b n))) (mdc ct ad Z g hs F)) args s 0 0 (fA 8 ad)) (F0 m 4 ls []) := by
    intro fu4
    induction fu4 with
    | zero => intro i hi hfu4; exact absurd hfu4 (Nat.not_lt_zero _)
    | succ fu4 ih4 =>
      intro i hi hfu4 H locs hP hS ls hl
      refine lv_iload_n hx hb dX6_allLoads_4 rfl (lv_at hl 0 rfl) ?_
      refine lv_aload_n hx hb dX6_allLoads_5 rfl (lv_at hl 2 rfl) ?_
      refine md_g1 hx hb hown htg hK hP dX6_allLoads_6 ?_
      refine lv_iconst (v := nI 4) hx hb dX6_allLoads_9 (by decide) ?_
      refine md_l1 hx hb hK hP (by omega) dX6_allLoads_10 ?_
      refine lv_teq (hw).2.1 ?_
      refine lv_icmp_geN (tgt := 51) hx hb (by omega) (by omega) dX6_allLoads_11 (by decide) (fun c11 => ?_) (fun c11 => ?_)
      · have e9 : n = i := by omega
        subst e9
        refine lv_iload_n hx hb dX6_allLoads_51 rfl (lv_at hl 1 rfl) ?_
        refine fr_iret hx hb hr hlocks hK hI hS rfl dX6_allLoads_52 ?_ ?_
        · exact rfl
        · exact hP
      · refine lv_iload_n hx hb dX6_allLoads_14 rfl (lv_at hl 1 rfl) ?_
        refine lv_aload_n hx hb dX6_allLoads_15 rfl (lv_at hl 2 rfl) ?_
        refine lv_iload_n hx hb dX6_allLoads_16 rfl (lv_at hl 0 rfl) ?_
        refine lv_iload_n hx hb dX6_allLoads_17 rfl (lv_at hl 3 rfl) ?_
        refine md_cVr (As := [.int (nI i), .int (nI b)]) (rest := [.int (allS Z b i)]) hx hb hown htg hK hI hS hP hml hl.1 (m6_isOn l D ct ad _ _ _ _ i b n hw (by omega) (by omega)) cw_X6_62 rfl rfl ⟨Nat.le_of_ble_eq_true rfl, Nat.le_of_ble_eq_true rfl⟩ (Nat.le_of_ble_eq_true rfl) dX6_allLoads_18 ⟨Nat.le_refl _, Nat.le_refl _⟩ (fun H locs hP hS => ?_)
        refine lv_ifeqB (tgt := 42) hx hb dX6_allLoads_21 (by decide) (fun c21 => ?_) (fun c21 => ?_)
        · refine lv_iconst (v := nI 0) hx hb dX6_allLoads_42 (by decide) ?_
          refine lv_iadd hx hb dX6_allLoads_43 ?_
          refine lv_istore_n (lv' := [(2, .int ((allS Z b i) + (nI 0))), (3, .int (nI i)), (0, .ref (ad 0)), (1, .int (nI b))]) hx hb dX6_allLoads_44 rfl hl (by decide) rfl (fun ls hl => ?_)
          refine lv_iinc (v := nI (i + 1)) (lv' := [(3, .int (nI (i + 1))), (2, .int ((allS Z b i) + (nI 0))), (0, .ref (ad 0)), (1, .int (nI b))]) hx hb dX6_allLoads_45 hl (k := 1) rfl (nI_add i 1) (by decide) rfl (fun ls hl => ?_)
          refine lv_goto (tgt := 4) hx hb dX6_allLoads_48 (by decide) ?_
          have hl := lv_sub (l' := [(3, .int (nI (i + 1))), (2, .int ((allS Z b i) + (nI 0))), (0, .ref (ad 0)), (1, .int (nI b))]) hl [0, 1, 2, 3] rfl
          have e2 : Value.int ((allS Z b i) + (nI 0)) = Value.int (allS Z b (i + 1)) := by first | (exfalso; omega) | (simp only [allS, c11, Nat.not_le.mpr c11, c21, decide_true, decide_false, Bool.and_true, Bool.true_and, Bool.and_false, Bool.false_and, Bool.or_true, Bool.true_or, Bool.or_false, Bool.false_or, Bool.and_self, Bool.or_self, if_true, if_false, eq_self, Bool.false_eq_true, Bool.true_eq_false, reduceCtorEq, nI_0, not_true_eq_false, not_false_eq_true, and_true, true_and, and_false, false_and, or_true, true_or, or_false, false_or, and_self, or_self, Int32.add_zero]; done) | (simp [allS, c11, Nat.not_le.mpr c11, c21, nI_0]; done) | (simp only [allS, c11, Nat.not_le.mpr c11, c21, decide_true, decide_false, Bool.and_true, Bool.true_and, Bool.and_false, Bool.false_and, Bool.or_true, Bool.true_or, Bool.or_false, Bool.false_or, Bool.and_self, Bool.or_self, if_true, if_false, eq_self, Bool.false_eq_true, Bool.true_eq_false, reduceCtorEq, nI_0, not_true_eq_false, not_false_eq_true, and_true, true_and, and_false, false_and, or_true, true_or, or_false, false_or, and_self, or_self, Int32.add_zero]; omega) | (simp [allS, c11, Nat.not_le.mpr c11, c21, nI_0]; omega)
          have hl := lv_hasE hl (lcons rfl (lcons e2 (lcons rfl (lcons rfl rfl))))
          exact ih4 (i + 1) (by omega) (by omega) _ _ hP hS _ hl
        · refine lv_aload_n hx hb dX6_allLoads_24 rfl (lv_at hl 2 rfl) ?_
          refine lv_iload_n hx hb dX6_allLoads_25 rfl (lv_at hl 0 rfl) ?_
          refine lv_iconst (v := nI 5) hx hb dX6_allLoads_26 (by decide) ?_
          refine md_cVr (As := [.int (nI i), .int (nI 5)]) (rest := [.int (allS Z b i)]) hx hb hown htg hK hI hS hP hml hl.1 (m6_of l D ct ad _ _ _ _ i 5 (by omega) (by omega)) cw_X6_47 rfl rfl ⟨Nat.le_of_ble_eq_true rfl, Nat.le_of_ble_eq_true rfl⟩ (Nat.le_of_ble_eq_true rfl) dX6_allLoads_27 ⟨Nat.le_refl _, Nat.le_refl _⟩ (fun H locs hP hS => ?_)
          refine lv_if_ne (tgt := 42) hx hb dX6_allLoads_30 (by decide) (fun c30 => ?_) (fun c30 => ?_)
          · refine lv_iconst (v := nI 0) hx hb dX6_allLoads_42 (by decide) ?_
            refine lv_iadd hx hb dX6_allLoads_43 ?_
            refine lv_istore_n (lv' := [(2, .int ((allS Z b i) + (nI 0))), (3, .int (nI i)), (0, .ref (ad 0)), (1, .int (nI b))]) hx hb dX6_allLoads_44 rfl hl (by decide) rfl (fun ls hl => ?_)
            refine lv_iinc (v := nI (i + 1)) (lv' := [(3, .int (nI (i + 1))), (2, .int ((allS Z b i) + (nI 0))), (0, .ref (ad 0)), (1, .int (nI b))]) hx hb dX6_allLoads_45 hl (k := 1) rfl (nI_add i 1) (by decide) rfl (fun ls hl => ?_)
            refine lv_goto (tgt := 4) hx hb dX6_allLoads_48 (by decide) ?_
            have hl := lv_sub (l' := [(3, .int (nI (i + 1))), (2, .int ((allS Z b i) + (nI 0))), (0, .ref (ad 0)), (1, .int (nI b))]) hl [0, 1, 2, 3] rfl
            have e2 : Value.int ((allS Z b i) + (nI 0)) = Value.int (allS Z b (i + 1)) := by first | (exfalso; omega) | (simp only [allS, c11, Nat.not_le.mpr c11, c21, c30, decide_true, decide_false, Bool.and_true, Bool.true_and, Bool.and_false, Bool.false_and, Bool.or_true, Bool.true_or, Bool.or_false, Bool.false_or, Bool.and_self, Bool.or_self, if_true, if_false, eq_self, Bool.false_eq_true, Bool.true_eq_false, reduceCtorEq, nI_0, not_true_eq_false, not_false_eq_true, and_true, true_and, and_false, false_and, or_true, true_or, or_false, false_or, and_self, or_self, Int32.add_zero]; done) | (simp [allS, c11, Nat.not_le.mpr c11, c21, c30, nI_0]; done) | (simp only [allS, c11, Nat.not_le.mpr c11, c21, c30, decide_true, decide_false, Bool.and_true, Bool.true_and, Bool.and_false, Bool.false_and, Bool.or_true, Bool.true_or, Bool.or_false, Bool.false_or, Bool.and_self, Bool.or_self, if_true, if_false, eq_self, Bool.false_eq_true, Bool.true_eq_false, reduceCtorEq, nI_0, not_true_eq_false, not_false_eq_true, and_true, true_and, and_false, false_and, or_true, true_or, or_false, false_or, and_self, or_self, Int32.add_zero]; omega) | (simp [allS, c11, Nat.not_le.mpr c11, c21, c30, nI_0]; omega)
            have hl := lv_hasE hl (lcons rfl (lcons e2 (lcons rfl (lcons rfl rfl))))
            exact ih4 (i + 1) (by omega) (by omega) _ _ hP hS _ hl
          · refine lv_aload_n hx hb dX6_allLoads_33 rfl (lv_at hl 2 rfl) ?_
            refine lv_iload_n hx hb dX6_allLoads_34 rfl (lv_at hl 0 rfl) ?_
            refine lv_iconst (v := nI 0) hx hb dX6_allLoads_35 (by decide) ?_
            refine md_cVr (As := [.int (nI i), .int (nI 0)]) (rest := [.int (allS Z b i)]) hx hb hown htg hK hI hS hP hml hl.1 (m6_of l D ct ad _ _ _ _ i 0 (by omega) (by omega)) cw_X6_47 rfl rfl ⟨Nat.le_of_ble_eq_true rfl, Nat.le_of_ble_eq_true rfl⟩ (Nat.le_of_ble_eq_true rfl) dX6_allLoads_36 ⟨Nat.le_refl _, Nat.le_refl _⟩ (fun H locs hP hS => ?_)
            refine lv_goto (tgt := 43) hx hb dX6_allLoads_39 (by decide) ?_
            refine lv_iadd hx hb dX6_allLoads_43 ?_
            refine lv_istore_n (lv' := [(2, .int ((allS Z b i) + (Z (39 + 8 * i + 0)))), (3, .int (nI i)), (0, .ref (ad 0)), (1, .int (nI b))]) hx hb dX6_allLoads_44 rfl hl (by decide) rfl (fun ls hl => ?_)
            refine lv_iinc (v := nI (i + 1)) (lv' := [(3, .int (nI (i + 1))), (2, .int ((allS Z b i) + (Z (39 + 8 * i + 0)))), (0, .ref (ad 0)), (1, .int (nI b))]) hx hb dX6_allLoads_45 hl (k := 1) rfl (nI_add i 1) (by decide) rfl (fun ls hl => ?_)
            refine lv_goto (tgt := 4) hx hb dX6_allLoads_48 (by decide) ?_
            have hl := lv_sub (l' := [(3, .int (nI (i + 1))), (2, .int ((allS Z b i) + (Z (39 + 8 * i + 0)))), (0, .ref (ad 0)), (1, .int (nI b))]) hl [0, 1, 2, 3] rfl
            have e2 : Value.int ((allS Z b i) + (Z (39 + 8 * i + 0))) = Value.int (allS Z b (i + 1)) := by first | (exfalso; omega) | (simp only [allS, c11, Nat.not_le.mpr c11, c21, c30, decide_true, decide_false, Bool.and_true, Bool.true_and, Bool.and_false, Bool.false_and, Bool.or_true, Bool.true_or, Bool.or_false, Bool.false_or, Bool.and_self, Bool.or_self, if_true, if_false, eq_self, Bool.false_eq_true, Bool.true_eq_false, reduceCtorEq, nI_0, not_true_eq_false, not_false_eq_true, and_true, true_and, and_false, false_and, or_true, true_or, or_false, false_or, and_self, or_self, Int32.add_zero]; done) | (simp [allS, c11, Nat.not_le.mpr c11, c21, c30, nI_0]; done) | (simp only [allS, c11, Nat.not_le.mpr c11, c21, c30, decide_true, decide_false, Bool.and_true, Bool.true_and, Bool.and_false, Bool.false_and, Bool.or_true, Bool.true_or, Bool.or_false, Bool.false_or, Bool.and_self, Bool.or_self, if_true, if_false, eq_self, Bool.false_eq_true, Bool.true_eq_false, reduceCtorEq, nI_0, not_true_eq_false, not_false_eq_true, and_true, true_and, and_false, false_and, or_true, true_or, or_false, false_or, and_self, or_self, Int32.add_zero]; omega) | (simp [allS, c11, Nat.not_le.mpr c11, c21, c30, nI_0]; omega)
            have hl := lv_hasE hl (lcons rfl (lcons e2 (lcons rfl (lcons rfl rfl))))
            exact ih4 (i + 1) (by omega) (by omega) _ _ hP hS _ hl
  have hl := lv_sub (l' := [(3, .int (nI 0)), (2, .int (nI 0)), (0, .ref (ad 0)), (1, .int (nI b))]) hl [0, 1, 2, 3] rfl
  have e2 : Value.int (nI 0) = Value.int (allS Z b 0) := by rfl
  have hl := lv_hasE hl (lcons rfl (lcons e2 (lcons rfl (lcons rfl rfl))))
  exact lp4 (n - 0 + 1) 0 (by omega) (Nat.lt_succ_self _) _ _ hP hS _ hl
set_option maxRecDepth 100000 in
set_option maxHeartbeats 4000000 in
theorem m6_toldBreaker (l : Launch) (D : va_G) (ct : Nat → ClassId) (ad : Nat → Nat) (Z g : Nat → Int32) (hs : Int64) (F : Nat → Nat → Int32) (b : Nat) (w : Nat) (n : Nat)  (hw : zW Z n) (hb4 : b < 4) (hw7 : w < 7) : FMet l yX6_toldBreaker cX6_toldBreaker 3 (some .int) 4 90 D ct 8 ad [.ref (ad 0), .int (nI b), .int (nI w)] (mdc ct ad Z g hs F) (some (.int (tldB Z b n w))) (mdc ct ad Z g hs F) := by
  refine FMet.of (by decide +kernel) (Nat.le_of_ble_eq_true rfl) ?_
  intro p e s m args below meth c ls hx hb hr hml hown hlocks htg hK hI hP hS hl
  have hl : lv_has ls 3 [(0, .ref (ad 0)), (1, .int (nI b)), (2, .int (nI w))] := hl
  have hn10 := hw.1
  rcases (show w = 0 ∨ w = 1 ∨ w = 2 ∨ w = 3 ∨ w = 4 ∨ w = 5 ∨ w = 6 from by omega) with rfl | rfl | rfl | rfl | rfl | rfl | rfl
  · refine lv_iload_n hx hb dX6_toldBreaker_0 rfl (lv_at hl 2 rfl) ?_
    refine lv_tableOut (tgt := 53) hx hb dX6_toldBreaker_1 (by decide) (by decide) ?_
    refine lv_aload_n hx hb dX6_toldBreaker_53 rfl (lv_at hl 0 rfl) ?_
    refine lv_iload_n hx hb dX6_toldBreaker_54 rfl (lv_at hl 1 rfl) ?_
    refine lv_iload_n hx hb dX6_toldBreaker_55 rfl (lv_at hl 2 rfl) ?_
    refine md_cVr (As := [.int (nI b), .int (nI 0)]) (rest := []) hx hb hown htg hK hI hS hP hml hl.1 (m6_by l D ct ad _ _ _ _ b 0 (by omega) (by omega)) cw_X6_59 rfl rfl ⟨Nat.le_of_ble_eq_true rfl, Nat.le_of_ble_eq_true rfl⟩ (Nat.le_of_ble_eq_true rfl) dX6_toldBreaker_56 ⟨Nat.le_refl _, Nat.le_refl _⟩ (fun H locs hP hS => ?_)
    refine fr_iret hx hb hr hlocks hK hI hS rfl dX6_toldBreaker_59 ?_ ?_
    · rfl
    · exact hP
  · refine lv_iload_n hx hb dX6_toldBreaker_0 rfl (lv_at hl 2 rfl) ?_
    refine lv_tableOut (tgt := 53) hx hb dX6_toldBreaker_1 (by decide) (by decide) ?_
    refine lv_aload_n hx hb dX6_toldBreaker_53 rfl (lv_at hl 0 rfl) ?_
    refine lv_iload_n hx hb dX6_toldBreaker_54 rfl (lv_at hl 1 rfl) ?_
    refine lv_iload_n hx hb dX6_toldBreaker_55 rfl (lv_at hl 2 rfl) ?_
    refine md_cVr (As := [.int (nI b), .int (nI 1)]) (rest := []) hx hb hown htg hK hI hS hP hml hl.1 (m6_by l D ct ad _ _ _ _ b 1 (by omega) (by omega)) cw_X6_59 rfl rfl ⟨Nat.le_of_ble_eq_true rfl, Nat.le_of_ble_eq_true rfl⟩ (Nat.le_of_ble_eq_true rfl) dX6_toldBreaker_56 ⟨Nat.le_refl _, Nat.le_refl _⟩ (fun H locs hP hS => ?_)
    refine fr_iret hx hb hr hlocks hK hI hS rfl dX6_toldBreaker_59 ?_ ?_
    · rfl
    · exact hP
  · refine lv_iload_n hx hb dX6_toldBreaker_0 rfl (lv_at hl 2 rfl) ?_
    refine lv_tableOut (tgt := 53) hx hb dX6_toldBreaker_1 (by decide) (by decide) ?_
    refine lv_aload_n hx hb dX6_toldBreaker_53 rfl (lv_at hl 0 rfl) ?_
    refine lv_iload_n hx hb dX6_toldBreaker_54 rfl (lv_at hl 1 rfl) ?_
    refine lv_iload_n hx hb dX6_toldBreaker_55 rfl (lv_at hl 2 rfl) ?_
    refine md_cVr (As := [.int (nI b), .int (nI 2)]) (rest := []) hx hb hown htg hK hI hS hP hml hl.1 (m6_by l D ct ad _ _ _ _ b 2 (by omega) (by omega)) cw_X6_59 rfl rfl ⟨Nat.le_of_ble_eq_true rfl, Nat.le_of_ble_eq_true rfl⟩ (Nat.le_of_ble_eq_true rfl) dX6_toldBreaker_56 ⟨Nat.le_refl _, Nat.le_refl _⟩ (fun H locs hP hS => ?_)
    refine fr_iret hx hb hr hlocks hK hI hS rfl dX6_toldBreaker_59 ?_ ?_
    · rfl
    · exact hP
  · refine lv_iload_n hx hb dX6_toldBreaker_0 rfl (lv_at hl 2 rfl) ?_
    refine lv_tableIn (tgt := 32) hx hb dX6_toldBreaker_1 (by decide) (by decide) rfl (by decide) ?_
    refine lv_aload_n hx hb dX6_toldBreaker_32 rfl (lv_at hl 0 rfl) ?_
    refine lv_iload_n hx hb dX6_toldBreaker_33 rfl (lv_at hl 1 rfl) ?_
    refine md_cVr (As := [.int (nI b)]) (rest := []) hx hb hown htg hK hI hS hP hml hl.1 (m6_carried l D ct ad _ _ _ _ b n hw (by omega)) cw_X6_72 rfl rfl ⟨Nat.le_of_ble_eq_true rfl, Nat.le_of_ble_eq_true rfl⟩ (Nat.le_of_ble_eq_true rfl) dX6_toldBreaker_34 ⟨Nat.le_refl _, Nat.le_refl _⟩ (fun H locs hP hS => ?_)
    refine fr_iret hx hb hr hlocks hK hI hS rfl dX6_toldBreaker_37 ?_ ?_
    · rfl
    · exact hP
  · refine lv_iload_n hx hb dX6_toldBreaker_0 rfl (lv_at hl 2 rfl) ?_
    refine lv_tableIn (tgt := 38) hx hb dX6_toldBreaker_1 (by decide) (by decide) rfl (by decide) ?_
    refine lv_aload_n hx hb dX6_toldBreaker_38 rfl (lv_at hl 0 rfl) ?_
    refine lv_iload_n hx hb dX6_toldBreaker_39 rfl (lv_at hl 1 rfl) ?_
    refine md_cVr (As := [.int (nI b)]) (rest := []) hx hb hown htg hK hI hS hP hml hl.1 (m6_allLoads l D ct ad _ _ _ _ b n hw (by omega)) cw_X6_169 rfl rfl ⟨Nat.le_of_ble_eq_true rfl, Nat.le_of_ble_eq_true rfl⟩ (Nat.le_of_ble_eq_true rfl) dX6_toldBreaker_40 ⟨Nat.le_refl _, Nat.le_refl _⟩ (fun H locs hP hS => ?_)
    refine fr_iret hx hb hr hlocks hK hI hS rfl dX6_toldBreaker_43 ?_ ?_
    · rfl
    · exact hP
  · refine lv_iload_n hx hb dX6_toldBreaker_0 rfl (lv_at hl 2 rfl) ?_
    refine lv_tableIn (tgt := 44) hx hb dX6_toldBreaker_1 (by decide) (by decide) rfl (by decide) ?_
    refine lv_aload_n hx hb dX6_toldBreaker_44 rfl (lv_at hl 0 rfl) ?_
    refine lv_iload_n hx hb dX6_toldBreaker_45 rfl (lv_at hl 1 rfl) ?_
    refine lv_iload_n hx hb dX6_toldBreaker_46 rfl (lv_at hl 2 rfl) ?_
    refine lv_iconst (v := nI 2) hx hb dX6_toldBreaker_47 (by decide) ?_
    refine lv_isubN hx hb (by decide) dX6_toldBreaker_48 ?_
    refine lv_teq (show nI (5 - 2) = nI 3 from rfl) ?_
    refine md_cVr (As := [.int (nI b), .int (nI 3)]) (rest := []) hx hb hown htg hK hI hS hP hml hl.1 (m6_by l D ct ad _ _ _ _ b 3 (by omega) (by omega)) cw_X6_59 rfl rfl ⟨Nat.le_of_ble_eq_true rfl, Nat.le_of_ble_eq_true rfl⟩ (Nat.le_of_ble_eq_true rfl) dX6_toldBreaker_49 ⟨Nat.le_refl _, Nat.le_refl _⟩ (fun H locs hP hS => ?_)
    refine fr_iret hx hb hr hlocks hK hI hS rfl dX6_toldBreaker_52 ?_ ?_
    · rfl
    · exact hP
  · refine lv_iload_n hx hb dX6_toldBreaker_0 rfl (lv_at hl 2 rfl) ?_
    refine lv_tableIn (tgt := 44) hx hb dX6_toldBreaker_1 (by decide) (by decide) rfl (by decide) ?_
    refine lv_aload_n hx hb dX6_toldBreaker_44 rfl (lv_at hl 0 rfl) ?_
    refine lv_iload_n hx hb dX6_toldBreaker_45 rfl (lv_at hl 1 rfl) ?_
    refine lv_iload_n hx hb dX6_toldBreaker_46 rfl (lv_at hl 2 rfl) ?_
    refine lv_iconst (v := nI 2) hx hb dX6_toldBreaker_47 (by decide) ?_
    refine lv_isubN hx hb (by decide) dX6_toldBreaker_48 ?_
    refine lv_teq (show nI (6 - 2) = nI 4 from rfl) ?_
    refine md_cVr (As := [.int (nI b), .int (nI 4)]) (rest := []) hx hb hown htg hK hI hS hP hml hl.1 (m6_by l D ct ad _ _ _ _ b 4 (by omega) (by omega)) cw_X6_59 rfl rfl ⟨Nat.le_of_ble_eq_true rfl, Nat.le_of_ble_eq_true rfl⟩ (Nat.le_of_ble_eq_true rfl) dX6_toldBreaker_49 ⟨Nat.le_refl _, Nat.le_refl _⟩ (fun H locs hP hS => ?_)
    refine fr_iret hx hb hr hlocks hK hI hS rfl dX6_toldBreaker_52 ?_ ?_
    · rfl
    · exact hP
set_option maxRecDepth 100000 in
set_option maxHeartbeats 4000000 in
theorem m6_allStalls (l : Launch) (D : va_G) (ct : Nat → ClassId) (ad : Nat → Nat) (Z g : Nat → Int32) (hs : Int64) (F : Nat → Nat → Int32) (w : Nat) (n : Nat)  (hw : zW Z n) (hw10 : w < 10) : FMet l yX6_allStalls cX6_allStalls 4 (some .int) 4 89 D ct 8 ad [.ref (ad 0), .int (nI w)] (mdc ct ad Z g hs F) (some (.int (sumS Z w n))) (mdc ct ad Z g hs F) := by
  refine FMet.of (by decide +kernel) (Nat.le_of_ble_eq_true rfl) ?_
  intro p e s m args below meth c ls hx hb hr hml hown hlocks htg hK hI hP hS hl
  have hl : lv_has ls 4 [(0, .ref (ad 0)), (1, .int (nI w))] := hl
  have hn10 := hw.1
  refine lv_iconst (v := nI 0) hx hb dX6_allStalls_0 (by decide) ?_
  refine lv_istore_n (lv' := [(2, .int (nI 0)), (0, .ref (ad 0)), (1, .int (nI w))]) hx hb dX6_allStalls_1 rfl hl (by decide) rfl (fun ls hl => ?_)
  refine lv_iconst (v := nI 0) hx hb dX6_allStalls_2 (by decide) ?_
  refine lv_istore_n (lv' := [(3, .int (nI 0)), (2, .int (nI 0)), (0, .ref (ad 0)), (1, .int (nI w))]) hx hb dX6_allStalls_3 rfl hl (by decide) rfl (fun ls hl => ?_)
  have lp4 : ∀ (fu4 : Nat) (i : Nat), i ≤ n → n - i < fu4 → ∀ (H : Heap) (locs : List Loc), fP D 8 ad (mdc ct ad Z g hs F) H → va_S (fA 8 ad) s.heap H locs → ∀ (ls : Array Slot), lv_has ls 4 [(3, .int (nI i)), (2, .int (sumS Z w i)), (0, .ref (ad 0)), (1, .int (nI w))] → W p l e ({ frames := 4, cells := 0, slots := 0, locals := 89 }) s m args below meth c H locs 0 0 (MQ below (fQ D ct 8 ad (some (.int (sumS Z w n))) (mdc ct ad Z g hs F)) args s 0 0 (fA 8 ad)) (F0 m 4 ls []) := by
    intro fu4
    induction fu4 with
    | zero => intro i hi hfu4; exact absurd hfu4 (Nat.not_lt_zero _)
    | succ fu4 ih4 =>
      intro i hi hfu4 H locs hP hS ls hl
      refine lv_iload_n hx hb dX6_allStalls_4 rfl (lv_at hl 0 rfl) ?_
      refine lv_aload_n hx hb dX6_allStalls_5 rfl (lv_at hl 2 rfl) ?_
      refine md_g1 hx hb hown htg hK hP dX6_allStalls_6 ?_
      refine lv_iconst (v := nI 4) hx hb dX6_allStalls_9 (by decide) ?_
      refine md_l1 hx hb hK hP (by omega) dX6_allStalls_10 ?_
      refine lv_teq (hw).2.1 ?_
      refine lv_icmp_geN (tgt := 29) hx hb (by omega) (by omega) dX6_allStalls_11 (by decide) (fun c11 => ?_) (fun c11 => ?_)
      · have e9 : n = i := by omega
        subst e9
        refine lv_iload_n hx hb dX6_allStalls_29 rfl (lv_at hl 1 rfl) ?_
        refine fr_iret hx hb hr hlocks hK hI hS rfl dX6_allStalls_30 ?_ ?_
        · exact rfl
        · exact hP
      · refine lv_iload_n hx hb dX6_allStalls_14 rfl (lv_at hl 1 rfl) ?_
        refine lv_aload_n hx hb dX6_allStalls_15 rfl (lv_at hl 2 rfl) ?_
        refine lv_iload_n hx hb dX6_allStalls_16 rfl (lv_at hl 0 rfl) ?_
        refine lv_iload_n hx hb dX6_allStalls_17 rfl (lv_at hl 3 rfl) ?_
        refine md_cVr (As := [.int (nI i), .int (nI w)]) (rest := [.int (sumS Z w i)]) hx hb hown htg hK hI hS hP hml hl.1 (m6_toldStall l D ct ad _ _ _ _ i w n hw (by omega) (by omega)) cw_X6_166 rfl rfl ⟨Nat.le_of_ble_eq_true rfl, Nat.le_of_ble_eq_true rfl⟩ (Nat.le_of_ble_eq_true rfl) dX6_allStalls_18 ⟨Nat.le_refl _, Nat.le_refl _⟩ (fun H locs hP hS => ?_)
        refine lv_iadd hx hb dX6_allStalls_21 ?_
        refine lv_istore_n (lv' := [(2, .int ((sumS Z w i) + (tldS Z i w))), (3, .int (nI i)), (0, .ref (ad 0)), (1, .int (nI w))]) hx hb dX6_allStalls_22 rfl hl (by decide) rfl (fun ls hl => ?_)
        refine lv_iinc (v := nI (i + 1)) (lv' := [(3, .int (nI (i + 1))), (2, .int ((sumS Z w i) + (tldS Z i w))), (0, .ref (ad 0)), (1, .int (nI w))]) hx hb dX6_allStalls_23 hl (k := 1) rfl (nI_add i 1) (by decide) rfl (fun ls hl => ?_)
        refine lv_goto (tgt := 4) hx hb dX6_allStalls_26 (by decide) ?_
        have hl := lv_sub (l' := [(3, .int (nI (i + 1))), (2, .int ((sumS Z w i) + (tldS Z i w))), (0, .ref (ad 0)), (1, .int (nI w))]) hl [0, 1, 2, 3] rfl
        have e2 : Value.int ((sumS Z w i) + (tldS Z i w)) = Value.int (sumS Z w (i + 1)) := by rfl
        have hl := lv_hasE hl (lcons rfl (lcons e2 (lcons rfl (lcons rfl rfl))))
        exact ih4 (i + 1) (by omega) (by omega) _ _ hP hS _ hl
  have hl := lv_sub (l' := [(3, .int (nI 0)), (2, .int (nI 0)), (0, .ref (ad 0)), (1, .int (nI w))]) hl [0, 1, 2, 3] rfl
  have e2 : Value.int (nI 0) = Value.int (sumS Z w 0) := by rfl
  have hl := lv_hasE hl (lcons rfl (lcons e2 (lcons rfl (lcons rfl rfl))))
  exact lp4 (n - 0 + 1) 0 (by omega) (Nat.lt_succ_self _) _ _ hP hS _ hl
set_option maxRecDepth 100000 in
set_option maxHeartbeats 4000000 in
theorem m6_allBreakers (l : Launch) (D : va_G) (ct : Nat → ClassId) (ad : Nat → Nat) (Z g : Nat → Int32) (hs : Int64) (F : Nat → Nat → Int32) (w : Nat)   (hw5 : w < 5) : FMet l yX6_allBreakers cX6_allBreakers 4 (some .int) 1 22 D ct 8 ad [.ref (ad 0), .int (nI w)] (mdc ct ad Z g hs F) (some (.int (sumB Z w 4))) (mdc ct ad Z g hs F) := by
  refine FMet.of (by decide +kernel) (Nat.le_of_ble_eq_true rfl) ?_
  intro p e s m args below meth c ls hx hb hr hml hown hlocks htg hK hI hP hS hl
  have hl : lv_has ls 4 [(0, .ref (ad 0)), (1, .int (nI w))] := hl
  refine lv_iconst (v := nI 0) hx hb dX6_allBreakers_0 (by decide) ?_
  refine lv_istore_n (lv' := [(2, .int (nI 0)), (0, .ref (ad 0)), (1, .int (nI w))]) hx hb dX6_allBreakers_1 rfl hl (by decide) rfl (fun ls hl => ?_)
  refine lv_iconst (v := nI 0) hx hb dX6_allBreakers_2 (by decide) ?_
  refine lv_istore_n (lv' := [(3, .int (nI 0)), (2, .int (nI 0)), (0, .ref (ad 0)), (1, .int (nI w))]) hx hb dX6_allBreakers_3 rfl hl (by decide) rfl (fun ls hl => ?_)
  have lp4 : ∀ (fu4 : Nat) (i : Nat), i ≤ 4 → 4 - i < fu4 → ∀ (H : Heap) (locs : List Loc), fP D 8 ad (mdc ct ad Z g hs F) H → va_S (fA 8 ad) s.heap H locs → ∀ (ls : Array Slot), lv_has ls 4 [(3, .int (nI i)), (2, .int (sumB Z w i)), (0, .ref (ad 0)), (1, .int (nI w))] → W p l e ({ frames := 1, cells := 0, slots := 0, locals := 22 }) s m args below meth c H locs 0 0 (MQ below (fQ D ct 8 ad (some (.int (sumB Z w 4))) (mdc ct ad Z g hs F)) args s 0 0 (fA 8 ad)) (F0 m 4 ls []) := by
    intro fu4
    induction fu4 with
    | zero => intro i hi hfu4; exact absurd hfu4 (Nat.not_lt_zero _)
    | succ fu4 ih4 =>
      intro i hi hfu4 H locs hP hS ls hl
      refine lv_iload_n hx hb dX6_allBreakers_4 rfl (lv_at hl 0 rfl) ?_
      refine lv_iconst (v := nI 4) hx hb dX6_allBreakers_5 (by decide) ?_
      refine lv_icmp_geN (tgt := 24) hx hb (by omega) (by omega) dX6_allBreakers_6 (by decide) (fun c6 => ?_) (fun c6 => ?_)
      · obtain rfl : i = 4 := by omega
        refine lv_iload_n hx hb dX6_allBreakers_24 rfl (lv_at hl 1 rfl) ?_
        refine fr_iret hx hb hr hlocks hK hI hS rfl dX6_allBreakers_25 ?_ ?_
        · exact rfl
        · exact hP
      · refine lv_iload_n hx hb dX6_allBreakers_9 rfl (lv_at hl 1 rfl) ?_
        refine lv_aload_n hx hb dX6_allBreakers_10 rfl (lv_at hl 2 rfl) ?_
        refine lv_iload_n hx hb dX6_allBreakers_11 rfl (lv_at hl 0 rfl) ?_
        refine lv_iload_n hx hb dX6_allBreakers_12 rfl (lv_at hl 3 rfl) ?_
        refine md_cVr (As := [.int (nI i), .int (nI w)]) (rest := [.int (sumB Z w i)]) hx hb hown htg hK hI hS hP hml hl.1 (m6_by l D ct ad _ _ _ _ i w (by omega) (by omega)) cw_X6_59 rfl rfl ⟨Nat.le_of_ble_eq_true rfl, Nat.le_of_ble_eq_true rfl⟩ (Nat.le_of_ble_eq_true rfl) dX6_allBreakers_13 ⟨Nat.le_refl _, Nat.le_refl _⟩ (fun H locs hP hS => ?_)
        refine lv_iadd hx hb dX6_allBreakers_16 ?_
        refine lv_istore_n (lv' := [(2, .int ((sumB Z w i) + (Z (7 + 5 * i + w)))), (3, .int (nI i)), (0, .ref (ad 0)), (1, .int (nI w))]) hx hb dX6_allBreakers_17 rfl hl (by decide) rfl (fun ls hl => ?_)
        refine lv_iinc (v := nI (i + 1)) (lv' := [(3, .int (nI (i + 1))), (2, .int ((sumB Z w i) + (Z (7 + 5 * i + w)))), (0, .ref (ad 0)), (1, .int (nI w))]) hx hb dX6_allBreakers_18 hl (k := 1) rfl (nI_add i 1) (by decide) rfl (fun ls hl => ?_)
        refine lv_goto (tgt := 4) hx hb dX6_allBreakers_21 (by decide) ?_
        have hl := lv_sub (l' := [(3, .int (nI (i + 1))), (2, .int ((sumB Z w i) + (Z (7 + 5 * i + w)))), (0, .ref (ad 0)), (1, .int (nI w))]) hl [0, 1, 2, 3] rfl
        have e2 : Value.int ((sumB Z w i) + (Z (7 + 5 * i + w))) = Value.int (sumB Z w (i + 1)) := by rfl
        have hl := lv_hasE hl (lcons rfl (lcons e2 (lcons rfl (lcons rfl rfl))))
        exact ih4 (i + 1) (by omega) (by omega) _ _ hP hS _ hl
  have hl := lv_sub (l' := [(3, .int (nI 0)), (2, .int (nI 0)), (0, .ref (ad 0)), (1, .int (nI w))]) hl [0, 1, 2, 3] rfl
  have e2 : Value.int (nI 0) = Value.int (sumB Z w 0) := by rfl
  have hl := lv_hasE hl (lcons rfl (lcons e2 (lcons rfl (lcons rfl rfl))))
  exact lp4 (4 - 0 + 1) 0 (by omega) (Nat.lt_succ_self _) _ _ hP hS _ hl
set_option maxRecDepth 100000 in
set_option maxHeartbeats 4000000 in
theorem m6_plugged (l : Launch) (D : va_G) (ct : Nat → ClassId) (ad : Nat → Nat) (Z g : Nat → Int32) (hs : Int64) (F : Nat → Nat → Int32)  (n : Nat)  (hw : zW Z n) : FMet l yX6_plugged cX6_plugged 3 (some .int) 1 22 D ct 8 ad [.ref (ad 0)] (mdc ct ad Z g hs F) (some (.int (plgS Z n))) (mdc ct ad Z g hs F) := by
  refine FMet.of (by decide +kernel) (Nat.le_of_ble_eq_true rfl) ?_
  intro p e s m args below meth c ls hx hb hr hml hown hlocks htg hK hI hP hS hl
  have hl : lv_has ls 3 [(0, .ref (ad 0))] := hl
  have hn10 := hw.1
  refine lv_iconst (v := nI 0) hx hb dX6_plugged_0 (by decide) ?_
  refine lv_istore_n (lv' := [(1, .int (nI 0)), (0, .ref (ad 0))]) hx hb dX6_plugged_1 rfl hl (by decide) rfl (fun ls hl => ?_)
  refine lv_iconst (v := nI 0) hx hb dX6_plugged_2 (by decide) ?_
  refine lv_istore_n (lv' := [(2, .int (nI 0)), (1, .int (nI 0)), (0, .ref (ad 0))]) hx hb dX6_plugged_3 rfl hl (by decide) rfl (fun ls hl => ?_)
  have lp4 : ∀ (fu4 : Nat) (i : Nat), i ≤ n → n - i < fu4 → ∀ (H : Heap) (locs : List Loc), fP D 8 ad (mdc ct ad Z g hs F) H → va_S (fA 8 ad) s.heap H locs → ∀ (ls : Array Slot), lv_has ls 3 [(2, .int (nI i)), (1, .int (plgS Z i)), (0, .ref (ad 0))] → W p l e ({ frames := 1, cells := 0, slots := 0, locals := 22 }) s m args below meth c H locs 0 0 (MQ below (fQ D ct 8 ad (some (.int (plgS Z n))) (mdc ct ad Z g hs F)) args s 0 0 (fA 8 ad)) (F0 m 4 ls []) := by
    intro fu4
    induction fu4 with
    | zero => intro i hi hfu4; exact absurd hfu4 (Nat.not_lt_zero _)
    | succ fu4 ih4 =>
      intro i hi hfu4 H locs hP hS ls hl
      refine lv_iload_n hx hb dX6_plugged_4 rfl (lv_at hl 0 rfl) ?_
      refine lv_aload_n hx hb dX6_plugged_5 rfl (lv_at hl 2 rfl) ?_
      refine md_g1 hx hb hown htg hK hP dX6_plugged_6 ?_
      refine lv_iconst (v := nI 4) hx hb dX6_plugged_9 (by decide) ?_
      refine md_l1 hx hb hK hP (by omega) dX6_plugged_10 ?_
      refine lv_teq (hw).2.1 ?_
      refine lv_icmp_geN (tgt := 38) hx hb (by omega) (by omega) dX6_plugged_11 (by decide) (fun c11 => ?_) (fun c11 => ?_)
      · have e9 : n = i := by omega
        subst e9
        refine lv_iload_n hx hb dX6_plugged_38 rfl (lv_at hl 1 rfl) ?_
        refine fr_iret hx hb hr hlocks hK hI hS rfl dX6_plugged_39 ?_ ?_
        · exact rfl
        · exact hP
      · refine lv_iload_n hx hb dX6_plugged_14 rfl (lv_at hl 1 rfl) ?_
        refine lv_aload_n hx hb dX6_plugged_15 rfl (lv_at hl 2 rfl) ?_
        refine lv_iload_n hx hb dX6_plugged_16 rfl (lv_at hl 0 rfl) ?_
        refine lv_iconst (v := nI 4) hx hb dX6_plugged_17 (by decide) ?_
        refine md_cVr (As := [.int (nI i), .int (nI 4)]) (rest := [.int (plgS Z i)]) hx hb hown htg hK hI hS hP hml hl.1 (m6_of l D ct ad _ _ _ _ i 4 (by omega) (by omega)) cw_X6_47 rfl rfl ⟨Nat.le_of_ble_eq_true rfl, Nat.le_of_ble_eq_true rfl⟩ (Nat.le_of_ble_eq_true rfl) dX6_plugged_18 ⟨Nat.le_refl _, Nat.le_refl _⟩ (fun H locs hP hS => ?_)
        refine lv_iconst (v := -1) hx hb dX6_plugged_21 (by decide) ?_
        refine lv_icmp_ne (tgt := 29) hx hb dX6_plugged_22 (by decide) (fun c22 => ?_) (fun c22 => ?_)
        · refine lv_iconst (v := nI 1) hx hb dX6_plugged_29 (by decide) ?_
          refine lv_iadd hx hb dX6_plugged_30 ?_
          refine lv_istore_n (lv' := [(1, .int ((plgS Z i) + (nI 1))), (2, .int (nI i)), (0, .ref (ad 0))]) hx hb dX6_plugged_31 rfl hl (by decide) rfl (fun ls hl => ?_)
          refine lv_iinc (v := nI (i + 1)) (lv' := [(2, .int (nI (i + 1))), (1, .int ((plgS Z i) + (nI 1))), (0, .ref (ad 0))]) hx hb dX6_plugged_32 hl (k := 1) rfl (nI_add i 1) (by decide) rfl (fun ls hl => ?_)
          refine lv_goto (tgt := 4) hx hb dX6_plugged_35 (by decide) ?_
          have hl := lv_sub (l' := [(2, .int (nI (i + 1))), (1, .int ((plgS Z i) + (nI 1))), (0, .ref (ad 0))]) hl [0, 1, 2] rfl
          have e1 : Value.int ((plgS Z i) + (nI 1)) = Value.int (plgS Z (i + 1)) := by first | (exfalso; omega) | (simp only [plgS, c11, Nat.not_le.mpr c11, c22, decide_true, decide_false, Bool.and_true, Bool.true_and, Bool.and_false, Bool.false_and, Bool.or_true, Bool.true_or, Bool.or_false, Bool.false_or, Bool.and_self, Bool.or_self, if_true, if_false, eq_self, Bool.false_eq_true, Bool.true_eq_false, reduceCtorEq, nI_0, not_true_eq_false, not_false_eq_true, and_true, true_and, and_false, false_and, or_true, true_or, or_false, false_or, and_self, or_self, Int32.add_zero]; done) | (simp [plgS, c11, Nat.not_le.mpr c11, c22, nI_0]; done) | (simp only [plgS, c11, Nat.not_le.mpr c11, c22, decide_true, decide_false, Bool.and_true, Bool.true_and, Bool.and_false, Bool.false_and, Bool.or_true, Bool.true_or, Bool.or_false, Bool.false_or, Bool.and_self, Bool.or_self, if_true, if_false, eq_self, Bool.false_eq_true, Bool.true_eq_false, reduceCtorEq, nI_0, not_true_eq_false, not_false_eq_true, and_true, true_and, and_false, false_and, or_true, true_or, or_false, false_or, and_self, or_self, Int32.add_zero]; omega) | (simp [plgS, c11, Nat.not_le.mpr c11, c22, nI_0]; omega)
          have hl := lv_hasE hl (lcons rfl (lcons e1 (lcons rfl rfl)))
          exact ih4 (i + 1) (by omega) (by omega) _ _ hP hS _ hl
        · refine lv_iconst (v := nI 0) hx hb dX6_plugged_25 (by decide) ?_
          refine lv_goto (tgt := 30) hx hb dX6_plugged_26 (by decide) ?_
          refine lv_iadd hx hb dX6_plugged_30 ?_
          refine lv_istore_n (lv' := [(1, .int ((plgS Z i) + (nI 0))), (2, .int (nI i)), (0, .ref (ad 0))]) hx hb dX6_plugged_31 rfl hl (by decide) rfl (fun ls hl => ?_)
          refine lv_iinc (v := nI (i + 1)) (lv' := [(2, .int (nI (i + 1))), (1, .int ((plgS Z i) + (nI 0))), (0, .ref (ad 0))]) hx hb dX6_plugged_32 hl (k := 1) rfl (nI_add i 1) (by decide) rfl (fun ls hl => ?_)
          refine lv_goto (tgt := 4) hx hb dX6_plugged_35 (by decide) ?_
          have hl := lv_sub (l' := [(2, .int (nI (i + 1))), (1, .int ((plgS Z i) + (nI 0))), (0, .ref (ad 0))]) hl [0, 1, 2] rfl
          have e1 : Value.int ((plgS Z i) + (nI 0)) = Value.int (plgS Z (i + 1)) := by first | (exfalso; omega) | (simp only [plgS, c11, Nat.not_le.mpr c11, c22, decide_true, decide_false, Bool.and_true, Bool.true_and, Bool.and_false, Bool.false_and, Bool.or_true, Bool.true_or, Bool.or_false, Bool.false_or, Bool.and_self, Bool.or_self, if_true, if_false, eq_self, Bool.false_eq_true, Bool.true_eq_false, reduceCtorEq, nI_0, not_true_eq_false, not_false_eq_true, and_true, true_and, and_false, false_and, or_true, true_or, or_false, false_or, and_self, or_self, Int32.add_zero]; done) | (simp [plgS, c11, Nat.not_le.mpr c11, c22, nI_0]; done) | (simp only [plgS, c11, Nat.not_le.mpr c11, c22, decide_true, decide_false, Bool.and_true, Bool.true_and, Bool.and_false, Bool.false_and, Bool.or_true, Bool.true_or, Bool.or_false, Bool.false_or, Bool.and_self, Bool.or_self, if_true, if_false, eq_self, Bool.false_eq_true, Bool.true_eq_false, reduceCtorEq, nI_0, not_true_eq_false, not_false_eq_true, and_true, true_and, and_false, false_and, or_true, true_or, or_false, false_or, and_self, or_self, Int32.add_zero]; omega) | (simp [plgS, c11, Nat.not_le.mpr c11, c22, nI_0]; omega)
          have hl := lv_hasE hl (lcons rfl (lcons e1 (lcons rfl rfl)))
          exact ih4 (i + 1) (by omega) (by omega) _ _ hP hS _ hl
  have hl := lv_sub (l' := [(2, .int (nI 0)), (1, .int (nI 0)), (0, .ref (ad 0))]) hl [0, 1, 2] rfl
  have e1 : Value.int (nI 0) = Value.int (plgS Z 0) := by rfl
  have hl := lv_hasE hl (lcons rfl (lcons e1 (lcons rfl rfl)))
  exact lp4 (n - 0 + 1) 0 (by omega) (Nat.lt_succ_self _) _ _ hP hS _ hl
set_option maxRecDepth 100000 in
set_option maxHeartbeats 4000000 in
theorem m6_counted (l : Launch) (D : va_G) (ct : Nat → ClassId) (ad : Nat → Nat) (Z g : Nat → Int32) (hs : Int64) (F : Nat → Nat → Int32) (w : Nat) (n : Nat)  (hw : zW Z n) (hw12 : w < 12) : FMet l yX6_counted cX6_counted 2 (some .int) 5 112 D ct 8 ad [.ref (ad 0), .int (nI w)] (mdc ct ad Z g hs F) (some (.int (cntD Z (g 3) n w))) (mdc ct ad Z g hs F) := by
  refine FMet.of (by decide +kernel) (Nat.le_of_ble_eq_true rfl) ?_
  intro p e s m args below meth c ls hx hb hr hml hown hlocks htg hK hI hP hS hl
  have hl : lv_has ls 2 [(0, .ref (ad 0)), (1, .int (nI w))] := hl
  have hn10 := hw.1
  rcases (show w = 0 ∨ w = 1 ∨ w = 2 ∨ w = 3 ∨ w = 4 ∨ w = 5 ∨ w = 6 ∨ w = 7 ∨ w = 8 ∨ w = 9 ∨ w = 10 ∨ w = 11 from by omega) with rfl | rfl | rfl | rfl | rfl | rfl | rfl | rfl | rfl | rfl | rfl | rfl
  · refine lv_iload_n hx hb dX6_counted_0 rfl (lv_at hl 1 rfl) ?_
    refine lv_tableIn (tgt := 60) hx hb dX6_counted_1 (by decide) (by decide) rfl (by decide) ?_
    refine lv_aload_n hx hb dX6_counted_60 rfl (lv_at hl 0 rfl) ?_
    refine md_g1 hx hb hown htg hK hP dX6_counted_61 ?_
    refine lv_iconst (v := nI 3) hx hb dX6_counted_64 (by decide) ?_
    refine lv_iload_n hx hb dX6_counted_65 rfl (lv_at hl 1 rfl) ?_
    refine lv_iaddN hx hb dX6_counted_66 ?_
    refine lv_teq (show nI (3 + 0) = nI 3 from rfl) ?_
    refine md_l1 hx hb hK hP (by omega) dX6_counted_67 ?_
    refine fr_iret hx hb hr hlocks hK hI hS rfl dX6_counted_68 ?_ ?_
    · first | rfl | exact hw.2.1.symm
    · exact hP
  · refine lv_iload_n hx hb dX6_counted_0 rfl (lv_at hl 1 rfl) ?_
    refine lv_tableIn (tgt := 60) hx hb dX6_counted_1 (by decide) (by decide) rfl (by decide) ?_
    refine lv_aload_n hx hb dX6_counted_60 rfl (lv_at hl 0 rfl) ?_
    refine md_g1 hx hb hown htg hK hP dX6_counted_61 ?_
    refine lv_iconst (v := nI 3) hx hb dX6_counted_64 (by decide) ?_
    refine lv_iload_n hx hb dX6_counted_65 rfl (lv_at hl 1 rfl) ?_
    refine lv_iaddN hx hb dX6_counted_66 ?_
    refine lv_teq (show nI (3 + 1) = nI 4 from rfl) ?_
    refine md_l1 hx hb hK hP (by omega) dX6_counted_67 ?_
    refine lv_teq (hw).2.1 ?_
    refine fr_iret hx hb hr hlocks hK hI hS rfl dX6_counted_68 ?_ ?_
    · first | rfl | exact hw.2.1.symm
    · exact hP
  · refine lv_iload_n hx hb dX6_counted_0 rfl (lv_at hl 1 rfl) ?_
    refine lv_tableIn (tgt := 69) hx hb dX6_counted_1 (by decide) (by decide) rfl (by decide) ?_
    refine lv_aload_n hx hb dX6_counted_69 rfl (lv_at hl 0 rfl) ?_
    refine md_cVr (As := []) (rest := []) hx hb hown htg hK hI hS hP hml hl.1 (m6_plugged l D ct ad _ _ _ _ n hw) cw_X6_175 rfl rfl ⟨Nat.le_of_ble_eq_true rfl, Nat.le_of_ble_eq_true rfl⟩ (Nat.le_of_ble_eq_true rfl) dX6_counted_70 ⟨Nat.le_refl _, Nat.le_refl _⟩ (fun H locs hP hS => ?_)
    refine fr_iret hx hb hr hlocks hK hI hS rfl dX6_counted_73 ?_ ?_
    · first | rfl | exact hw.2.1.symm
    · exact hP
  · refine lv_iload_n hx hb dX6_counted_0 rfl (lv_at hl 1 rfl) ?_
    refine lv_tableIn (tgt := 74) hx hb dX6_counted_1 (by decide) (by decide) rfl (by decide) ?_
    refine lv_aload_n hx hb dX6_counted_74 rfl (lv_at hl 0 rfl) ?_
    refine lv_iconst (v := -1) hx hb dX6_counted_75 (by decide) ?_
    refine md_cVr (As := [.int (-1)]) (rest := []) hx hb hown htg hK hI hS hP hml hl.1 (m6_drawingA l D ct ad _ _ _ _ n hw) cw_X6_120 rfl rfl ⟨Nat.le_of_ble_eq_true rfl, Nat.le_of_ble_eq_true rfl⟩ (Nat.le_of_ble_eq_true rfl) dX6_counted_76 ⟨Nat.le_refl _, Nat.le_refl _⟩ (fun H locs hP hS => ?_)
    refine fr_iret hx hb hr hlocks hK hI hS rfl dX6_counted_79 ?_ ?_
    · first | rfl | exact hw.2.1.symm
    · exact hP
  · refine lv_iload_n hx hb dX6_counted_0 rfl (lv_at hl 1 rfl) ?_
    refine lv_tableIn (tgt := 80) hx hb dX6_counted_1 (by decide) (by decide) rfl (by decide) ?_
    refine lv_aload_n hx hb dX6_counted_80 rfl (lv_at hl 0 rfl) ?_
    refine lv_iconst (v := nI 1) hx hb dX6_counted_81 (by decide) ?_
    refine md_cVr (As := [.int (nI 1)]) (rest := []) hx hb hown htg hK hI hS hP hml hl.1 (m6_allBreakers l D ct ad _ _ _ _ 1 (by omega)) cw_X6_178 rfl rfl ⟨Nat.le_of_ble_eq_true rfl, Nat.le_of_ble_eq_true rfl⟩ (Nat.le_of_ble_eq_true rfl) dX6_counted_82 ⟨Nat.le_refl _, Nat.le_refl _⟩ (fun H locs hP hS => ?_)
    refine fr_iret hx hb hr hlocks hK hI hS rfl dX6_counted_85 ?_ ?_
    · first | rfl | exact hw.2.1.symm
    · exact hP
  · refine lv_iload_n hx hb dX6_counted_0 rfl (lv_at hl 1 rfl) ?_
    refine lv_tableIn (tgt := 86) hx hb dX6_counted_1 (by decide) (by decide) rfl (by decide) ?_
    refine lv_aload_n hx hb dX6_counted_86 rfl (lv_at hl 0 rfl) ?_
    refine lv_bipush (v := nI 6) hx hb dX6_counted_87 (by decide) ?_
    refine md_cVr (As := [.int (nI 6)]) (rest := []) hx hb hown htg hK hI hS hP hml hl.1 (m6_allStalls l D ct ad _ _ _ _ 6 n hw (by omega)) cw_X6_181 rfl rfl ⟨Nat.le_of_ble_eq_true rfl, Nat.le_of_ble_eq_true rfl⟩ (Nat.le_of_ble_eq_true rfl) dX6_counted_89 ⟨Nat.le_refl _, Nat.le_refl _⟩ (fun H locs hP hS => ?_)
    refine fr_iret hx hb hr hlocks hK hI hS rfl dX6_counted_92 ?_ ?_
    · first | rfl | exact hw.2.1.symm
    · exact hP
  · refine lv_iload_n hx hb dX6_counted_0 rfl (lv_at hl 1 rfl) ?_
    refine lv_tableIn (tgt := 93) hx hb dX6_counted_1 (by decide) (by decide) rfl (by decide) ?_
    refine lv_aload_n hx hb dX6_counted_93 rfl (lv_at hl 0 rfl) ?_
    refine lv_iconst (v := nI 4) hx hb dX6_counted_94 (by decide) ?_
    refine md_cVr (As := [.int (nI 4)]) (rest := []) hx hb hown htg hK hI hS hP hml hl.1 (m6_allBreakers l D ct ad _ _ _ _ 4 (by omega)) cw_X6_178 rfl rfl ⟨Nat.le_of_ble_eq_true rfl, Nat.le_of_ble_eq_true rfl⟩ (Nat.le_of_ble_eq_true rfl) dX6_counted_95 ⟨Nat.le_refl _, Nat.le_refl _⟩ (fun H locs hP hS => ?_)
    refine fr_iret hx hb hr hlocks hK hI hS rfl dX6_counted_98 ?_ ?_
    · first | rfl | exact hw.2.1.symm
    · exact hP
  · refine lv_iload_n hx hb dX6_counted_0 rfl (lv_at hl 1 rfl) ?_
    refine lv_tableIn (tgt := 99) hx hb dX6_counted_1 (by decide) (by decide) rfl (by decide) ?_
    refine lv_aload_n hx hb dX6_counted_99 rfl (lv_at hl 0 rfl) ?_
    refine lv_iconst (v := nI 3) hx hb dX6_counted_100 (by decide) ?_
    refine md_cVr (As := [.int (nI 3)]) (rest := []) hx hb hown htg hK hI hS hP hml hl.1 (m6_allBreakers l D ct ad _ _ _ _ 3 (by omega)) cw_X6_178 rfl rfl ⟨Nat.le_of_ble_eq_true rfl, Nat.le_of_ble_eq_true rfl⟩ (Nat.le_of_ble_eq_true rfl) dX6_counted_101 ⟨Nat.le_refl _, Nat.le_refl _⟩ (fun H locs hP hS => ?_)
    refine fr_iret hx hb hr hlocks hK hI hS rfl dX6_counted_104 ?_ ?_
    · first | rfl | exact hw.2.1.symm
    · exact hP
  · refine lv_iload_n hx hb dX6_counted_0 rfl (lv_at hl 1 rfl) ?_
    refine lv_tableIn (tgt := 105) hx hb dX6_counted_1 (by decide) (by decide) rfl (by decide) ?_
    refine lv_aload_n hx hb dX6_counted_105 rfl (lv_at hl 0 rfl) ?_
    refine lv_bipush (v := nI 7) hx hb dX6_counted_106 (by decide) ?_
    refine md_cVr (As := [.int (nI 7)]) (rest := []) hx hb hown htg hK hI hS hP hml hl.1 (m6_allStalls l D ct ad _ _ _ _ 7 n hw (by omega)) cw_X6_181 rfl rfl ⟨Nat.le_of_ble_eq_true rfl, Nat.le_of_ble_eq_true rfl⟩ (Nat.le_of_ble_eq_true rfl) dX6_counted_108 ⟨Nat.le_refl _, Nat.le_refl _⟩ (fun H locs hP hS => ?_)
    refine fr_iret hx hb hr hlocks hK hI hS rfl dX6_counted_111 ?_ ?_
    · first | rfl | exact hw.2.1.symm
    · exact hP
  · refine lv_iload_n hx hb dX6_counted_0 rfl (lv_at hl 1 rfl) ?_
    refine lv_tableIn (tgt := 112) hx hb dX6_counted_1 (by decide) (by decide) rfl (by decide) ?_
    refine lv_aload_n hx hb dX6_counted_112 rfl (lv_at hl 0 rfl) ?_
    refine lv_bipush (v := nI 9) hx hb dX6_counted_113 (by decide) ?_
    refine md_cVr (As := [.int (nI 9)]) (rest := []) hx hb hown htg hK hI hS hP hml hl.1 (m6_allStalls l D ct ad _ _ _ _ 9 n hw (by omega)) cw_X6_181 rfl rfl ⟨Nat.le_of_ble_eq_true rfl, Nat.le_of_ble_eq_true rfl⟩ (Nat.le_of_ble_eq_true rfl) dX6_counted_115 ⟨Nat.le_refl _, Nat.le_refl _⟩ (fun H locs hP hS => ?_)
    refine fr_iret hx hb hr hlocks hK hI hS rfl dX6_counted_118 ?_ ?_
    · first | rfl | exact hw.2.1.symm
    · exact hP
  · refine lv_iload_n hx hb dX6_counted_0 rfl (lv_at hl 1 rfl) ?_
    refine lv_tableIn (tgt := 119) hx hb dX6_counted_1 (by decide) (by decide) rfl (by decide) ?_
    refine lv_aload_n hx hb dX6_counted_119 rfl (lv_at hl 0 rfl) ?_
    refine md_g1 hx hb hown htg hK hP dX6_counted_120 ?_
    refine lv_iconst (v := nI 5) hx hb dX6_counted_123 (by decide) ?_
    refine md_l1 hx hb hK hP (by omega) dX6_counted_124 ?_
    refine fr_iret hx hb hr hlocks hK hI hS rfl dX6_counted_125 ?_ ?_
    · first | rfl | exact hw.2.1.symm
    · exact hP
  · refine lv_iload_n hx hb dX6_counted_0 rfl (lv_at hl 1 rfl) ?_
    refine lv_tableOut (tgt := 126) hx hb dX6_counted_1 (by decide) (by decide) ?_
    refine lv_aload_n hx hb dX6_counted_126 rfl (lv_at hl 0 rfl) ?_
    refine md_g3 (v := g 3) hx hb hown htg hK hP rfl dX6_counted_127 ?_
    refine fr_iret hx hb hr hlocks hK hI hS rfl dX6_counted_130 ?_ ?_
    · first | rfl | exact hw.2.1.symm
    · exact hP
set_option maxRecDepth 100000 in
set_option maxHeartbeats 4000000 in
theorem m6_isTaken (l : Launch) (D : va_G) (ct : Nat → ClassId) (ad : Nat → Nat) (Z g : Nat → Int32) (hs : Int64) (F : Nat → Nat → Int32) (a : Nat) (q : Int32) (n : Nat)  (hw : zW Z n) : FMet l yX6_isTaken cX6_isTaken 3 (some .boolean) 2 45 D ct 8 ad [.ref (ad 0), .int (nI a), .int (q)] (mdc ct ad Z g hs F) (some (.int (bi (tknB Z n a q)))) (mdc ct ad Z g hs F) := by
  refine FMet.of (by decide +kernel) (Nat.le_of_ble_eq_true rfl) ?_
  intro p e s m args below meth c ls hx hb hr hml hown hlocks htg hK hI hP hS hl
  have hl : lv_has ls 3 [(0, .ref (ad 0)), (1, .int (nI a)), (2, .int (q))] := hl
  have hn10 := hw.1
  refine lv_aload_n hx hb dX6_isTaken_0 rfl (lv_at hl 0 rfl) ?_
  refine lv_iload_n hx hb dX6_isTaken_1 rfl (lv_at hl 2 rfl) ?_
  refine md_cVr (As := [.int (q)]) (rest := []) hx hb hown htg hK hI hS hP hml hl.1 (m6_stallAt l D ct ad _ _ _ _ q n hw) cw_X6_108 rfl rfl ⟨Nat.le_of_ble_eq_true rfl, Nat.le_of_ble_eq_true rfl⟩ (Nat.le_of_ble_eq_true rfl) dX6_isTaken_2 ⟨Nat.le_refl _, Nat.le_refl _⟩ (fun H locs hP hS => ?_)
  refine lv_iconst (v := -1) hx hb dX6_isTaken_5 (by decide) ?_
  refine lv_icmp_eq (tgt := 22) hx hb dX6_isTaken_6 (by decide) (fun c6 => ?_) (fun c6 => ?_)
  · refine lv_iconst (v := nI 0) hx hb dX6_isTaken_22 (by decide) ?_
    refine fr_iret hx hb hr hlocks hK hI hS rfl dX6_isTaken_23 ?_ ?_
    · exact (congrArg bi (show (tknB Z n a q) = false from by first | (exfalso; omega) | (simp only [tknB, c6, decide_true, decide_false, Bool.and_true, Bool.true_and, Bool.and_false, Bool.false_and, Bool.or_true, Bool.true_or, Bool.or_false, Bool.false_or, Bool.and_self, Bool.or_self, if_true, if_false, eq_self, Bool.false_eq_true, Bool.true_eq_false, reduceCtorEq, nI_0, not_true_eq_false, not_false_eq_true, and_true, true_and, and_false, false_and, or_true, true_or, or_false, false_or, and_self, or_self, Int32.add_zero]; done) | (simp [tknB, c6, nI_0]; done) | (simp only [tknB, c6, decide_true, decide_false, Bool.and_true, Bool.true_and, Bool.and_false, Bool.false_and, Bool.or_true, Bool.true_or, Bool.or_false, Bool.false_or, Bool.and_self, Bool.or_self, if_true, if_false, eq_self, Bool.false_eq_true, Bool.true_eq_false, reduceCtorEq, nI_0, not_true_eq_false, not_false_eq_true, and_true, true_and, and_false, false_and, or_true, true_or, or_false, false_or, and_self, or_self, Int32.add_zero]; omega) | (simp [tknB, c6, nI_0]; omega))).symm
    · exact hP
  · refine lv_aload_n hx hb dX6_isTaken_9 rfl (lv_at hl 0 rfl) ?_
    refine lv_iload_n hx hb dX6_isTaken_10 rfl (lv_at hl 2 rfl) ?_
    refine md_cVr (As := [.int (q)]) (rest := []) hx hb hown htg hK hI hS hP hml hl.1 (m6_stallAt l D ct ad _ _ _ _ q n hw) cw_X6_108 rfl rfl ⟨Nat.le_of_ble_eq_true rfl, Nat.le_of_ble_eq_true rfl⟩ (Nat.le_of_ble_eq_true rfl) dX6_isTaken_11 ⟨Nat.le_refl _, Nat.le_refl _⟩ (fun H locs hP hS => ?_)
    refine lv_iload_n hx hb dX6_isTaken_14 rfl (lv_at hl 1 rfl) ?_
    refine lv_icmp_eq (tgt := 22) hx hb dX6_isTaken_15 (by decide) (fun c15 => ?_) (fun c15 => ?_)
    · refine lv_iconst (v := nI 0) hx hb dX6_isTaken_22 (by decide) ?_
      refine fr_iret hx hb hr hlocks hK hI hS rfl dX6_isTaken_23 ?_ ?_
      · exact (congrArg bi (show (tknB Z n a q) = false from by first | (exfalso; omega) | (simp only [tknB, c6, c15, decide_true, decide_false, Bool.and_true, Bool.true_and, Bool.and_false, Bool.false_and, Bool.or_true, Bool.true_or, Bool.or_false, Bool.false_or, Bool.and_self, Bool.or_self, if_true, if_false, eq_self, Bool.false_eq_true, Bool.true_eq_false, reduceCtorEq, nI_0, not_true_eq_false, not_false_eq_true, and_true, true_and, and_false, false_and, or_true, true_or, or_false, false_or, and_self, or_self, Int32.add_zero]; done) | (simp [tknB, c6, c15, nI_0]; done) | (simp only [tknB, c6, c15, decide_true, decide_false, Bool.and_true, Bool.true_and, Bool.and_false, Bool.false_and, Bool.or_true, Bool.true_or, Bool.or_false, Bool.false_or, Bool.and_self, Bool.or_self, if_true, if_false, eq_self, Bool.false_eq_true, Bool.true_eq_false, reduceCtorEq, nI_0, not_true_eq_false, not_false_eq_true, and_true, true_and, and_false, false_and, or_true, true_or, or_false, false_or, and_self, or_self, Int32.add_zero]; omega) | (simp [tknB, c6, c15, nI_0]; omega))).symm
      · exact hP
    · refine lv_iconst (v := nI 1) hx hb dX6_isTaken_18 (by decide) ?_
      refine lv_goto (tgt := 23) hx hb dX6_isTaken_19 (by decide) ?_
      refine fr_iret hx hb hr hlocks hK hI hS rfl dX6_isTaken_23 ?_ ?_
      · exact (congrArg bi (show (tknB Z n a q) = true from by first | (exfalso; omega) | (simp only [tknB, c6, c15, decide_true, decide_false, Bool.and_true, Bool.true_and, Bool.and_false, Bool.false_and, Bool.or_true, Bool.true_or, Bool.or_false, Bool.false_or, Bool.and_self, Bool.or_self, if_true, if_false, eq_self, Bool.false_eq_true, Bool.true_eq_false, reduceCtorEq, nI_0, not_true_eq_false, not_false_eq_true, and_true, true_and, and_false, false_and, or_true, true_or, or_false, false_or, and_self, or_self, Int32.add_zero]; done) | (simp [tknB, c6, c15, nI_0]; done) | (simp only [tknB, c6, c15, decide_true, decide_false, Bool.and_true, Bool.true_and, Bool.and_false, Bool.false_and, Bool.or_true, Bool.true_or, Bool.or_false, Bool.false_or, Bool.and_self, Bool.or_self, if_true, if_false, eq_self, Bool.false_eq_true, Bool.true_eq_false, reduceCtorEq, nI_0, not_true_eq_false, not_false_eq_true, and_true, true_and, and_false, false_and, or_true, true_or, or_false, false_or, and_self, or_self, Int32.add_zero]; omega) | (simp [tknB, c6, c15, nI_0]; omega))).symm
      · exact hP
set_option maxRecDepth 100000 in
set_option maxHeartbeats 4000000 in
theorem m6_wouldPlug (l : Launch) (D : va_G) (ct : Nat → ClassId) (ad : Nat → Nat) (Z g : Nat → Int32) (hs : Int64) (F : Nat → Nat → Int32) (a : Nat) (q : Nat) (tm : Nat) (w : Nat) (n : Nat)  (hw : zW Z n) (han : a < n) (hq12 : q < 12) (htm : tm < 2147483648) (hw3 : w < 3) : FMet l yX6_wouldPlug cX6_wouldPlug 8 (some .int) 7 158 D ct 8 ad [.ref (ad 0), .int (nI a), .int (nI q), .int (nI tm), .int (nI w)] (mdc ct ad Z g hs F) (some (.int (wpR Z n a q tm w))) (mdc ct ad Z g hs (sp5 F Z (!tknB Z n a (nI q)))) := by
  refine FMet.of (by decide +kernel) (Nat.le_of_ble_eq_true rfl) ?_
  intro p e s m args below meth c ls hx hb hr hml hown hlocks htg hK hI hP hS hl
  have hl : lv_has ls 8 [(0, .ref (ad 0)), (1, .int (nI a)), (2, .int (nI q)), (3, .int (nI tm)), (4, .int (nI w))] := hl
  have hn10 := hw.1
  refine lv_aload_n hx hb dX6_wouldPlug_0 rfl (lv_at hl 0 rfl) ?_
  refine lv_iload_n hx hb dX6_wouldPlug_1 rfl (lv_at hl 1 rfl) ?_
  refine lv_iload_n hx hb dX6_wouldPlug_2 rfl (lv_at hl 2 rfl) ?_
  refine md_cVr (As := [.int (nI a), .int (nI q)]) (rest := []) hx hb hown htg hK hI hS hP hml hl.1 (m6_isTaken l D ct ad _ _ _ _ a (nI q) n hw) cw_X6_187 rfl rfl ⟨Nat.le_of_ble_eq_true rfl, Nat.le_of_ble_eq_true rfl⟩ (Nat.le_of_ble_eq_true rfl) dX6_wouldPlug_3 ⟨Nat.le_refl _, Nat.le_refl _⟩ (fun H locs hP hS => ?_)
  refine lv_ifeqB (tgt := 11) hx hb dX6_wouldPlug_6 (by decide) (fun c6 => ?_) (fun c6 => ?_)
  · refine lv_aload_n hx hb dX6_wouldPlug_11 rfl (lv_at hl 0 rfl) ?_
    refine md_cV0 (As := []) (rest := []) hx hb hown htg hK hI hS hP hml hl.1 (m6_putAside l D ct ad _ _ _ _ ) cw_X6_190 rfl rfl ⟨Nat.le_of_ble_eq_true rfl, Nat.le_of_ble_eq_true rfl⟩ (Nat.le_of_ble_eq_true rfl) dX6_wouldPlug_12 ⟨Nat.le_refl _, Nat.le_refl _⟩ (fun H locs hP hS => ?_)
    refine lv_aload_n hx hb dX6_wouldPlug_15 rfl (lv_at hl 0 rfl) ?_
    refine lv_iload_n hx hb dX6_wouldPlug_16 rfl (lv_at hl 1 rfl) ?_
    refine lv_iconst (v := nI 4) hx hb dX6_wouldPlug_17 (by decide) ?_
    refine lv_iload_n hx hb dX6_wouldPlug_18 rfl (lv_at hl 2 rfl) ?_
    refine md_cV0 (As := [.int (nI a), .int (nI 4), .int (nI q)]) (rest := []) hx hb hown htg hK hI hS hP hml hl.1 (m6_lay l D ct ad _ _ _ _ a 4 (nI q) (by omega) (by omega)) cw_X6_78 rfl rfl ⟨Nat.le_of_ble_eq_true rfl, Nat.le_of_ble_eq_true rfl⟩ (Nat.le_of_ble_eq_true rfl) dX6_wouldPlug_19 ⟨Nat.le_refl _, Nat.le_refl _⟩ (fun H locs hP hS => ?_)
    refine lv_aload_n hx hb dX6_wouldPlug_22 rfl (lv_at hl 0 rfl) ?_
    refine lv_iload_n hx hb dX6_wouldPlug_23 rfl (lv_at hl 3 rfl) ?_
    refine md_cVr (As := [.int (nI tm)]) (rest := []) hx hb hown htg hK hI hS hP hml hl.1 (m6_hours l D ct ad _ _ _ _ tm n (wpY_zW hw han hq12) (by omega)) cw_X6_123 rfl rfl ⟨Nat.le_of_ble_eq_true rfl, Nat.le_of_ble_eq_true rfl⟩ (Nat.le_of_ble_eq_true rfl) dX6_wouldPlug_24 ⟨Nat.le_refl _, Nat.le_refl _⟩ (fun H locs hP hS => ?_)
    refine lv_istore (lv' := [(5, .int (hsT (upd Z (39 + 8 * a + 4) (nI q)) n tm)), (0, .ref (ad 0)), (1, .int (nI a)), (2, .int (nI q)), (3, .int (nI tm)), (4, .int (nI w))]) hx hb dX6_wouldPlug_27 hl (by decide) rfl (fun ls hl => ?_)
    refine lv_aload_n hx hb dX6_wouldPlug_29 rfl (lv_at hl 1 rfl) ?_
    refine lv_bipush (v := nI 7) hx hb dX6_wouldPlug_30 (by decide) ?_
    refine md_cVr (As := [.int (nI 7)]) (rest := []) hx hb hown htg hK hI hS hP hml hl.1 (m6_allStalls l D ct ad _ _ _ _ 7 n (hsZ_zW (wpY_zW hw han hq12) tm) (by omega)) cw_X6_181 rfl rfl ⟨Nat.le_of_ble_eq_true rfl, Nat.le_of_ble_eq_true rfl⟩ (Nat.le_of_ble_eq_true rfl) dX6_wouldPlug_32 ⟨Nat.le_refl _, Nat.le_refl _⟩ (fun H locs hP hS => ?_)
    refine lv_istore (lv' := [(6, .int (sumS (hsZ (upd Z (39 + 8 * a + 4) (nI q)) n tm) 7 n)), (5, .int (hsT (upd Z (39 + 8 * a + 4) (nI q)) n tm)), (0, .ref (ad 0)), (1, .int (nI a)), (2, .int (nI q)), (3, .int (nI tm)), (4, .int (nI w))]) hx hb dX6_wouldPlug_35 hl (by decide) rfl (fun ls hl => ?_)
    refine lv_aload_n hx hb dX6_wouldPlug_37 rfl (lv_at hl 2 rfl) ?_
    refine lv_iload_n hx hb dX6_wouldPlug_38 rfl (lv_at hl 3 rfl) ?_
    refine lv_bipush (v := nI 6) hx hb dX6_wouldPlug_39 (by decide) ?_
    refine md_cVr (As := [.int (nI a), .int (nI 6)]) (rest := []) hx hb hown htg hK hI hS hP hml hl.1 (m6_of l D ct ad _ _ _ _ a 6 (by omega) (by omega)) cw_X6_47 rfl rfl ⟨Nat.le_of_ble_eq_true rfl, Nat.le_of_ble_eq_true rfl⟩ (Nat.le_of_ble_eq_true rfl) dX6_wouldPlug_41 ⟨Nat.le_refl _, Nat.le_refl _⟩ (fun H locs hP hS => ?_)
    refine lv_istore (lv' := [(7, .int ((hsZ (upd Z (39 + 8 * a + 4) (nI q)) n tm) (39 + 8 * a + 6))), (6, .int (sumS (hsZ (upd Z (39 + 8 * a + 4) (nI q)) n tm) 7 n)), (5, .int (hsT (upd Z (39 + 8 * a + 4) (nI q)) n tm)), (0, .ref (ad 0)), (1, .int (nI a)), (2, .int (nI q)), (3, .int (nI tm)), (4, .int (nI w))]) hx hb dX6_wouldPlug_44 hl (by decide) rfl (fun ls hl => ?_)
    refine lv_aload_n hx hb dX6_wouldPlug_46 rfl (lv_at hl 3 rfl) ?_
    refine md_cV0 (As := []) (rest := []) hx hb hown htg hK hI hS hP hml hl.1 (m6_bringBack l D ct ad _ _ _ _ ) cw_X6_193 rfl rfl ⟨Nat.le_of_ble_eq_true rfl, Nat.le_of_ble_eq_true rfl⟩ (Nat.le_of_ble_eq_true rfl) dX6_wouldPlug_47 ⟨Nat.le_refl _, Nat.le_refl _⟩ (fun H locs hP hS => ?_)
    refine lv_iload hx hb dX6_wouldPlug_50 (lv_at hl 7 rfl) ?_
    refine lv_ifneN (tgt := 60) hx hb (by omega) dX6_wouldPlug_52 (by decide) (fun c52 => ?_) (fun c52 => ?_)
    · refine lv_iload hx hb dX6_wouldPlug_60 (lv_at hl 7 rfl) ?_
      refine lv_iconst (v := nI 1) hx hb dX6_wouldPlug_62 (by decide) ?_
      refine lv_icmp_neN (tgt := 78) hx hb (by omega) (by omega) dX6_wouldPlug_63 (by decide) (fun c63 => ?_) (fun c63 => ?_)
      · refine lv_iload hx hb dX6_wouldPlug_78 (lv_at hl 0 rfl) ?_
        refine lv_aload_n hx hb dX6_wouldPlug_80 rfl (lv_at hl 3 rfl) ?_
        refine lv_iload_n hx hb dX6_wouldPlug_81 rfl (lv_at hl 4 rfl) ?_
        refine lv_bipush (v := nI 6) hx hb dX6_wouldPlug_82 (by decide) ?_
        refine md_cVr (As := [.int (nI a), .int (nI 6)]) (rest := [.int ((hsZ (upd Z (39 + 8 * a + 4) (nI q)) n tm) (39 + 8 * a + 6))]) hx hb hown htg hK hI hS hP hml hl.1 (m6_of l D ct ad _ _ _ _ a 6 (by omega) (by omega)) cw_X6_47 rfl rfl ⟨Nat.le_of_ble_eq_true rfl, Nat.le_of_ble_eq_true rfl⟩ (Nat.le_of_ble_eq_true rfl) dX6_wouldPlug_84 ⟨Nat.le_refl _, Nat.le_refl _⟩ (fun H locs hP hS => ?_)
        refine lv_isub hx hb dX6_wouldPlug_87 ?_
        refine fr_iret hx hb hr hlocks hK hI hS rfl dX6_wouldPlug_88 ?_ ?_
        · first | (exfalso; omega) | (simp only [wpR, wpY, hsT, c6, c52, c63, decide_true, decide_false, Bool.and_true, Bool.true_and, Bool.and_false, Bool.false_and, Bool.or_true, Bool.true_or, Bool.or_false, Bool.false_or, Bool.and_self, Bool.or_self, if_true, if_false, eq_self, Bool.false_eq_true, Bool.true_eq_false, reduceCtorEq, nI_0, not_true_eq_false, not_false_eq_true, and_true, true_and, and_false, false_and, or_true, true_or, or_false, false_or, and_self, or_self, Int32.add_zero]; done) | (simp [wpR, wpY, hsT, c6, c52, c63, nI_0]; done) | (simp only [wpR, wpY, hsT, c6, c52, c63, decide_true, decide_false, Bool.and_true, Bool.true_and, Bool.and_false, Bool.false_and, Bool.or_true, Bool.true_or, Bool.or_false, Bool.false_or, Bool.and_self, Bool.or_self, if_true, if_false, eq_self, Bool.false_eq_true, Bool.true_eq_false, reduceCtorEq, nI_0, not_true_eq_false, not_false_eq_true, and_true, true_and, and_false, false_and, or_true, true_or, or_false, false_or, and_self, or_self, Int32.add_zero]; omega) | (simp [wpR, wpY, hsT, c6, c52, c63, nI_0]; omega) | (simp only [wpR, c6, c52, c63, decide_true, decide_false, Bool.and_true, Bool.true_and, Bool.and_false, Bool.false_and, Bool.or_true, Bool.true_or, Bool.or_false, Bool.false_or, Bool.and_self, Bool.or_self, if_true, if_false, eq_self, Bool.false_eq_true, Bool.true_eq_false, reduceCtorEq, nI_0, not_true_eq_false, not_false_eq_true, and_true, true_and, and_false, false_and, or_true, true_or, or_false, false_or, and_self, or_self, Int32.add_zero]; rfl)
        · refine fP.eqc (congrArg (fun v9 => mdc ct ad Z g hs v9) (show (sp5 F Z (!tknB Z n a (nI q))) = (va_up F 5 Z) from by rw [c6]; rfl).symm) ?_
          exact hP
      · refine lv_iload hx hb dX6_wouldPlug_66 (lv_at hl 1 rfl) ?_
        refine lv_aload_n hx hb dX6_wouldPlug_68 rfl (lv_at hl 3 rfl) ?_
        refine lv_bipush (v := nI 7) hx hb dX6_wouldPlug_69 (by decide) ?_
        refine md_cVr (As := [.int (nI 7)]) (rest := [.int (sumS (hsZ (upd Z (39 + 8 * a + 4) (nI q)) n tm) 7 n)]) hx hb hown htg hK hI hS hP hml hl.1 (m6_allStalls l D ct ad _ _ _ _ 7 n hw (by omega)) cw_X6_181 rfl rfl ⟨Nat.le_of_ble_eq_true rfl, Nat.le_of_ble_eq_true rfl⟩ (Nat.le_of_ble_eq_true rfl) dX6_wouldPlug_71 ⟨Nat.le_refl _, Nat.le_refl _⟩ (fun H locs hP hS => ?_)
        refine lv_isub hx hb dX6_wouldPlug_74 ?_
        refine lv_goto (tgt := 88) hx hb dX6_wouldPlug_75 (by decide) ?_
        refine fr_iret hx hb hr hlocks hK hI hS rfl dX6_wouldPlug_88 ?_ ?_
        · first | (exfalso; omega) | (simp only [wpR, wpY, hsT, c6, c52, c63, decide_true, decide_false, Bool.and_true, Bool.true_and, Bool.and_false, Bool.false_and, Bool.or_true, Bool.true_or, Bool.or_false, Bool.false_or, Bool.and_self, Bool.or_self, if_true, if_false, eq_self, Bool.false_eq_true, Bool.true_eq_false, reduceCtorEq, nI_0, not_true_eq_false, not_false_eq_true, and_true, true_and, and_false, false_and, or_true, true_or, or_false, false_or, and_self, or_self, Int32.add_zero]; done) | (simp [wpR, wpY, hsT, c6, c52, c63, nI_0]; done) | (simp only [wpR, wpY, hsT, c6, c52, c63, decide_true, decide_false, Bool.and_true, Bool.true_and, Bool.and_false, Bool.false_and, Bool.or_true, Bool.true_or, Bool.or_false, Bool.false_or, Bool.and_self, Bool.or_self, if_true, if_false, eq_self, Bool.false_eq_true, Bool.true_eq_false, reduceCtorEq, nI_0, not_true_eq_false, not_false_eq_true, and_true, true_and, and_false, false_and, or_true, true_or, or_false, false_or, and_self, or_self, Int32.add_zero]; omega) | (simp [wpR, wpY, hsT, c6, c52, c63, nI_0]; omega) | (simp only [wpR, c6, c52, c63, decide_true, decide_false, Bool.and_true, Bool.true_and, Bool.and_false, Bool.false_and, Bool.or_true, Bool.true_or, Bool.or_false, Bool.false_or, Bool.and_self, Bool.or_self, if_true, if_false, eq_self, Bool.false_eq_true, Bool.true_eq_false, reduceCtorEq, nI_0, not_true_eq_false, not_false_eq_true, and_true, true_and, and_false, false_and, or_true, true_or, or_false, false_or, and_self, or_self, Int32.add_zero]; rfl)
        · refine fP.eqc (congrArg (fun v9 => mdc ct ad Z g hs v9) (show (sp5 F Z (!tknB Z n a (nI q))) = (va_up F 5 Z) from by rw [c6]; rfl).symm) ?_
          exact hP
    · refine lv_iload hx hb dX6_wouldPlug_55 (lv_at hl 2 rfl) ?_
      refine lv_goto (tgt := 88) hx hb dX6_wouldPlug_57 (by decide) ?_
      refine fr_iret hx hb hr hlocks hK hI hS rfl dX6_wouldPlug_88 ?_ ?_
      · first | (exfalso; omega) | (simp only [wpR, wpY, hsT, c6, c52, decide_true, decide_false, Bool.and_true, Bool.true_and, Bool.and_false, Bool.false_and, Bool.or_true, Bool.true_or, Bool.or_false, Bool.false_or, Bool.and_self, Bool.or_self, if_true, if_false, eq_self, Bool.false_eq_true, Bool.true_eq_false, reduceCtorEq, nI_0, not_true_eq_false, not_false_eq_true, and_true, true_and, and_false, false_and, or_true, true_or, or_false, false_or, and_self, or_self, Int32.add_zero]; done) | (simp [wpR, wpY, hsT, c6, c52, nI_0]; done) | (simp only [wpR, wpY, hsT, c6, c52, decide_true, decide_false, Bool.and_true, Bool.true_and, Bool.and_false, Bool.false_and, Bool.or_true, Bool.true_or, Bool.or_false, Bool.false_or, Bool.and_self, Bool.or_self, if_true, if_false, eq_self, Bool.false_eq_true, Bool.true_eq_false, reduceCtorEq, nI_0, not_true_eq_false, not_false_eq_true, and_true, true_and, and_false, false_and, or_true, true_or, or_false, false_or, and_self, or_self, Int32.add_zero]; omega) | (simp [wpR, wpY, hsT, c6, c52, nI_0]; omega) | (simp only [wpR, c6, c52, decide_true, decide_false, Bool.and_true, Bool.true_and, Bool.and_false, Bool.false_and, Bool.or_true, Bool.true_or, Bool.or_false, Bool.false_or, Bool.and_self, Bool.or_self, if_true, if_false, eq_self, Bool.false_eq_true, Bool.true_eq_false, reduceCtorEq, nI_0, not_true_eq_false, not_false_eq_true, and_true, true_and, and_false, false_and, or_true, true_or, or_false, false_or, and_self, or_self, Int32.add_zero]; rfl)
      · refine fP.eqc (congrArg (fun v9 => mdc ct ad Z g hs v9) (show (sp5 F Z (!tknB Z n a (nI q))) = (va_up F 5 Z) from by rw [c6]; rfl).symm) ?_
        exact hP
  · refine lv_iconst (v := -1) hx hb dX6_wouldPlug_9 (by decide) ?_
    refine fr_iret hx hb hr hlocks hK hI hS rfl dX6_wouldPlug_10 ?_ ?_
    · first | (exfalso; omega) | (simp only [wpR, wpY, hsT, c6, decide_true, decide_false, Bool.and_true, Bool.true_and, Bool.and_false, Bool.false_and, Bool.or_true, Bool.true_or, Bool.or_false, Bool.false_or, Bool.and_self, Bool.or_self, if_true, if_false, eq_self, Bool.false_eq_true, Bool.true_eq_false, reduceCtorEq, nI_0, not_true_eq_false, not_false_eq_true, and_true, true_and, and_false, false_and, or_true, true_or, or_false, false_or, and_self, or_self, Int32.add_zero]; done) | (simp [wpR, wpY, hsT, c6, nI_0]; done) | (simp only [wpR, wpY, hsT, c6, decide_true, decide_false, Bool.and_true, Bool.true_and, Bool.and_false, Bool.false_and, Bool.or_true, Bool.true_or, Bool.or_false, Bool.false_or, Bool.and_self, Bool.or_self, if_true, if_false, eq_self, Bool.false_eq_true, Bool.true_eq_false, reduceCtorEq, nI_0, not_true_eq_false, not_false_eq_true, and_true, true_and, and_false, false_and, or_true, true_or, or_false, false_or, and_self, or_self, Int32.add_zero]; omega) | (simp [wpR, wpY, hsT, c6, nI_0]; omega) | (simp only [wpR, c6, decide_true, decide_false, Bool.and_true, Bool.true_and, Bool.and_false, Bool.false_and, Bool.or_true, Bool.true_or, Bool.or_false, Bool.false_or, Bool.and_self, Bool.or_self, if_true, if_false, eq_self, Bool.false_eq_true, Bool.true_eq_false, reduceCtorEq, nI_0, not_true_eq_false, not_false_eq_true, and_true, true_and, and_false, false_and, or_true, true_or, or_false, false_or, and_self, or_self, Int32.add_zero]; rfl)
    · refine fP.eqc (congrArg (fun v9 => mdc ct ad Z g hs v9) (show (sp5 F Z (!tknB Z n a (nI q))) = F from by rw [c6]; rfl).symm) ?_
      exact hP
set_option maxRecDepth 100000 in
set_option maxHeartbeats 4000000 in
theorem m6_hoursToTrip (l : Launch) (D : va_G) (ct : Nat → ClassId) (ad : Nat → Nat) (Z g : Nat → Int32) (hs : Int64) (F : Nat → Nat → Int32) (b : Nat) (n : Nat)  (hw : zW Z n) (hb4 : b < 4) : FMet l yX6_hoursToTrip cX6_hoursToTrip 3 (some .int) 6 135 D ct 8 ad [.ref (ad 0), .int (nI b)] (mdc ct ad Z g hs F) (some (.int (htF Z n b 98 0))) (mdc ct ad Z g hs (sp5 F Z true)) := by
  refine FMet.of (by decide +kernel) (Nat.le_of_ble_eq_true rfl) ?_
  intro p e s m args below meth c ls hx hb hr hml hown hlocks htg hK hI hP hS hl
  have hl : lv_has ls 3 [(0, .ref (ad 0)), (1, .int (nI b))] := hl
  have hn10 := hw.1
  refine lv_aload_n hx hb dX6_hoursToTrip_0 rfl (lv_at hl 0 rfl) ?_
  refine md_cV0 (As := []) (rest := []) hx hb hown htg hK hI hS hP hml hl.1 (m6_putAside l D ct ad _ _ _ _ ) cw_X6_190 rfl rfl ⟨Nat.le_of_ble_eq_true rfl, Nat.le_of_ble_eq_true rfl⟩ (Nat.le_of_ble_eq_true rfl) dX6_hoursToTrip_1 ⟨Nat.le_refl _, Nat.le_refl _⟩ (fun H locs hP hS => ?_)
  refine lv_iconst (v := nI 0) hx hb dX6_hoursToTrip_4 (by decide) ?_
  refine lv_istore_n (lv' := [(2, .int (nI 0)), (0, .ref (ad 0)), (1, .int (nI b))]) hx hb dX6_hoursToTrip_5 rfl hl (by decide) rfl (fun ls hl => ?_)
  have lp6 : ∀ (fu6 : Nat) (f : Nat) (i : Nat), f + i = 98 → i ≤ 97 → htF Z n b f i = htF Z n b 98 0 → f < fu6 → ∀ (H : Heap) (locs : List Loc), fP D 8 ad (mdc ct ad (hsZ Z n i) g hs (va_up F 5 Z)) H → va_S (fA 8 ad) s.heap H locs → ∀ (ls : Array Slot), lv_has ls 3 [(2, .int (nI i)), (0, .ref (ad 0)), (1, .int (nI b))] → W p l e ({ frames := 6, cells := 0, slots := 0, locals := 135 }) s m args below meth c H locs 0 0 (MQ below (fQ D ct 8 ad (some (.int (htF Z n b 98 0))) (mdc ct ad Z g hs (sp5 F Z true))) args s 0 0 (fA 8 ad)) (F0 m 6 ls []) := by
    intro fu6
    induction fu6 with
    | zero => intro f i hfi hi97 hres hfu6; exact absurd hfu6 (Nat.not_lt_zero _)
    | succ fu6 ih6 =>
      intro f i hfi hi97 hres hfu6 H locs hP hS ls hl
      refine lv_iload_n hx hb dX6_hoursToTrip_6 rfl (lv_at hl 0 rfl) ?_
      refine lv_bipush (v := nI 96) hx hb dX6_hoursToTrip_7 (by decide) ?_
      refine lv_icmp_gtN (tgt := 33) hx hb (by omega) (by omega) dX6_hoursToTrip_9 (by decide) (fun c9 => ?_) (fun c9 => ?_)
      · refine lv_aload_n hx hb dX6_hoursToTrip_33 rfl (lv_at hl 1 rfl) ?_
        refine md_cV0 (As := []) (rest := []) hx hb hown htg hK hI hS hP hml hl.1 (m6_bringBack l D ct ad _ _ _ _ ) cw_X6_193 rfl rfl ⟨Nat.le_of_ble_eq_true rfl, Nat.le_of_ble_eq_true rfl⟩ (Nat.le_of_ble_eq_true rfl) dX6_hoursToTrip_34 ⟨Nat.le_refl _, Nat.le_refl _⟩ (fun H locs hP hS => ?_)
        refine lv_iload_n hx hb dX6_hoursToTrip_37 rfl (lv_at hl 0 rfl) ?_
        refine lv_bipush (v := nI 96) hx hb dX6_hoursToTrip_38 (by decide) ?_
        refine lv_icmp_gtN (tgt := 47) hx hb (by omega) (by omega) dX6_hoursToTrip_40 (by decide) (fun c40 => ?_) (fun c40 => ?_)
        · refine lv_iconst (v := -1) hx hb dX6_hoursToTrip_47 (by decide) ?_
          refine fr_iret hx hb hr hlocks hK hI hS rfl dX6_hoursToTrip_48 ?_ ?_
          · first | (exfalso; omega) | (rw [← hres, show f = (f - 1) + 1 from by omega]; simp only [htF, c9, Nat.not_le.mpr c9, c40, Nat.not_le.mpr c40, decide_true, decide_false, Bool.and_true, Bool.true_and, Bool.and_false, Bool.false_and, Bool.or_true, Bool.true_or, Bool.or_false, Bool.false_or, Bool.and_self, Bool.or_self, if_true, if_false, eq_self, Bool.false_eq_true, Bool.true_eq_false, reduceCtorEq, nI_0, not_true_eq_false, not_false_eq_true, and_true, true_and, and_false, false_and, or_true, true_or, or_false, false_or, and_self, or_self, Int32.add_zero]; done)
          · exact hP
        · refine lv_iload_n hx hb dX6_hoursToTrip_43 rfl (lv_at hl 0 rfl) ?_
          refine lv_goto (tgt := 48) hx hb dX6_hoursToTrip_44 (by decide) ?_
          refine fr_iret hx hb hr hlocks hK hI hS rfl dX6_hoursToTrip_48 ?_ ?_
          · first | (exfalso; omega) | (rw [← hres, show f = (f - 1) + 1 from by omega]; simp only [htF, c9, Nat.not_le.mpr c9, c40, Nat.not_lt.mpr c40, decide_true, decide_false, Bool.and_true, Bool.true_and, Bool.and_false, Bool.false_and, Bool.or_true, Bool.true_or, Bool.or_false, Bool.false_or, Bool.and_self, Bool.or_self, if_true, if_false, eq_self, Bool.false_eq_true, Bool.true_eq_false, reduceCtorEq, nI_0, not_true_eq_false, not_false_eq_true, and_true, true_and, and_false, false_and, or_true, true_or, or_false, false_or, and_self, or_self, Int32.add_zero]; done)
          · exact hP
      · refine lv_aload_n hx hb dX6_hoursToTrip_12 rfl (lv_at hl 1 rfl) ?_
        refine lv_iload_n hx hb dX6_hoursToTrip_13 rfl (lv_at hl 2 rfl) ?_
        refine lv_iconst (v := nI 1) hx hb dX6_hoursToTrip_14 (by decide) ?_
        refine md_cVr (As := [.int (nI b), .int (nI 1)]) (rest := []) hx hb hown htg hK hI hS hP hml hl.1 (m6_by l D ct ad _ _ _ _ b 1 (by omega) (by omega)) cw_X6_59 rfl rfl ⟨Nat.le_of_ble_eq_true rfl, Nat.le_of_ble_eq_true rfl⟩ (Nat.le_of_ble_eq_true rfl) dX6_hoursToTrip_15 ⟨Nat.le_refl _, Nat.le_refl _⟩ (fun H locs hP hS => ?_)
        refine lv_iconst (v := nI 1) hx hb dX6_hoursToTrip_18 (by decide) ?_
        refine lv_icmp_ne (tgt := 33) hx hb dX6_hoursToTrip_19 (by decide) (fun c19 => ?_) (fun c19 => ?_)
        · refine lv_aload_n hx hb dX6_hoursToTrip_33 rfl (lv_at hl 1 rfl) ?_
          refine md_cV0 (As := []) (rest := []) hx hb hown htg hK hI hS hP hml hl.1 (m6_bringBack l D ct ad _ _ _ _ ) cw_X6_193 rfl rfl ⟨Nat.le_of_ble_eq_true rfl, Nat.le_of_ble_eq_true rfl⟩ (Nat.le_of_ble_eq_true rfl) dX6_hoursToTrip_34 ⟨Nat.le_refl _, Nat.le_refl _⟩ (fun H locs hP hS => ?_)
          refine lv_iload_n hx hb dX6_hoursToTrip_37 rfl (lv_at hl 0 rfl) ?_
          refine lv_bipush (v := nI 96) hx hb dX6_hoursToTrip_38 (by decide) ?_
          refine lv_icmp_gtN (tgt := 47) hx hb (by omega) (by omega) dX6_hoursToTrip_40 (by decide) (fun c40 => ?_) (fun c40 => ?_)
          · refine lv_iconst (v := -1) hx hb dX6_hoursToTrip_47 (by decide) ?_
            refine fr_iret hx hb hr hlocks hK hI hS rfl dX6_hoursToTrip_48 ?_ ?_
            · first | (exfalso; omega) | (rw [← hres, show f = (f - 1) + 1 from by omega]; simp only [htF, c9, Nat.not_lt.mpr c9, c19, c40, Nat.not_le.mpr c40, decide_true, decide_false, Bool.and_true, Bool.true_and, Bool.and_false, Bool.false_and, Bool.or_true, Bool.true_or, Bool.or_false, Bool.false_or, Bool.and_self, Bool.or_self, if_true, if_false, eq_self, Bool.false_eq_true, Bool.true_eq_false, reduceCtorEq, nI_0, not_true_eq_false, not_false_eq_true, and_true, true_and, and_false, false_and, or_true, true_or, or_false, false_or, and_self, or_self, Int32.add_zero]; done)
            · exact hP
          · refine lv_iload_n hx hb dX6_hoursToTrip_43 rfl (lv_at hl 0 rfl) ?_
            refine lv_goto (tgt := 48) hx hb dX6_hoursToTrip_44 (by decide) ?_
            refine fr_iret hx hb hr hlocks hK hI hS rfl dX6_hoursToTrip_48 ?_ ?_
            · first | (exfalso; omega) | (rw [← hres, show f = (f - 1) + 1 from by omega]; simp only [htF, c9, Nat.not_lt.mpr c9, c19, c40, Nat.not_lt.mpr c40, decide_true, decide_false, Bool.and_true, Bool.true_and, Bool.and_false, Bool.false_and, Bool.or_true, Bool.true_or, Bool.or_false, Bool.false_or, Bool.and_self, Bool.or_self, if_true, if_false, eq_self, Bool.false_eq_true, Bool.true_eq_false, reduceCtorEq, nI_0, not_true_eq_false, not_false_eq_true, and_true, true_and, and_false, false_and, or_true, true_or, or_false, false_or, and_self, or_self, Int32.add_zero]; done)
            · exact hP
        · refine lv_aload_n hx hb dX6_hoursToTrip_22 rfl (lv_at hl 1 rfl) ?_
          refine md_cVr (As := []) (rest := []) hx hb hown htg hK hI hS hP hml hl.1 (m6_hour l D ct ad _ _ _ _ n (hsZ_zW hw i)) cw_X6_91 rfl rfl ⟨Nat.le_of_ble_eq_true rfl, Nat.le_of_ble_eq_true rfl⟩ (Nat.le_of_ble_eq_true rfl) dX6_hoursToTrip_23 ⟨Nat.le_refl _, Nat.le_refl _⟩ (fun H locs hP hS => ?_)
          refine lv_pop hx hb dX6_hoursToTrip_26 rfl ?_
          refine lv_iinc (v := nI (i + 1)) (lv' := [(2, .int (nI (i + 1))), (0, .ref (ad 0)), (1, .int (nI b))]) hx hb dX6_hoursToTrip_27 hl (k := 0) rfl (nI_add i 1) (by decide) rfl (fun ls hl => ?_)
          refine lv_goto (tgt := 6) hx hb dX6_hoursToTrip_30 (by decide) ?_
          have hl := lv_sub (l' := [(2, .int (nI (i + 1))), (0, .ref (ad 0)), (1, .int (nI b))]) hl [0, 1, 2] rfl
          have hP := fP.eqc (congrArg (fun v9 => mdc ct ad v9 g hs (va_up F 5 Z)) (show (hrZ (hsZ Z n i) n) = (hsZ Z n (i + 1)) from by rfl)) hP
          exact ih6 (f - 1) (i + 1) (by omega) (by omega) (by rw [show f = (f - 1) + 1 from by omega] at hres; simpa only [htF, if_pos c9, if_pos c19] using hres) (by omega) _ _ hP hS _ hl
  have hl := lv_sub (l' := [(2, .int (nI 0)), (0, .ref (ad 0)), (1, .int (nI b))]) hl [0, 1, 2] rfl
  have hP := fP.eqc (congrArg (fun v9 => mdc ct ad v9 g hs (va_up F 5 Z)) (show Z = (hsZ Z n 0) from by rfl)) hP
  exact lp6 (98 + 1) 98 0 (rfl) (by omega) (rfl) (Nat.lt_succ_self _) _ _ hP hS _ hl
set_option maxRecDepth 100000 in
set_option maxHeartbeats 4000000 in
theorem m6_bestFor (l : Launch) (D : va_G) (ct : Nat → ClassId) (ad : Nat → Nat) (Z g : Nat → Int32) (hs : Int64) (F : Nat → Nat → Int32) (a : Nat) (n : Nat)  (hw : zW Z n) (han : a < n) : FMet l yX6_bestFor cX6_bestFor 9 (some .int) 8 185 D ct 8 ad [.ref (ad 0), .int (nI a)] (mdc ct ad Z g hs F) (some (.int ((bfS Z n a 12).1))) (mdc ct ad Z g hs (sp5 F Z (bfU Z n a 12))) := by
  refine FMet.of (by decide +kernel) (Nat.le_of_ble_eq_true rfl) ?_
  intro p e s m args below meth c ls hx hb hr hml hown hlocks htg hK hI hP hS hl
  have hl : lv_has ls 9 [(0, .ref (ad 0)), (1, .int (nI a))] := hl
  have hn10 := hw.1
  refine lv_iconst (v := -1) hx hb dX6_bestFor_0 (by decide) ?_
  refine lv_istore_n (lv' := [(2, .int (-1)), (0, .ref (ad 0)), (1, .int (nI a))]) hx hb dX6_bestFor_1 rfl hl (by decide) rfl (fun ls hl => ?_)
  refine lv_iconst (v := nI 0) hx hb dX6_bestFor_2 (by decide) ?_
  refine lv_istore_n (lv' := [(3, .int (nI 0)), (2, .int (-1)), (0, .ref (ad 0)), (1, .int (nI a))]) hx hb dX6_bestFor_3 rfl hl (by decide) rfl (fun ls hl => ?_)
  refine lv_iconst (v := nI 0) hx hb dX6_bestFor_4 (by decide) ?_
  refine lv_istore (lv' := [(4, .int (nI 0)), (3, .int (nI 0)), (2, .int (-1)), (0, .ref (ad 0)), (1, .int (nI a))]) hx hb dX6_bestFor_5 hl (by decide) rfl (fun ls hl => ?_)
  refine lv_iconst (v := nI 0) hx hb dX6_bestFor_7 (by decide) ?_
  refine lv_istore (lv' := [(5, .int (nI 0)), (4, .int (nI 0)), (3, .int (nI 0)), (2, .int (-1)), (0, .ref (ad 0)), (1, .int (nI a))]) hx hb dX6_bestFor_8 hl (by decide) rfl (fun ls hl => ?_)
  have lp10 : ∀ (fu10 : Nat) (i : Nat), i ≤ 12 → 12 - i < fu10 → ∀ (H : Heap) (locs : List Loc), fP D 8 ad (mdc ct ad Z g hs (sp5 F Z (bfU Z n a i))) H → va_S (fA 8 ad) s.heap H locs → ∀ (ls : Array Slot), lv_has ls 9 [(5, .int (nI i)), (4, .int ((bfS Z n a i).2.2)), (3, .int ((bfS Z n a i).2.1)), (2, .int ((bfS Z n a i).1)), (0, .ref (ad 0)), (1, .int (nI a))] → W p l e ({ frames := 8, cells := 0, slots := 0, locals := 185 }) s m args below meth c H locs 0 0 (MQ below (fQ D ct 8 ad (some (.int ((bfS Z n a 12).1))) (mdc ct ad Z g hs (sp5 F Z (bfU Z n a 12)))) args s 0 0 (fA 8 ad)) (F0 m 10 ls []) := by
    intro fu10
    induction fu10 with
    | zero => intro i hi hfu10; exact absurd hfu10 (Nat.not_lt_zero _)
    | succ fu10 ih10 =>
      intro i hi hfu10 H locs hP hS ls hl
      refine lv_iload hx hb dX6_bestFor_10 (lv_at hl 0 rfl) ?_
      refine lv_bipush (v := nI 12) hx hb dX6_bestFor_12 (by decide) ?_
      refine lv_icmp_geN (tgt := 126) hx hb (by omega) (by omega) dX6_bestFor_14 (by decide) (fun c14 => ?_) (fun c14 => ?_)
      · obtain rfl : i = 12 := by omega
        refine lv_iload_n hx hb dX6_bestFor_126 rfl (lv_at hl 3 rfl) ?_
        refine fr_iret hx hb hr hlocks hK hI hS rfl dX6_bestFor_127 ?_ ?_
        · exact rfl
        · exact hP
      · refine lv_aload_n hx hb dX6_bestFor_17 rfl (lv_at hl 4 rfl) ?_
        refine lv_iload_n hx hb dX6_bestFor_18 rfl (lv_at hl 5 rfl) ?_
        refine lv_iload hx hb dX6_bestFor_19 (lv_at hl 0 rfl) ?_
        refine md_cVr (As := [.int (nI a), .int (nI i)]) (rest := []) hx hb hown htg hK hI hS hP hml hl.1 (m6_isTaken l D ct ad _ _ _ _ a (nI i) n hw) cw_X6_187 rfl rfl ⟨Nat.le_of_ble_eq_true rfl, Nat.le_of_ble_eq_true rfl⟩ (Nat.le_of_ble_eq_true rfl) dX6_bestFor_21 ⟨Nat.le_refl _, Nat.le_refl _⟩ (fun H locs hP hS => ?_)
        refine lv_ifneB (tgt := 120) hx hb dX6_bestFor_24 (by decide) (fun c24 => ?_) (fun c24 => ?_)
        · refine lv_iinc (v := nI (i + 1)) (lv' := [(5, .int (nI (i + 1))), (4, .int ((bfS Z n a i).2.2)), (3, .int ((bfS Z n a i).2.1)), (2, .int ((bfS Z n a i).1)), (0, .ref (ad 0)), (1, .int (nI a))]) hx hb dX6_bestFor_120 hl (k := 0) rfl (nI_add i 1) (by decide) rfl (fun ls hl => ?_)
          refine lv_goto (tgt := 10) hx hb dX6_bestFor_123 (by decide) ?_
          have hl := lv_sub (l' := [(5, .int (nI (i + 1))), (4, .int ((bfS Z n a i).2.2)), (3, .int ((bfS Z n a i).2.1)), (2, .int ((bfS Z n a i).1)), (0, .ref (ad 0)), (1, .int (nI a))]) hl [0, 1, 2, 3, 4, 5] rfl
          have e4 : Value.int ((bfS Z n a i).2.2) = Value.int ((bfS Z n a (i + 1)).2.2) := by first | (exfalso; omega) | (simp only [bfS, c14, Nat.not_le.mpr c14, c24, decide_true, decide_false, Bool.and_true, Bool.true_and, Bool.and_false, Bool.false_and, Bool.or_true, Bool.true_or, Bool.or_false, Bool.false_or, Bool.and_self, Bool.or_self, if_true, if_false, eq_self, Bool.false_eq_true, Bool.true_eq_false, reduceCtorEq, nI_0, not_true_eq_false, not_false_eq_true, and_true, true_and, and_false, false_and, or_true, true_or, or_false, false_or, and_self, or_self, Int32.add_zero]; done) | (simp [bfS, c14, Nat.not_le.mpr c14, c24, nI_0]; done) | (simp only [bfS, c14, Nat.not_le.mpr c14, c24, decide_true, decide_false, Bool.and_true, Bool.true_and, Bool.and_false, Bool.false_and, Bool.or_true, Bool.true_or, Bool.or_false, Bool.false_or, Bool.and_self, Bool.or_self, if_true, if_false, eq_self, Bool.false_eq_true, Bool.true_eq_false, reduceCtorEq, nI_0, not_true_eq_false, not_false_eq_true, and_true, true_and, and_false, false_and, or_true, true_or, or_false, false_or, and_self, or_self, Int32.add_zero]; omega) | (simp [bfS, c14, Nat.not_le.mpr c14, c24, nI_0]; omega)
          have e3 : Value.int ((bfS Z n a i).2.1) = Value.int ((bfS Z n a (i + 1)).2.1) := by first | (exfalso; omega) | (simp only [bfS, c14, Nat.not_le.mpr c14, c24, decide_true, decide_false, Bool.and_true, Bool.true_and, Bool.and_false, Bool.false_and, Bool.or_true, Bool.true_or, Bool.or_false, Bool.false_or, Bool.and_self, Bool.or_self, if_true, if_false, eq_self, Bool.false_eq_true, Bool.true_eq_false, reduceCtorEq, nI_0, not_true_eq_false, not_false_eq_true, and_true, true_and, and_false, false_and, or_true, true_or, or_false, false_or, and_self, or_self, Int32.add_zero]; done) | (simp [bfS, c14, Nat.not_le.mpr c14, c24, nI_0]; done) | (simp only [bfS, c14, Nat.not_le.mpr c14, c24, decide_true, decide_false, Bool.and_true, Bool.true_and, Bool.and_false, Bool.false_and, Bool.or_true, Bool.true_or, Bool.or_false, Bool.false_or, Bool.and_self, Bool.or_self, if_true, if_false, eq_self, Bool.false_eq_true, Bool.true_eq_false, reduceCtorEq, nI_0, not_true_eq_false, not_false_eq_true, and_true, true_and, and_false, false_and, or_true, true_or, or_false, false_or, and_self, or_self, Int32.add_zero]; omega) | (simp [bfS, c14, Nat.not_le.mpr c14, c24, nI_0]; omega)
          have e2 : Value.int ((bfS Z n a i).1) = Value.int ((bfS Z n a (i + 1)).1) := by first | (exfalso; omega) | (simp only [bfS, c14, Nat.not_le.mpr c14, c24, decide_true, decide_false, Bool.and_true, Bool.true_and, Bool.and_false, Bool.false_and, Bool.or_true, Bool.true_or, Bool.or_false, Bool.false_or, Bool.and_self, Bool.or_self, if_true, if_false, eq_self, Bool.false_eq_true, Bool.true_eq_false, reduceCtorEq, nI_0, not_true_eq_false, not_false_eq_true, and_true, true_and, and_false, false_and, or_true, true_or, or_false, false_or, and_self, or_self, Int32.add_zero]; done) | (simp [bfS, c14, Nat.not_le.mpr c14, c24, nI_0]; done) | (simp only [bfS, c14, Nat.not_le.mpr c14, c24, decide_true, decide_false, Bool.and_true, Bool.true_and, Bool.and_false, Bool.false_and, Bool.or_true, Bool.true_or, Bool.or_false, Bool.false_or, Bool.and_self, Bool.or_self, if_true, if_false, eq_self, Bool.false_eq_true, Bool.true_eq_false, reduceCtorEq, nI_0, not_true_eq_false, not_false_eq_true, and_true, true_and, and_false, false_and, or_true, true_or, or_false, false_or, and_self, or_self, Int32.add_zero]; omega) | (simp [bfS, c14, Nat.not_le.mpr c14, c24, nI_0]; omega)
          have hl := lv_hasE hl (lcons rfl (lcons e4 (lcons e3 (lcons e2 (lcons rfl (lcons rfl rfl))))))
          have hP := fP.eqc (congrArg (fun v9 => mdc ct ad Z g hs v9) (show (sp5 F Z (bfU Z n a i)) = (sp5 F Z (bfU Z n a (i + 1))) from by (first | (simp only [bfU, c24, sp5_sp5, Bool.or_self, Bool.not_false, Bool.not_true, Bool.or_false, Bool.or_true]; done) | rfl))) hP
          exact ih10 (i + 1) (by omega) (by omega) _ _ hP hS _ hl
        · refine lv_aload_n hx hb dX6_bestFor_27 rfl (lv_at hl 4 rfl) ?_
          refine lv_iload_n hx hb dX6_bestFor_28 rfl (lv_at hl 5 rfl) ?_
          refine lv_iload hx hb dX6_bestFor_29 (lv_at hl 0 rfl) ?_
          refine lv_bipush (v := nI 24) hx hb dX6_bestFor_31 (by decide) ?_
          refine lv_iconst (v := nI 1) hx hb dX6_bestFor_33 (by decide) ?_
          refine md_cVr (As := [.int (nI a), .int (nI i), .int (nI 24), .int (nI 1)]) (rest := []) hx hb hown htg hK hI hS hP hml hl.1 (m6_wouldPlug l D ct ad _ _ _ _ a i 24 1 n hw (by omega) (by omega) (by omega) (by omega)) cw_X6_196 rfl rfl ⟨Nat.le_of_ble_eq_true rfl, Nat.le_of_ble_eq_true rfl⟩ (Nat.le_of_ble_eq_true rfl) dX6_bestFor_34 ⟨Nat.le_refl _, Nat.le_refl _⟩ (fun H locs hP hS => ?_)
          refine lv_istore (lv' := [(6, .int (wpR Z n a i 24 1)), (5, .int (nI i)), (4, .int ((bfS Z n a i).2.2)), (3, .int ((bfS Z n a i).2.1)), (2, .int ((bfS Z n a i).1)), (0, .ref (ad 0)), (1, .int (nI a))]) hx hb dX6_bestFor_37 hl (by decide) rfl (fun ls hl => ?_)
          refine lv_aload_n hx hb dX6_bestFor_39 rfl (lv_at hl 5 rfl) ?_
          refine lv_iload_n hx hb dX6_bestFor_40 rfl (lv_at hl 6 rfl) ?_
          refine lv_iload hx hb dX6_bestFor_41 (lv_at hl 1 rfl) ?_
          refine lv_bipush (v := nI 24) hx hb dX6_bestFor_43 (by decide) ?_
          refine lv_iconst (v := nI 0) hx hb dX6_bestFor_45 (by decide) ?_
          refine md_cVr (As := [.int (nI a), .int (nI i), .int (nI 24), .int (nI 0)]) (rest := []) hx hb hown htg hK hI hS hP hml hl.1 (m6_wouldPlug l D ct ad _ _ _ _ a i 24 0 n hw (by omega) (by omega) (by omega) (by omega)) cw_X6_196 rfl rfl ⟨Nat.le_of_ble_eq_true rfl, Nat.le_of_ble_eq_true rfl⟩ (Nat.le_of_ble_eq_true rfl) dX6_bestFor_46 ⟨Nat.le_refl _, Nat.le_refl _⟩ (fun H locs hP hS => ?_)
          refine lv_istore (lv' := [(7, .int (wpR Z n a i 24 0)), (6, .int (wpR Z n a i 24 1)), (5, .int (nI i)), (4, .int ((bfS Z n a i).2.2)), (3, .int ((bfS Z n a i).2.1)), (2, .int ((bfS Z n a i).1)), (0, .ref (ad 0)), (1, .int (nI a))]) hx hb dX6_bestFor_49 hl (by decide) rfl (fun ls hl => ?_)
          refine lv_iload_n hx hb dX6_bestFor_51 rfl (lv_at hl 5 rfl) ?_
          refine lv_iconst (v := -1) hx hb dX6_bestFor_52 (by decide) ?_
          refine lv_icmp_eq (tgt := 75) hx hb dX6_bestFor_53 (by decide) (fun c53 => ?_) (fun c53 => ?_)
          · refine lv_iconst (v := nI 1) hx hb dX6_bestFor_75 (by decide) ?_
            refine lv_goto (tgt := 80) hx hb dX6_bestFor_76 (by decide) ?_
            refine lv_istore (lv' := [(8, .int (nI 1)), (7, .int (wpR Z n a i 24 0)), (6, .int (wpR Z n a i 24 1)), (5, .int (nI i)), (4, .int ((bfS Z n a i).2.2)), (3, .int ((bfS Z n a i).2.1)), (2, .int ((bfS Z n a i).1)), (0, .ref (ad 0)), (1, .int (nI a))]) hx hb dX6_bestFor_80 hl (by decide) rfl (fun ls hl => ?_)
            refine lv_iload hx hb dX6_bestFor_82 (lv_at hl 0 rfl) ?_
            refine lv_if_eq (tgt := 92) hx hb dX6_bestFor_84 (by decide) (fun h => absurd h (by decide)) (fun _ => ?_)
            refine lv_iload hx hb dX6_bestFor_87 (lv_at hl 3 rfl) ?_
            refine lv_goto (tgt := 93) hx hb dX6_bestFor_89 (by decide) ?_
            refine lv_istore_n (lv' := [(2, .int (nI i)), (8, .int (nI 1)), (7, .int (wpR Z n a i 24 0)), (6, .int (wpR Z n a i 24 1)), (5, .int (nI i)), (4, .int ((bfS Z n a i).2.2)), (3, .int ((bfS Z n a i).2.1)), (0, .ref (ad 0)), (1, .int (nI a))]) hx hb dX6_bestFor_93 rfl hl (by decide) rfl (fun ls hl => ?_)
            refine lv_iload hx hb dX6_bestFor_94 (lv_at hl 1 rfl) ?_
            refine lv_if_eq (tgt := 104) hx hb dX6_bestFor_96 (by decide) (fun h => absurd h (by decide)) (fun _ => ?_)
            refine lv_iload hx hb dX6_bestFor_99 (lv_at hl 3 rfl) ?_
            refine lv_goto (tgt := 105) hx hb dX6_bestFor_101 (by decide) ?_
            refine lv_istore_n (lv' := [(3, .int (wpR Z n a i 24 1)), (2, .int (nI i)), (8, .int (nI 1)), (7, .int (wpR Z n a i 24 0)), (6, .int (wpR Z n a i 24 1)), (5, .int (nI i)), (4, .int ((bfS Z n a i).2.2)), (0, .ref (ad 0)), (1, .int (nI a))]) hx hb dX6_bestFor_105 rfl hl (by decide) rfl (fun ls hl => ?_)
            refine lv_iload hx hb dX6_bestFor_106 (lv_at hl 2 rfl) ?_
            refine lv_if_eq (tgt := 116) hx hb dX6_bestFor_108 (by decide) (fun h => absurd h (by decide)) (fun _ => ?_)
            refine lv_iload hx hb dX6_bestFor_111 (lv_at hl 3 rfl) ?_
            refine lv_goto (tgt := 118) hx hb dX6_bestFor_113 (by decide) ?_
            refine lv_istore (lv' := [(4, .int (wpR Z n a i 24 0)), (3, .int (wpR Z n a i 24 1)), (2, .int (nI i)), (8, .int (nI 1)), (7, .int (wpR Z n a i 24 0)), (6, .int (wpR Z n a i 24 1)), (5, .int (nI i)), (0, .ref (ad 0)), (1, .int (nI a))]) hx hb dX6_bestFor_118 hl (by decide) rfl (fun ls hl => ?_)
            refine lv_iinc (v := nI (i + 1)) (lv' := [(5, .int (nI (i + 1))), (4, .int (wpR Z n a i 24 0)), (3, .int (wpR Z n a i 24 1)), (2, .int (nI i)), (8, .int (nI 1)), (7, .int (wpR Z n a i 24 0)), (6, .int (wpR Z n a i 24 1)), (0, .ref (ad 0)), (1, .int (nI a))]) hx hb dX6_bestFor_120 hl (k := 6) rfl (nI_add i 1) (by decide) rfl (fun ls hl => ?_)
            refine lv_goto (tgt := 10) hx hb dX6_bestFor_123 (by decide) ?_
            have hl := lv_sub (l' := [(5, .int (nI (i + 1))), (4, .int (wpR Z n a i 24 0)), (3, .int (wpR Z n a i 24 1)), (2, .int (nI i)), (0, .ref (ad 0)), (1, .int (nI a))]) hl [0, 1, 2, 3, 7, 8] rfl
            have e4 : Value.int (wpR Z n a i 24 0) = Value.int ((bfS Z n a (i + 1)).2.2) := by first | (exfalso; omega) | (simp only [bfS, c14, Nat.not_le.mpr c14, c24, c53, decide_true, decide_false, Bool.and_true, Bool.true_and, Bool.and_false, Bool.false_and, Bool.or_true, Bool.true_or, Bool.or_false, Bool.false_or, Bool.and_self, Bool.or_self, if_true, if_false, eq_self, Bool.false_eq_true, Bool.true_eq_false, reduceCtorEq, nI_0, not_true_eq_false, not_false_eq_true, and_true, true_and, and_false, false_and, or_true, true_or, or_false, false_or, and_self, or_self, Int32.add_zero]; done) | (simp [bfS, c14, Nat.not_le.mpr c14, c24, c53, nI_0]; done) | (simp only [bfS, c14, Nat.not_le.mpr c14, c24, c53, decide_true, decide_false, Bool.and_true, Bool.true_and, Bool.and_false, Bool.false_and, Bool.or_true, Bool.true_or, Bool.or_false, Bool.false_or, Bool.and_self, Bool.or_self, if_true, if_false, eq_self, Bool.false_eq_true, Bool.true_eq_false, reduceCtorEq, nI_0, not_true_eq_false, not_false_eq_true, and_true, true_and, and_false, false_and, or_true, true_or, or_false, false_or, and_self, or_self, Int32.add_zero]; omega) | (simp [bfS, c14, Nat.not_le.mpr c14, c24, c53, nI_0]; omega)
            have e3 : Value.int (wpR Z n a i 24 1) = Value.int ((bfS Z n a (i + 1)).2.1) := by first | (exfalso; omega) | (simp only [bfS, c14, Nat.not_le.mpr c14, c24, c53, decide_true, decide_false, Bool.and_true, Bool.true_and, Bool.and_false, Bool.false_and, Bool.or_true, Bool.true_or, Bool.or_false, Bool.false_or, Bool.and_self, Bool.or_self, if_true, if_false, eq_self, Bool.false_eq_true, Bool.true_eq_false, reduceCtorEq, nI_0, not_true_eq_false, not_false_eq_true, and_true, true_and, and_false, false_and, or_true, true_or, or_false, false_or, and_self, or_self, Int32.add_zero]; done) | (simp [bfS, c14, Nat.not_le.mpr c14, c24, c53, nI_0]; done) | (simp only [bfS, c14, Nat.not_le.mpr c14, c24, c53, decide_true, decide_false, Bool.and_true, Bool.true_and, Bool.and_false, Bool.false_and, Bool.or_true, Bool.true_or, Bool.or_false, Bool.false_or, Bool.and_self, Bool.or_self, if_true, if_false, eq_self, Bool.false_eq_true, Bool.true_eq_false, reduceCtorEq, nI_0, not_true_eq_false, not_false_eq_true, and_true, true_and, and_false, false_and, or_true, true_or, or_false, false_or, and_self, or_self, Int32.add_zero]; omega) | (simp [bfS, c14, Nat.not_le.mpr c14, c24, c53, nI_0]; omega)
            have e2 : Value.int (nI i) = Value.int ((bfS Z n a (i + 1)).1) := by first | (exfalso; omega) | (simp only [bfS, c14, Nat.not_le.mpr c14, c24, c53, decide_true, decide_false, Bool.and_true, Bool.true_and, Bool.and_false, Bool.false_and, Bool.or_true, Bool.true_or, Bool.or_false, Bool.false_or, Bool.and_self, Bool.or_self, if_true, if_false, eq_self, Bool.false_eq_true, Bool.true_eq_false, reduceCtorEq, nI_0, not_true_eq_false, not_false_eq_true, and_true, true_and, and_false, false_and, or_true, true_or, or_false, false_or, and_self, or_self, Int32.add_zero]; done) | (simp [bfS, c14, Nat.not_le.mpr c14, c24, c53, nI_0]; done) | (simp only [bfS, c14, Nat.not_le.mpr c14, c24, c53, decide_true, decide_false, Bool.and_true, Bool.true_and, Bool.and_false, Bool.false_and, Bool.or_true, Bool.true_or, Bool.or_false, Bool.false_or, Bool.and_self, Bool.or_self, if_true, if_false, eq_self, Bool.false_eq_true, Bool.true_eq_false, reduceCtorEq, nI_0, not_true_eq_false, not_false_eq_true, and_true, true_and, and_false, false_and, or_true, true_or, or_false, false_or, and_self, or_self, Int32.add_zero]; omega) | (simp [bfS, c14, Nat.not_le.mpr c14, c24, c53, nI_0]; omega)
            have hl := lv_hasE hl (lcons rfl (lcons e4 (lcons e3 (lcons e2 (lcons rfl (lcons rfl rfl))))))
            have hP := fP.eqc (congrArg (fun v9 => mdc ct ad Z g hs v9) (show (sp5 (sp5 (sp5 F Z (bfU Z n a i)) Z (!tknB Z n a (nI i))) Z (!tknB Z n a (nI i))) = (sp5 F Z (bfU Z n a (i + 1))) from by (first | (simp only [bfU, c24, sp5_sp5, Bool.or_self, Bool.not_false, Bool.not_true, Bool.or_false, Bool.or_true]; done) | rfl))) hP
            exact ih10 (i + 1) (by omega) (by omega) _ _ hP hS _ hl
          · refine lv_iload hx hb dX6_bestFor_56 (lv_at hl 1 rfl) ?_
            refine lv_iload_n hx hb dX6_bestFor_58 rfl (lv_at hl 4 rfl) ?_
            refine lv_icmp_ltR (tgt := 75) hx hb dX6_bestFor_59 (by decide) (fun c59 => ?_) (fun c59 => ?_)
            · refine lv_iconst (v := nI 1) hx hb dX6_bestFor_75 (by decide) ?_
              refine lv_goto (tgt := 80) hx hb dX6_bestFor_76 (by decide) ?_
              refine lv_istore (lv' := [(8, .int (nI 1)), (7, .int (wpR Z n a i 24 0)), (6, .int (wpR Z n a i 24 1)), (5, .int (nI i)), (4, .int ((bfS Z n a i).2.2)), (3, .int ((bfS Z n a i).2.1)), (2, .int ((bfS Z n a i).1)), (0, .ref (ad 0)), (1, .int (nI a))]) hx hb dX6_bestFor_80 hl (by decide) rfl (fun ls hl => ?_)
              refine lv_iload hx hb dX6_bestFor_82 (lv_at hl 0 rfl) ?_
              refine lv_if_eq (tgt := 92) hx hb dX6_bestFor_84 (by decide) (fun h => absurd h (by decide)) (fun _ => ?_)
              refine lv_iload hx hb dX6_bestFor_87 (lv_at hl 3 rfl) ?_
              refine lv_goto (tgt := 93) hx hb dX6_bestFor_89 (by decide) ?_
              refine lv_istore_n (lv' := [(2, .int (nI i)), (8, .int (nI 1)), (7, .int (wpR Z n a i 24 0)), (6, .int (wpR Z n a i 24 1)), (5, .int (nI i)), (4, .int ((bfS Z n a i).2.2)), (3, .int ((bfS Z n a i).2.1)), (0, .ref (ad 0)), (1, .int (nI a))]) hx hb dX6_bestFor_93 rfl hl (by decide) rfl (fun ls hl => ?_)
              refine lv_iload hx hb dX6_bestFor_94 (lv_at hl 1 rfl) ?_
              refine lv_if_eq (tgt := 104) hx hb dX6_bestFor_96 (by decide) (fun h => absurd h (by decide)) (fun _ => ?_)
              refine lv_iload hx hb dX6_bestFor_99 (lv_at hl 3 rfl) ?_
              refine lv_goto (tgt := 105) hx hb dX6_bestFor_101 (by decide) ?_
              refine lv_istore_n (lv' := [(3, .int (wpR Z n a i 24 1)), (2, .int (nI i)), (8, .int (nI 1)), (7, .int (wpR Z n a i 24 0)), (6, .int (wpR Z n a i 24 1)), (5, .int (nI i)), (4, .int ((bfS Z n a i).2.2)), (0, .ref (ad 0)), (1, .int (nI a))]) hx hb dX6_bestFor_105 rfl hl (by decide) rfl (fun ls hl => ?_)
              refine lv_iload hx hb dX6_bestFor_106 (lv_at hl 2 rfl) ?_
              refine lv_if_eq (tgt := 116) hx hb dX6_bestFor_108 (by decide) (fun h => absurd h (by decide)) (fun _ => ?_)
              refine lv_iload hx hb dX6_bestFor_111 (lv_at hl 3 rfl) ?_
              refine lv_goto (tgt := 118) hx hb dX6_bestFor_113 (by decide) ?_
              refine lv_istore (lv' := [(4, .int (wpR Z n a i 24 0)), (3, .int (wpR Z n a i 24 1)), (2, .int (nI i)), (8, .int (nI 1)), (7, .int (wpR Z n a i 24 0)), (6, .int (wpR Z n a i 24 1)), (5, .int (nI i)), (0, .ref (ad 0)), (1, .int (nI a))]) hx hb dX6_bestFor_118 hl (by decide) rfl (fun ls hl => ?_)
              refine lv_iinc (v := nI (i + 1)) (lv' := [(5, .int (nI (i + 1))), (4, .int (wpR Z n a i 24 0)), (3, .int (wpR Z n a i 24 1)), (2, .int (nI i)), (8, .int (nI 1)), (7, .int (wpR Z n a i 24 0)), (6, .int (wpR Z n a i 24 1)), (0, .ref (ad 0)), (1, .int (nI a))]) hx hb dX6_bestFor_120 hl (k := 6) rfl (nI_add i 1) (by decide) rfl (fun ls hl => ?_)
              refine lv_goto (tgt := 10) hx hb dX6_bestFor_123 (by decide) ?_
              have hl := lv_sub (l' := [(5, .int (nI (i + 1))), (4, .int (wpR Z n a i 24 0)), (3, .int (wpR Z n a i 24 1)), (2, .int (nI i)), (0, .ref (ad 0)), (1, .int (nI a))]) hl [0, 1, 2, 3, 7, 8] rfl
              have e4 : Value.int (wpR Z n a i 24 0) = Value.int ((bfS Z n a (i + 1)).2.2) := by first | (exfalso; omega) | (simp only [bfS, c14, Nat.not_le.mpr c14, c24, c53, c59, Int32.not_le.mpr c59, decide_true, decide_false, Bool.and_true, Bool.true_and, Bool.and_false, Bool.false_and, Bool.or_true, Bool.true_or, Bool.or_false, Bool.false_or, Bool.and_self, Bool.or_self, if_true, if_false, eq_self, Bool.false_eq_true, Bool.true_eq_false, reduceCtorEq, nI_0, not_true_eq_false, not_false_eq_true, and_true, true_and, and_false, false_and, or_true, true_or, or_false, false_or, and_self, or_self, Int32.add_zero]; done) | (simp [bfS, c14, Nat.not_le.mpr c14, c24, c53, c59, Int32.not_le.mpr c59, nI_0]; done) | (simp only [bfS, c14, Nat.not_le.mpr c14, c24, c53, c59, Int32.not_le.mpr c59, decide_true, decide_false, Bool.and_true, Bool.true_and, Bool.and_false, Bool.false_and, Bool.or_true, Bool.true_or, Bool.or_false, Bool.false_or, Bool.and_self, Bool.or_self, if_true, if_false, eq_self, Bool.false_eq_true, Bool.true_eq_false, reduceCtorEq, nI_0, not_true_eq_false, not_false_eq_true, and_true, true_and, and_false, false_and, or_true, true_or, or_false, false_or, and_self, or_self, Int32.add_zero]; omega) | (simp [bfS, c14, Nat.not_le.mpr c14, c24, c53, c59, Int32.not_le.mpr c59, nI_0]; omega)
              have e3 : Value.int (wpR Z n a i 24 1) = Value.int ((bfS Z n a (i + 1)).2.1) := by first | (exfalso; omega) | (simp only [bfS, c14, Nat.not_le.mpr c14, c24, c53, c59, Int32.not_le.mpr c59, decide_true, decide_false, Bool.and_true, Bool.true_and, Bool.and_false, Bool.false_and, Bool.or_true, Bool.true_or, Bool.or_false, Bool.false_or, Bool.and_self, Bool.or_self, if_true, if_false, eq_self, Bool.false_eq_true, Bool.true_eq_false, reduceCtorEq, nI_0, not_true_eq_false, not_false_eq_true, and_true, true_and, and_false, false_and, or_true, true_or, or_false, false_or, and_self, or_self, Int32.add_zero]; done) | (simp [bfS, c14, Nat.not_le.mpr c14, c24, c53, c59, Int32.not_le.mpr c59, nI_0]; done) | (simp only [bfS, c14, Nat.not_le.mpr c14, c24, c53, c59, Int32.not_le.mpr c59, decide_true, decide_false, Bool.and_true, Bool.true_and, Bool.and_false, Bool.false_and, Bool.or_true, Bool.true_or, Bool.or_false, Bool.false_or, Bool.and_self, Bool.or_self, if_true, if_false, eq_self, Bool.false_eq_true, Bool.true_eq_false, reduceCtorEq, nI_0, not_true_eq_false, not_false_eq_true, and_true, true_and, and_false, false_and, or_true, true_or, or_false, false_or, and_self, or_self, Int32.add_zero]; omega) | (simp [bfS, c14, Nat.not_le.mpr c14, c24, c53, c59, Int32.not_le.mpr c59, nI_0]; omega)
              have e2 : Value.int (nI i) = Value.int ((bfS Z n a (i + 1)).1) := by first | (exfalso; omega) | (simp only [bfS, c14, Nat.not_le.mpr c14, c24, c53, c59, Int32.not_le.mpr c59, decide_true, decide_false, Bool.and_true, Bool.true_and, Bool.and_false, Bool.false_and, Bool.or_true, Bool.true_or, Bool.or_false, Bool.false_or, Bool.and_self, Bool.or_self, if_true, if_false, eq_self, Bool.false_eq_true, Bool.true_eq_false, reduceCtorEq, nI_0, not_true_eq_false, not_false_eq_true, and_true, true_and, and_false, false_and, or_true, true_or, or_false, false_or, and_self, or_self, Int32.add_zero]; done) | (simp [bfS, c14, Nat.not_le.mpr c14, c24, c53, c59, Int32.not_le.mpr c59, nI_0]; done) | (simp only [bfS, c14, Nat.not_le.mpr c14, c24, c53, c59, Int32.not_le.mpr c59, decide_true, decide_false, Bool.and_true, Bool.true_and, Bool.and_false, Bool.false_and, Bool.or_true, Bool.true_or, Bool.or_false, Bool.false_or, Bool.and_self, Bool.or_self, if_true, if_false, eq_self, Bool.false_eq_true, Bool.true_eq_false, reduceCtorEq, nI_0, not_true_eq_false, not_false_eq_true, and_true, true_and, and_false, false_and, or_true, true_or, or_false, false_or, and_self, or_self, Int32.add_zero]; omega) | (simp [bfS, c14, Nat.not_le.mpr c14, c24, c53, c59, Int32.not_le.mpr c59, nI_0]; omega)
              have hl := lv_hasE hl (lcons rfl (lcons e4 (lcons e3 (lcons e2 (lcons rfl (lcons rfl rfl))))))
              have hP := fP.eqc (congrArg (fun v9 => mdc ct ad Z g hs v9) (show (sp5 (sp5 (sp5 F Z (bfU Z n a i)) Z (!tknB Z n a (nI i))) Z (!tknB Z n a (nI i))) = (sp5 F Z (bfU Z n a (i + 1))) from by (first | (simp only [bfU, c24, sp5_sp5, Bool.or_self, Bool.not_false, Bool.not_true, Bool.or_false, Bool.or_true]; done) | rfl))) hP
              exact ih10 (i + 1) (by omega) (by omega) _ _ hP hS _ hl
            · refine lv_iload hx hb dX6_bestFor_62 (lv_at hl 1 rfl) ?_
              refine lv_iload_n hx hb dX6_bestFor_64 rfl (lv_at hl 4 rfl) ?_
              refine lv_icmp_ne (tgt := 79) hx hb dX6_bestFor_65 (by decide) (fun c65 => ?_) (fun c65 => ?_)
              · refine lv_iconst (v := nI 0) hx hb dX6_bestFor_79 (by decide) ?_
                refine lv_istore (lv' := [(8, .int (nI 0)), (7, .int (wpR Z n a i 24 0)), (6, .int (wpR Z n a i 24 1)), (5, .int (nI i)), (4, .int ((bfS Z n a i).2.2)), (3, .int ((bfS Z n a i).2.1)), (2, .int ((bfS Z n a i).1)), (0, .ref (ad 0)), (1, .int (nI a))]) hx hb dX6_bestFor_80 hl (by decide) rfl (fun ls hl => ?_)
                refine lv_iload hx hb dX6_bestFor_82 (lv_at hl 0 rfl) ?_
                refine lv_if_eq (tgt := 92) hx hb dX6_bestFor_84 (by decide) (fun _ => ?_) (fun h => absurd (by decide) h)
                refine lv_iload_n hx hb dX6_bestFor_92 rfl (lv_at hl 6 rfl) ?_
                refine lv_istore_n (lv' := [(2, .int ((bfS Z n a i).1)), (8, .int (nI 0)), (7, .int (wpR Z n a i 24 0)), (6, .int (wpR Z n a i 24 1)), (5, .int (nI i)), (4, .int ((bfS Z n a i).2.2)), (3, .int ((bfS Z n a i).2.1)), (0, .ref (ad 0)), (1, .int (nI a))]) hx hb dX6_bestFor_93 rfl hl (by decide) rfl (fun ls hl => ?_)
                refine lv_iload hx hb dX6_bestFor_94 (lv_at hl 1 rfl) ?_
                refine lv_if_eq (tgt := 104) hx hb dX6_bestFor_96 (by decide) (fun _ => ?_) (fun h => absurd (by decide) h)
                refine lv_iload_n hx hb dX6_bestFor_104 rfl (lv_at hl 6 rfl) ?_
                refine lv_istore_n (lv' := [(3, .int ((bfS Z n a i).2.1)), (2, .int ((bfS Z n a i).1)), (8, .int (nI 0)), (7, .int (wpR Z n a i 24 0)), (6, .int (wpR Z n a i 24 1)), (5, .int (nI i)), (4, .int ((bfS Z n a i).2.2)), (0, .ref (ad 0)), (1, .int (nI a))]) hx hb dX6_bestFor_105 rfl hl (by decide) rfl (fun ls hl => ?_)
                refine lv_iload hx hb dX6_bestFor_106 (lv_at hl 2 rfl) ?_
                refine lv_if_eq (tgt := 116) hx hb dX6_bestFor_108 (by decide) (fun _ => ?_) (fun h => absurd (by decide) h)
                refine lv_iload hx hb dX6_bestFor_116 (lv_at hl 6 rfl) ?_
                refine lv_istore (lv' := [(4, .int ((bfS Z n a i).2.2)), (3, .int ((bfS Z n a i).2.1)), (2, .int ((bfS Z n a i).1)), (8, .int (nI 0)), (7, .int (wpR Z n a i 24 0)), (6, .int (wpR Z n a i 24 1)), (5, .int (nI i)), (0, .ref (ad 0)), (1, .int (nI a))]) hx hb dX6_bestFor_118 hl (by decide) rfl (fun ls hl => ?_)
                refine lv_iinc (v := nI (i + 1)) (lv' := [(5, .int (nI (i + 1))), (4, .int ((bfS Z n a i).2.2)), (3, .int ((bfS Z n a i).2.1)), (2, .int ((bfS Z n a i).1)), (8, .int (nI 0)), (7, .int (wpR Z n a i 24 0)), (6, .int (wpR Z n a i 24 1)), (0, .ref (ad 0)), (1, .int (nI a))]) hx hb dX6_bestFor_120 hl (k := 6) rfl (nI_add i 1) (by decide) rfl (fun ls hl => ?_)
                refine lv_goto (tgt := 10) hx hb dX6_bestFor_123 (by decide) ?_
                have hl := lv_sub (l' := [(5, .int (nI (i + 1))), (4, .int ((bfS Z n a i).2.2)), (3, .int ((bfS Z n a i).2.1)), (2, .int ((bfS Z n a i).1)), (0, .ref (ad 0)), (1, .int (nI a))]) hl [0, 1, 2, 3, 7, 8] rfl
                have e4 : Value.int ((bfS Z n a i).2.2) = Value.int ((bfS Z n a (i + 1)).2.2) := by first | (exfalso; omega) | (simp only [bfS, c14, Nat.not_le.mpr c14, c24, c53, c59, Int32.not_lt.mpr c59, c65, decide_true, decide_false, Bool.and_true, Bool.true_and, Bool.and_false, Bool.false_and, Bool.or_true, Bool.true_or, Bool.or_false, Bool.false_or, Bool.and_self, Bool.or_self, if_true, if_false, eq_self, Bool.false_eq_true, Bool.true_eq_false, reduceCtorEq, nI_0, not_true_eq_false, not_false_eq_true, and_true, true_and, and_false, false_and, or_true, true_or, or_false, false_or, and_self, or_self, Int32.add_zero]; done) | (simp [bfS, c14, Nat.not_le.mpr c14, c24, c53, c59, Int32.not_lt.mpr c59, c65, nI_0]; done) | (simp only [bfS, c14, Nat.not_le.mpr c14, c24, c53, c59, Int32.not_lt.mpr c59, c65, decide_true, decide_false, Bool.and_true, Bool.true_and, Bool.and_false, Bool.false_and, Bool.or_true, Bool.true_or, Bool.or_false, Bool.false_or, Bool.and_self, Bool.or_self, if_true, if_false, eq_self, Bool.false_eq_true, Bool.true_eq_false, reduceCtorEq, nI_0, not_true_eq_false, not_false_eq_true, and_true, true_and, and_false, false_and, or_true, true_or, or_false, false_or, and_self, or_self, Int32.add_zero]; omega) | (simp [bfS, c14, Nat.not_le.mpr c14, c24, c53, c59, Int32.not_lt.mpr c59, c65, nI_0]; omega)
                have e3 : Value.int ((bfS Z n a i).2.1) = Value.int ((bfS Z n a (i + 1)).2.1) := by first | (exfalso; omega) | (simp only [bfS, c14, Nat.not_le.mpr c14, c24, c53, c59, Int32.not_lt.mpr c59, c65, decide_true, decide_false, Bool.and_true, Bool.true_and, Bool.and_false, Bool.false_and, Bool.or_true, Bool.true_or, Bool.or_false, Bool.false_or, Bool.and_self, Bool.or_self, if_true, if_false, eq_self, Bool.false_eq_true, Bool.true_eq_false, reduceCtorEq, nI_0, not_true_eq_false, not_false_eq_true, and_true, true_and, and_false, false_and, or_true, true_or, or_false, false_or, and_self, or_self, Int32.add_zero]; done) | (simp [bfS, c14, Nat.not_le.mpr c14, c24, c53, c59, Int32.not_lt.mpr c59, c65, nI_0]; done) | (simp only [bfS, c14, Nat.not_le.mpr c14, c24, c53, c59, Int32.not_lt.mpr c59, c65, decide_true, decide_false, Bool.and_true, Bool.true_and, Bool.and_false, Bool.false_and, Bool.or_true, Bool.true_or, Bool.or_false, Bool.false_or, Bool.and_self, Bool.or_self, if_true, if_false, eq_self, Bool.false_eq_true, Bool.true_eq_false, reduceCtorEq, nI_0, not_true_eq_false, not_false_eq_true, and_true, true_and, and_false, false_and, or_true, true_or, or_false, false_or, and_self, or_self, Int32.add_zero]; omega) | (simp [bfS, c14, Nat.not_le.mpr c14, c24, c53, c59, Int32.not_lt.mpr c59, c65, nI_0]; omega)
                have e2 : Value.int ((bfS Z n a i).1) = Value.int ((bfS Z n a (i + 1)).1) := by first | (exfalso; omega) | (simp only [bfS, c14, Nat.not_le.mpr c14, c24, c53, c59, Int32.not_lt.mpr c59, c65, decide_true, decide_false, Bool.and_true, Bool.true_and, Bool.and_false, Bool.false_and, Bool.or_true, Bool.true_or, Bool.or_false, Bool.false_or, Bool.and_self, Bool.or_self, if_true, if_false, eq_self, Bool.false_eq_true, Bool.true_eq_false, reduceCtorEq, nI_0, not_true_eq_false, not_false_eq_true, and_true, true_and, and_false, false_and, or_true, true_or, or_false, false_or, and_self, or_self, Int32.add_zero]; done) | (simp [bfS, c14, Nat.not_le.mpr c14, c24, c53, c59, Int32.not_lt.mpr c59, c65, nI_0]; done) | (simp only [bfS, c14, Nat.not_le.mpr c14, c24, c53, c59, Int32.not_lt.mpr c59, c65, decide_true, decide_false, Bool.and_true, Bool.true_and, Bool.and_false, Bool.false_and, Bool.or_true, Bool.true_or, Bool.or_false, Bool.false_or, Bool.and_self, Bool.or_self, if_true, if_false, eq_self, Bool.false_eq_true, Bool.true_eq_false, reduceCtorEq, nI_0, not_true_eq_false, not_false_eq_true, and_true, true_and, and_false, false_and, or_true, true_or, or_false, false_or, and_self, or_self, Int32.add_zero]; omega) | (simp [bfS, c14, Nat.not_le.mpr c14, c24, c53, c59, Int32.not_lt.mpr c59, c65, nI_0]; omega)
                have hl := lv_hasE hl (lcons rfl (lcons e4 (lcons e3 (lcons e2 (lcons rfl (lcons rfl rfl))))))
                have hP := fP.eqc (congrArg (fun v9 => mdc ct ad Z g hs v9) (show (sp5 (sp5 (sp5 F Z (bfU Z n a i)) Z (!tknB Z n a (nI i))) Z (!tknB Z n a (nI i))) = (sp5 F Z (bfU Z n a (i + 1))) from by (first | (simp only [bfU, c24, sp5_sp5, Bool.or_self, Bool.not_false, Bool.not_true, Bool.or_false, Bool.or_true]; done) | rfl))) hP
                exact ih10 (i + 1) (by omega) (by omega) _ _ hP hS _ hl
              · refine lv_iload hx hb dX6_bestFor_68 (lv_at hl 0 rfl) ?_
                refine lv_iload hx hb dX6_bestFor_70 (lv_at hl 3 rfl) ?_
                refine lv_icmp_geR (tgt := 79) hx hb dX6_bestFor_72 (by decide) (fun c72 => ?_) (fun c72 => ?_)
                · refine lv_iconst (v := nI 0) hx hb dX6_bestFor_79 (by decide) ?_
                  refine lv_istore (lv' := [(8, .int (nI 0)), (7, .int (wpR Z n a i 24 0)), (6, .int (wpR Z n a i 24 1)), (5, .int (nI i)), (4, .int ((bfS Z n a i).2.2)), (3, .int ((bfS Z n a i).2.1)), (2, .int ((bfS Z n a i).1)), (0, .ref (ad 0)), (1, .int (nI a))]) hx hb dX6_bestFor_80 hl (by decide) rfl (fun ls hl => ?_)
                  refine lv_iload hx hb dX6_bestFor_82 (lv_at hl 0 rfl) ?_
                  refine lv_if_eq (tgt := 92) hx hb dX6_bestFor_84 (by decide) (fun _ => ?_) (fun h => absurd (by decide) h)
                  refine lv_iload_n hx hb dX6_bestFor_92 rfl (lv_at hl 6 rfl) ?_
                  refine lv_istore_n (lv' := [(2, .int ((bfS Z n a i).1)), (8, .int (nI 0)), (7, .int (wpR Z n a i 24 0)), (6, .int (wpR Z n a i 24 1)), (5, .int (nI i)), (4, .int ((bfS Z n a i).2.2)), (3, .int ((bfS Z n a i).2.1)), (0, .ref (ad 0)), (1, .int (nI a))]) hx hb dX6_bestFor_93 rfl hl (by decide) rfl (fun ls hl => ?_)
                  refine lv_iload hx hb dX6_bestFor_94 (lv_at hl 1 rfl) ?_
                  refine lv_if_eq (tgt := 104) hx hb dX6_bestFor_96 (by decide) (fun _ => ?_) (fun h => absurd (by decide) h)
                  refine lv_iload_n hx hb dX6_bestFor_104 rfl (lv_at hl 6 rfl) ?_
                  refine lv_istore_n (lv' := [(3, .int ((bfS Z n a i).2.1)), (2, .int ((bfS Z n a i).1)), (8, .int (nI 0)), (7, .int (wpR Z n a i 24 0)), (6, .int (wpR Z n a i 24 1)), (5, .int (nI i)), (4, .int ((bfS Z n a i).2.2)), (0, .ref (ad 0)), (1, .int (nI a))]) hx hb dX6_bestFor_105 rfl hl (by decide) rfl (fun ls hl => ?_)
                  refine lv_iload hx hb dX6_bestFor_106 (lv_at hl 2 rfl) ?_
                  refine lv_if_eq (tgt := 116) hx hb dX6_bestFor_108 (by decide) (fun _ => ?_) (fun h => absurd (by decide) h)
                  refine lv_iload hx hb dX6_bestFor_116 (lv_at hl 6 rfl) ?_
                  refine lv_istore (lv' := [(4, .int ((bfS Z n a i).2.2)), (3, .int ((bfS Z n a i).2.1)), (2, .int ((bfS Z n a i).1)), (8, .int (nI 0)), (7, .int (wpR Z n a i 24 0)), (6, .int (wpR Z n a i 24 1)), (5, .int (nI i)), (0, .ref (ad 0)), (1, .int (nI a))]) hx hb dX6_bestFor_118 hl (by decide) rfl (fun ls hl => ?_)
                  refine lv_iinc (v := nI (i + 1)) (lv' := [(5, .int (nI (i + 1))), (4, .int ((bfS Z n a i).2.2)), (3, .int ((bfS Z n a i).2.1)), (2, .int ((bfS Z n a i).1)), (8, .int (nI 0)), (7, .int (wpR Z n a i 24 0)), (6, .int (wpR Z n a i 24 1)), (0, .ref (ad 0)), (1, .int (nI a))]) hx hb dX6_bestFor_120 hl (k := 6) rfl (nI_add i 1) (by decide) rfl (fun ls hl => ?_)
                  refine lv_goto (tgt := 10) hx hb dX6_bestFor_123 (by decide) ?_
                  have hl := lv_sub (l' := [(5, .int (nI (i + 1))), (4, .int ((bfS Z n a i).2.2)), (3, .int ((bfS Z n a i).2.1)), (2, .int ((bfS Z n a i).1)), (0, .ref (ad 0)), (1, .int (nI a))]) hl [0, 1, 2, 3, 7, 8] rfl
                  have e4 : Value.int ((bfS Z n a i).2.2) = Value.int ((bfS Z n a (i + 1)).2.2) := by first | (exfalso; omega) | (simp only [bfS, c14, Nat.not_le.mpr c14, c24, c53, c59, Int32.not_lt.mpr c59, c65, c72, Int32.not_lt.mpr c72, decide_true, decide_false, Bool.and_true, Bool.true_and, Bool.and_false, Bool.false_and, Bool.or_true, Bool.true_or, Bool.or_false, Bool.false_or, Bool.and_self, Bool.or_self, if_true, if_false, eq_self, Bool.false_eq_true, Bool.true_eq_false, reduceCtorEq, nI_0, not_true_eq_false, not_false_eq_true, and_true, true_and, and_false, false_and, or_true, true_or, or_false, false_or, and_self, or_self, Int32.add_zero]; done) | (simp [bfS, c14, Nat.not_le.mpr c14, c24, c53, c59, Int32.not_lt.mpr c59, c65, c72, Int32.not_lt.mpr c72, nI_0]; done) | (simp only [bfS, c14, Nat.not_le.mpr c14, c24, c53, c59, Int32.not_lt.mpr c59, c65, c72, Int32.not_lt.mpr c72, decide_true, decide_false, Bool.and_true, Bool.true_and, Bool.and_false, Bool.false_and, Bool.or_true, Bool.true_or, Bool.or_false, Bool.false_or, Bool.and_self, Bool.or_self, if_true, if_false, eq_self, Bool.false_eq_true, Bool.true_eq_false, reduceCtorEq, nI_0, not_true_eq_false, not_false_eq_true, and_true, true_and, and_false, false_and, or_true, true_or, or_false, false_or, and_self, or_self, Int32.add_zero]; omega) | (simp [bfS, c14, Nat.not_le.mpr c14, c24, c53, c59, Int32.not_lt.mpr c59, c65, c72, Int32.not_lt.mpr c72, nI_0]; omega)
                  have e3 : Value.int ((bfS Z n a i).2.1) = Value.int ((bfS Z n a (i + 1)).2.1) := by first | (exfalso; omega) | (simp only [bfS, c14, Nat.not_le.mpr c14, c24, c53, c59, Int32.not_lt.mpr c59, c65, c72, Int32.not_lt.mpr c72, decide_true, decide_false, Bool.and_true, Bool.true_and, Bool.and_false, Bool.false_and, Bool.or_true, Bool.true_or, Bool.or_false, Bool.false_or, Bool.and_self, Bool.or_self, if_true, if_false, eq_self, Bool.false_eq_true, Bool.true_eq_false, reduceCtorEq, nI_0, not_true_eq_false, not_false_eq_true, and_true, true_and, and_false, false_and, or_true, true_or, or_false, false_or, and_self, or_self, Int32.add_zero]; done) | (simp [bfS, c14, Nat.not_le.mpr c14, c24, c53, c59, Int32.not_lt.mpr c59, c65, c72, Int32.not_lt.mpr c72, nI_0]; done) | (simp only [bfS, c14, Nat.not_le.mpr c14, c24, c53, c59, Int32.not_lt.mpr c59, c65, c72, Int32.not_lt.mpr c72, decide_true, decide_false, Bool.and_true, Bool.true_and, Bool.and_false, Bool.false_and, Bool.or_true, Bool.true_or, Bool.or_false, Bool.false_or, Bool.and_self, Bool.or_self, if_true, if_false, eq_self, Bool.false_eq_true, Bool.true_eq_false, reduceCtorEq, nI_0, not_true_eq_false, not_false_eq_true, and_true, true_and, and_false, false_and, or_true, true_or, or_false, false_or, and_self, or_self, Int32.add_zero]; omega) | (simp [bfS, c14, Nat.not_le.mpr c14, c24, c53, c59, Int32.not_lt.mpr c59, c65, c72, Int32.not_lt.mpr c72, nI_0]; omega)
                  have e2 : Value.int ((bfS Z n a i).1) = Value.int ((bfS Z n a (i + 1)).1) := by first | (exfalso; omega) | (simp only [bfS, c14, Nat.not_le.mpr c14, c24, c53, c59, Int32.not_lt.mpr c59, c65, c72, Int32.not_lt.mpr c72, decide_true, decide_false, Bool.and_true, Bool.true_and, Bool.and_false, Bool.false_and, Bool.or_true, Bool.true_or, Bool.or_false, Bool.false_or, Bool.and_self, Bool.or_self, if_true, if_false, eq_self, Bool.false_eq_true, Bool.true_eq_false, reduceCtorEq, nI_0, not_true_eq_false, not_false_eq_true, and_true, true_and, and_false, false_and, or_true, true_or, or_false, false_or, and_self, or_self, Int32.add_zero]; done) | (simp [bfS, c14, Nat.not_le.mpr c14, c24, c53, c59, Int32.not_lt.mpr c59, c65, c72, Int32.not_lt.mpr c72, nI_0]; done) | (simp only [bfS, c14, Nat.not_le.mpr c14, c24, c53, c59, Int32.not_lt.mpr c59, c65, c72, Int32.not_lt.mpr c72, decide_true, decide_false, Bool.and_true, Bool.true_and, Bool.and_false, Bool.false_and, Bool.or_true, Bool.true_or, Bool.or_false, Bool.false_or, Bool.and_self, Bool.or_self, if_true, if_false, eq_self, Bool.false_eq_true, Bool.true_eq_false, reduceCtorEq, nI_0, not_true_eq_false, not_false_eq_true, and_true, true_and, and_false, false_and, or_true, true_or, or_false, false_or, and_self, or_self, Int32.add_zero]; omega) | (simp [bfS, c14, Nat.not_le.mpr c14, c24, c53, c59, Int32.not_lt.mpr c59, c65, c72, Int32.not_lt.mpr c72, nI_0]; omega)
                  have hl := lv_hasE hl (lcons rfl (lcons e4 (lcons e3 (lcons e2 (lcons rfl (lcons rfl rfl))))))
                  have hP := fP.eqc (congrArg (fun v9 => mdc ct ad Z g hs v9) (show (sp5 (sp5 (sp5 F Z (bfU Z n a i)) Z (!tknB Z n a (nI i))) Z (!tknB Z n a (nI i))) = (sp5 F Z (bfU Z n a (i + 1))) from by (first | (simp only [bfU, c24, sp5_sp5, Bool.or_self, Bool.not_false, Bool.not_true, Bool.or_false, Bool.or_true]; done) | rfl))) hP
                  exact ih10 (i + 1) (by omega) (by omega) _ _ hP hS _ hl
                · refine lv_iconst (v := nI 1) hx hb dX6_bestFor_75 (by decide) ?_
                  refine lv_goto (tgt := 80) hx hb dX6_bestFor_76 (by decide) ?_
                  refine lv_istore (lv' := [(8, .int (nI 1)), (7, .int (wpR Z n a i 24 0)), (6, .int (wpR Z n a i 24 1)), (5, .int (nI i)), (4, .int ((bfS Z n a i).2.2)), (3, .int ((bfS Z n a i).2.1)), (2, .int ((bfS Z n a i).1)), (0, .ref (ad 0)), (1, .int (nI a))]) hx hb dX6_bestFor_80 hl (by decide) rfl (fun ls hl => ?_)
                  refine lv_iload hx hb dX6_bestFor_82 (lv_at hl 0 rfl) ?_
                  refine lv_if_eq (tgt := 92) hx hb dX6_bestFor_84 (by decide) (fun h => absurd h (by decide)) (fun _ => ?_)
                  refine lv_iload hx hb dX6_bestFor_87 (lv_at hl 3 rfl) ?_
                  refine lv_goto (tgt := 93) hx hb dX6_bestFor_89 (by decide) ?_
                  refine lv_istore_n (lv' := [(2, .int (nI i)), (8, .int (nI 1)), (7, .int (wpR Z n a i 24 0)), (6, .int (wpR Z n a i 24 1)), (5, .int (nI i)), (4, .int ((bfS Z n a i).2.2)), (3, .int ((bfS Z n a i).2.1)), (0, .ref (ad 0)), (1, .int (nI a))]) hx hb dX6_bestFor_93 rfl hl (by decide) rfl (fun ls hl => ?_)
                  refine lv_iload hx hb dX6_bestFor_94 (lv_at hl 1 rfl) ?_
                  refine lv_if_eq (tgt := 104) hx hb dX6_bestFor_96 (by decide) (fun h => absurd h (by decide)) (fun _ => ?_)
                  refine lv_iload hx hb dX6_bestFor_99 (lv_at hl 3 rfl) ?_
                  refine lv_goto (tgt := 105) hx hb dX6_bestFor_101 (by decide) ?_
                  refine lv_istore_n (lv' := [(3, .int (wpR Z n a i 24 1)), (2, .int (nI i)), (8, .int (nI 1)), (7, .int (wpR Z n a i 24 0)), (6, .int (wpR Z n a i 24 1)), (5, .int (nI i)), (4, .int ((bfS Z n a i).2.2)), (0, .ref (ad 0)), (1, .int (nI a))]) hx hb dX6_bestFor_105 rfl hl (by decide) rfl (fun ls hl => ?_)
                  refine lv_iload hx hb dX6_bestFor_106 (lv_at hl 2 rfl) ?_
                  refine lv_if_eq (tgt := 116) hx hb dX6_bestFor_108 (by decide) (fun h => absurd h (by decide)) (fun _ => ?_)
                  refine lv_iload hx hb dX6_bestFor_111 (lv_at hl 3 rfl) ?_
                  refine lv_goto (tgt := 118) hx hb dX6_bestFor_113 (by decide) ?_
                  refine lv_istore (lv' := [(4, .int (wpR Z n a i 24 0)), (3, .int (wpR Z n a i 24 1)), (2, .int (nI i)), (8, .int (nI 1)), (7, .int (wpR Z n a i 24 0)), (6, .int (wpR Z n a i 24 1)), (5, .int (nI i)), (0, .ref (ad 0)), (1, .int (nI a))]) hx hb dX6_bestFor_118 hl (by decide) rfl (fun ls hl => ?_)
                  refine lv_iinc (v := nI (i + 1)) (lv' := [(5, .int (nI (i + 1))), (4, .int (wpR Z n a i 24 0)), (3, .int (wpR Z n a i 24 1)), (2, .int (nI i)), (8, .int (nI 1)), (7, .int (wpR Z n a i 24 0)), (6, .int (wpR Z n a i 24 1)), (0, .ref (ad 0)), (1, .int (nI a))]) hx hb dX6_bestFor_120 hl (k := 6) rfl (nI_add i 1) (by decide) rfl (fun ls hl => ?_)
                  refine lv_goto (tgt := 10) hx hb dX6_bestFor_123 (by decide) ?_
                  have hl := lv_sub (l' := [(5, .int (nI (i + 1))), (4, .int (wpR Z n a i 24 0)), (3, .int (wpR Z n a i 24 1)), (2, .int (nI i)), (0, .ref (ad 0)), (1, .int (nI a))]) hl [0, 1, 2, 3, 7, 8] rfl
                  have e4 : Value.int (wpR Z n a i 24 0) = Value.int ((bfS Z n a (i + 1)).2.2) := by first | (exfalso; omega) | (simp only [bfS, c14, Nat.not_le.mpr c14, c24, c53, c59, Int32.not_lt.mpr c59, c65, c72, Int32.not_le.mpr c72, decide_true, decide_false, Bool.and_true, Bool.true_and, Bool.and_false, Bool.false_and, Bool.or_true, Bool.true_or, Bool.or_false, Bool.false_or, Bool.and_self, Bool.or_self, if_true, if_false, eq_self, Bool.false_eq_true, Bool.true_eq_false, reduceCtorEq, nI_0, not_true_eq_false, not_false_eq_true, and_true, true_and, and_false, false_and, or_true, true_or, or_false, false_or, and_self, or_self, Int32.add_zero]; done) | (simp [bfS, c14, Nat.not_le.mpr c14, c24, c53, c59, Int32.not_lt.mpr c59, c65, c72, Int32.not_le.mpr c72, nI_0]; done) | (simp only [bfS, c14, Nat.not_le.mpr c14, c24, c53, c59, Int32.not_lt.mpr c59, c65, c72, Int32.not_le.mpr c72, decide_true, decide_false, Bool.and_true, Bool.true_and, Bool.and_false, Bool.false_and, Bool.or_true, Bool.true_or, Bool.or_false, Bool.false_or, Bool.and_self, Bool.or_self, if_true, if_false, eq_self, Bool.false_eq_true, Bool.true_eq_false, reduceCtorEq, nI_0, not_true_eq_false, not_false_eq_true, and_true, true_and, and_false, false_and, or_true, true_or, or_false, false_or, and_self, or_self, Int32.add_zero]; omega) | (simp [bfS, c14, Nat.not_le.mpr c14, c24, c53, c59, Int32.not_lt.mpr c59, c65, c72, Int32.not_le.mpr c72, nI_0]; omega)
                  have e3 : Value.int (wpR Z n a i 24 1) = Value.int ((bfS Z n a (i + 1)).2.1) := by first | (exfalso; omega) | (simp only [bfS, c14, Nat.not_le.mpr c14, c24, c53, c59, Int32.not_lt.mpr c59, c65, c72, Int32.not_le.mpr c72, decide_true, decide_false, Bool.and_true, Bool.true_and, Bool.and_false, Bool.false_and, Bool.or_true, Bool.true_or, Bool.or_false, Bool.false_or, Bool.and_self, Bool.or_self, if_true, if_false, eq_self, Bool.false_eq_true, Bool.true_eq_false, reduceCtorEq, nI_0, not_true_eq_false, not_false_eq_true, and_true, true_and, and_false, false_and, or_true, true_or, or_false, false_or, and_self, or_self, Int32.add_zero]; done) | (simp [bfS, c14, Nat.not_le.mpr c14, c24, c53, c59, Int32.not_lt.mpr c59, c65, c72, Int32.not_le.mpr c72, nI_0]; done) | (simp only [bfS, c14, Nat.not_le.mpr c14, c24, c53, c59, Int32.not_lt.mpr c59, c65, c72, Int32.not_le.mpr c72, decide_true, decide_false, Bool.and_true, Bool.true_and, Bool.and_false, Bool.false_and, Bool.or_true, Bool.true_or, Bool.or_false, Bool.false_or, Bool.and_self, Bool.or_self, if_true, if_false, eq_self, Bool.false_eq_true, Bool.true_eq_false, reduceCtorEq, nI_0, not_true_eq_false, not_false_eq_true, and_true, true_and, and_false, false_and, or_true, true_or, or_false, false_or, and_self, or_self, Int32.add_zero]; omega) | (simp [bfS, c14, Nat.not_le.mpr c14, c24, c53, c59, Int32.not_lt.mpr c59, c65, c72, Int32.not_le.mpr c72, nI_0]; omega)
                  have e2 : Value.int (nI i) = Value.int ((bfS Z n a (i + 1)).1) := by first | (exfalso; omega) | (simp only [bfS, c14, Nat.not_le.mpr c14, c24, c53, c59, Int32.not_lt.mpr c59, c65, c72, Int32.not_le.mpr c72, decide_true, decide_false, Bool.and_true, Bool.true_and, Bool.and_false, Bool.false_and, Bool.or_true, Bool.true_or, Bool.or_false, Bool.false_or, Bool.and_self, Bool.or_self, if_true, if_false, eq_self, Bool.false_eq_true, Bool.true_eq_false, reduceCtorEq, nI_0, not_true_eq_false, not_false_eq_true, and_true, true_and, and_false, false_and, or_true, true_or, or_false, false_or, and_self, or_self, Int32.add_zero]; done) | (simp [bfS, c14, Nat.not_le.mpr c14, c24, c53, c59, Int32.not_lt.mpr c59, c65, c72, Int32.not_le.mpr c72, nI_0]; done) | (simp only [bfS, c14, Nat.not_le.mpr c14, c24, c53, c59, Int32.not_lt.mpr c59, c65, c72, Int32.not_le.mpr c72, decide_true, decide_false, Bool.and_true, Bool.true_and, Bool.and_false, Bool.false_and, Bool.or_true, Bool.true_or, Bool.or_false, Bool.false_or, Bool.and_self, Bool.or_self, if_true, if_false, eq_self, Bool.false_eq_true, Bool.true_eq_false, reduceCtorEq, nI_0, not_true_eq_false, not_false_eq_true, and_true, true_and, and_false, false_and, or_true, true_or, or_false, false_or, and_self, or_self, Int32.add_zero]; omega) | (simp [bfS, c14, Nat.not_le.mpr c14, c24, c53, c59, Int32.not_lt.mpr c59, c65, c72, Int32.not_le.mpr c72, nI_0]; omega)
                  have hl := lv_hasE hl (lcons rfl (lcons e4 (lcons e3 (lcons e2 (lcons rfl (lcons rfl rfl))))))
                  have hP := fP.eqc (congrArg (fun v9 => mdc ct ad Z g hs v9) (show (sp5 (sp5 (sp5 F Z (bfU Z n a i)) Z (!tknB Z n a (nI i))) Z (!tknB Z n a (nI i))) = (sp5 F Z (bfU Z n a (i + 1))) from by (first | (simp only [bfU, c24, sp5_sp5, Bool.or_self, Bool.not_false, Bool.not_true, Bool.or_false, Bool.or_true]; done) | rfl))) hP
                  exact ih10 (i + 1) (by omega) (by omega) _ _ hP hS _ hl
  have hl := lv_sub (l' := [(5, .int (nI 0)), (4, .int (nI 0)), (3, .int (nI 0)), (2, .int (-1)), (0, .ref (ad 0)), (1, .int (nI a))]) hl [0, 1, 2, 3, 4, 5] rfl
  have e4 : Value.int (nI 0) = Value.int ((bfS Z n a 0).2.2) := by rfl
  have e3 : Value.int (nI 0) = Value.int ((bfS Z n a 0).2.1) := by rfl
  have e2 : Value.int (-1) = Value.int ((bfS Z n a 0).1) := by rfl
  have hl := lv_hasE hl (lcons rfl (lcons e4 (lcons e3 (lcons e2 (lcons rfl (lcons rfl rfl))))))
  have hP := fP.eqc (congrArg (fun v9 => mdc ct ad Z g hs v9) (show F = (sp5 F Z (bfU Z n a 0)) from by rfl)) hP
  exact lp10 (12 - 0 + 1) 0 (by omega) (Nat.lt_succ_self _) _ _ hP hS _ hl
