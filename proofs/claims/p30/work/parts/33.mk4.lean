/-! THE CLASS'S MARKET: one copied from another -/
def scp (M P : Nat → Int32) (k : Nat) : Nat → Int32 := fun z => if 39 + 8 * k ≤ z ∧ z < 39 + 8 * k + 8 then P z else M z
def bcp (M P : Nat → Int32) (b : Nat) : Nat → Int32 := fun z => if 7 + 5 * b ≤ z ∧ z < 7 + 5 * b + 5 then P z else M z
def cs1 (M P : Nat → Int32) (i : Nat) : Nat → Int32 := fun z => if z = 4 ∨ (39 ≤ z ∧ z < 39 + 8 * i) then P z else M z
theorem cs1_0 {M P : Nat → Int32} : upd M 4 (P 4) = cs1 M P 0 := by
  funext z; unfold cs1
  by_cases e : z = 4
  · subst e; rw [upd_s, if_pos (Or.inl rfl)]
  · rw [upd_n e, if_neg (by omega)]
theorem cs1_s {M P : Nat → Int32} {i : Nat} : scp (cs1 M P i) P i = cs1 M P (i + 1) := by
  funext z; unfold scp cs1
  by_cases c : 39 + 8 * i ≤ z ∧ z < 39 + 8 * i + 8
  · rw [if_pos c, if_pos (by omega)]
  · rw [if_neg c]
    by_cases d : z = 4 ∨ (39 ≤ z ∧ z < 39 + 8 * i)
    · rw [if_pos d, if_pos (by omega)]
    · rw [if_neg d, if_neg (by omega)]
def cs2 (M P : Nat → Int32) (i n : Nat) : Nat → Int32 := fun z => if z = 4 ∨ (7 ≤ z ∧ z < 7 + 5 * i) ∨ (39 ≤ z ∧ z < 39 + 8 * n) then P z else M z
theorem cs2_0 {M P : Nat → Int32} {n : Nat} : cs1 M P n = cs2 M P 0 n := by
  funext z; unfold cs1 cs2
  by_cases c : z = 4 ∨ (39 ≤ z ∧ z < 39 + 8 * n)
  · rw [if_pos c, if_pos (by omega)]
  · rw [if_neg c, if_neg (by omega)]
theorem cs2_s {M P : Nat → Int32} {i n : Nat} : bcp (cs2 M P i n) P i = cs2 M P (i + 1) n := by
  funext z; unfold bcp cs2
  by_cases c : 7 + 5 * i ≤ z ∧ z < 7 + 5 * i + 5
  · rw [if_pos c, if_pos (by omega)]
  · rw [if_neg c]
    by_cases d : z = 4 ∨ (7 ≤ z ∧ z < 7 + 5 * i) ∨ (39 ≤ z ∧ z < 39 + 8 * n)
    · rw [if_pos d, if_pos (by omega)]
    · rw [if_neg d, if_neg (by omega)]
/-- all of another market's state, on top of what was there -/
def cCp (M P : Nat → Int32) (n : Nat) : Nat → Int32 := fun z => if z < 39 + 8 * n then P z else M z
theorem cCp_e {M P : Nat → Int32} {n : Nat} : upd (upd (upd (stc (ovi (cs2 M P 4 n) P 12) P) 3 (P 3)) 6 (P 6)) 5 (P 5) = cCp M P n := by
  funext z
  by_cases h5 : z = 5
  · subst h5; rw [upd_s]; exact (if_pos (by omega)).symm
  · rw [upd_n h5]
    by_cases h6 : z = 6
    · subst h6; rw [upd_s]; exact (if_pos (by omega)).symm
    · rw [upd_n h6]
      by_cases h3 : z = 3
      · subst h3; rw [upd_s]; exact (if_pos (by omega)).symm
      · rw [upd_n h3]
        unfold stc ovi cs2 cCp
        by_cases a : z < 3
        · rw [if_pos a, if_pos (by omega)]
        · rw [if_neg a]
          by_cases b : 27 ≤ z ∧ z < 27 + 12
          · rw [if_pos b, if_pos (by omega)]
          · rw [if_neg b]
            by_cases d : z = 4 ∨ (7 ≤ z ∧ z < 7 + 5 * 4) ∨ (39 ≤ z ∧ z < 39 + 8 * n)
            · rw [if_pos d, if_pos (by omega)]
            · rw [if_neg d, if_neg (by omega)]
/-- its booleans are 0 or 1 -/
def bW (P : Nat → Int32) (n : Nat) : Prop := (∀ k, k < n → P (39 + 8 * k + 5) = 0 ∨ P (39 + 8 * k + 5) = 1) ∧ (∀ b, b < 4 → P (7 + 5 * b + 1) = 0 ∨ P (7 + 5 * b + 1) = 1) ∧ ∀ q, q < 12 → P (27 + q) = 0 ∨ P (27 + q) = 1
set_option maxRecDepth 100000 in
set_option maxHeartbeats 4000000 in
theorem mX4_copyFrom (l : Launch) (D : va_G) (ct : Nat → ClassId) (ad : Nat → Nat) (M P : Nat → Int32) (k : Nat)  (hk : k < 10) (h01 : P (39 + 8 * k + 5) = 0 ∨ P (39 + 8 * k + 5) = 1) : FMet l yX4_copyFrom cX4_copyFrom 2 (none : Option Jvm.ClassFile.FieldType) 0 0 D ct 38 ad [.ref (ad (5 + k)), .ref (ad (24 + k))] (mk2c ct ad M P) none (mk2c ct ad (scp M P k) P) := by
  refine FMet.of (by decide +kernel) (Nat.le_of_ble_eq_true rfl) ?_
  intro p e s m args below meth c ls hx hb hr hml hown hlocks htg hK hI hP hS hl
  have hl : lv_has ls 2 [(0, .ref (ad (5 + k))), (1, .ref (ad (24 + k)))] := hl
  refine lv_aload_n hx hb dX4_copyFrom_0 rfl (lv_at hl 0 rfl) ?_
  refine lv_aload_n hx hb dX4_copyFrom_1 rfl (lv_at hl 1 rfl) ?_
  refine mk2_os0 hx hb hown htg hK hP (by omega) fl_X4_24 dX4_copyFrom_2 ?_
  refine mk2_sp0 hx hb hown htg hK hI hS hP (by omega) fl_X4_24 dX4_copyFrom_5 (fun H locs hP hS => ?_)
  refine lv_aload_n hx hb dX4_copyFrom_8 rfl (lv_at hl 0 rfl) ?_
  refine lv_aload_n hx hb dX4_copyFrom_9 rfl (lv_at hl 1 rfl) ?_
  refine mk2_os1 hx hb hown htg hK hP (by omega) fl_X4_21 dX4_copyFrom_10 ?_
  refine mk2_sp1 hx hb hown htg hK hI hS hP (by omega) fl_X4_21 dX4_copyFrom_13 (fun H locs hP hS => ?_)
  refine lv_aload_n hx hb dX4_copyFrom_16 rfl (lv_at hl 0 rfl) ?_
  refine lv_aload_n hx hb dX4_copyFrom_17 rfl (lv_at hl 1 rfl) ?_
  refine mk2_os2 hx hb hown htg hK hP (by omega) fl_X4_18 dX4_copyFrom_18 ?_
  refine mk2_sp2 hx hb hown htg hK hI hS hP (by omega) fl_X4_18 dX4_copyFrom_21 (fun H locs hP hS => ?_)
  refine lv_aload_n hx hb dX4_copyFrom_24 rfl (lv_at hl 0 rfl) ?_
  refine lv_aload_n hx hb dX4_copyFrom_25 rfl (lv_at hl 1 rfl) ?_
  refine mk2_os3 hx hb hown htg hK hP (by omega) fl_X4_27 dX4_copyFrom_26 ?_
  refine mk2_sp3 hx hb hown htg hK hI hS hP (by omega) fl_X4_27 dX4_copyFrom_29 (fun H locs hP hS => ?_)
  refine lv_aload_n hx hb dX4_copyFrom_32 rfl (lv_at hl 0 rfl) ?_
  refine lv_aload_n hx hb dX4_copyFrom_33 rfl (lv_at hl 1 rfl) ?_
  refine mk2_os4 hx hb hown htg hK hP (by omega) fl_X4_9 dX4_copyFrom_34 ?_
  refine mk2_sp4 hx hb hown htg hK hI hS hP (by omega) fl_X4_9 dX4_copyFrom_37 (fun H locs hP hS => ?_)
  refine lv_aload_n hx hb dX4_copyFrom_40 rfl (lv_at hl 0 rfl) ?_
  refine lv_aload_n hx hb dX4_copyFrom_41 rfl (lv_at hl 1 rfl) ?_
  refine mk2_os5 hx hb hown htg hK hP (by omega) fl_X4_30 dX4_copyFrom_42 ?_
  refine mk2_sp5 hx hb hown htg hK hI hS hP (by omega) (h01) fl_X4_30 dX4_copyFrom_45 (fun H locs hP hS => ?_)
  refine lv_aload_n hx hb dX4_copyFrom_48 rfl (lv_at hl 0 rfl) ?_
  refine lv_aload_n hx hb dX4_copyFrom_49 rfl (lv_at hl 1 rfl) ?_
  refine mk2_os6 hx hb hown htg hK hP (by omega) fl_X4_34 dX4_copyFrom_50 ?_
  refine mk2_sp6 hx hb hown htg hK hI hS hP (by omega) fl_X4_34 dX4_copyFrom_53 (fun H locs hP hS => ?_)
  refine lv_aload_n hx hb dX4_copyFrom_56 rfl (lv_at hl 0 rfl) ?_
  refine lv_aload_n hx hb dX4_copyFrom_57 rfl (lv_at hl 1 rfl) ?_
  refine mk2_os7 hx hb hown htg hK hP (by omega) fl_X4_37 dX4_copyFrom_58 ?_
  refine mk2_sp7 hx hb hown htg hK hI hS hP (by omega) fl_X4_37 dX4_copyFrom_61 (fun H locs hP hS => ?_)
  refine fr_vret hx hb hr hlocks hK hI hS dX4_copyFrom_64 ?_
  refine fP.eqc (congrArg (fun v9 => mk2c ct ad v9 P) (show (scp M P k) = (upd (upd (upd (upd (upd (upd (upd (upd M (39 + 8 * k + 0) (P (39 + 8 * k + 0))) (39 + 8 * k + 1) (P (39 + 8 * k + 1))) (39 + 8 * k + 2) (P (39 + 8 * k + 2))) (39 + 8 * k + 3) (P (39 + 8 * k + 3))) (39 + 8 * k + 4) (P (39 + 8 * k + 4))) (39 + 8 * k + 5) (P (39 + 8 * k + 5))) (39 + 8 * k + 6) (P (39 + 8 * k + 6))) (39 + 8 * k + 7) (P (39 + 8 * k + 7))) from by (funext z; unfold scp; cases Decidable.em (39 + 8 * k ≤ z ∧ z < 39 + 8 * k + 8) with | inl h9 => (rw [if_pos h9]; obtain ⟨j, hj, rfl⟩ : ∃ j, j < 8 ∧ z = 39 + 8 * k + j := ⟨z - (39 + 8 * k), by omega, by omega⟩; rcases (show j = 0 ∨ j = 1 ∨ j = 2 ∨ j = 3 ∨ j = 4 ∨ j = 5 ∨ j = 6 ∨ j = 7 from by omega) with rfl | rfl | rfl | rfl | rfl | rfl | rfl | rfl <;> simp (disch := omega) only [upd_n, upd_s]) | inr h9 => (rw [if_neg h9]; simp (disch := omega) only [upd_n]))).symm) ?_
  exact hP
set_option maxRecDepth 100000 in
set_option maxHeartbeats 4000000 in
theorem mX0_copyFrom (l : Launch) (D : va_G) (ct : Nat → ClassId) (ad : Nat → Nat) (M P : Nat → Int32) (b : Nat)  (hb4 : b < 4) (h01 : P (7 + 5 * b + 1) = 0 ∨ P (7 + 5 * b + 1) = 1) : FMet l yX0_copyFrom cX0_copyFrom 2 (none : Option Jvm.ClassFile.FieldType) 0 0 D ct 38 ad [.ref (ad (15 + b)), .ref (ad (34 + b))] (mk2c ct ad M P) none (mk2c ct ad (bcp M P b) P) := by
  refine FMet.of (by decide +kernel) (Nat.le_of_ble_eq_true rfl) ?_
  intro p e s m args below meth c ls hx hb hr hml hown hlocks htg hK hI hP hS hl
  have hl : lv_has ls 2 [(0, .ref (ad (15 + b))), (1, .ref (ad (34 + b)))] := hl
  refine lv_aload_n hx hb dX0_copyFrom_0 rfl (lv_at hl 0 rfl) ?_
  refine lv_aload_n hx hb dX0_copyFrom_1 rfl (lv_at hl 1 rfl) ?_
  refine mk2_ob0 hx hb hown htg hK hP (by omega) fl_X0_9 dX0_copyFrom_2 ?_
  refine mk2_bp0 hx hb hown htg hK hI hS hP (by omega) fl_X0_9 dX0_copyFrom_5 (fun H locs hP hS => ?_)
  refine lv_aload_n hx hb dX0_copyFrom_8 rfl (lv_at hl 0 rfl) ?_
  refine lv_aload_n hx hb dX0_copyFrom_9 rfl (lv_at hl 1 rfl) ?_
  refine mk2_ob1 hx hb hown htg hK hP (by omega) fl_X0_15 dX0_copyFrom_10 ?_
  refine mk2_bp1 hx hb hown htg hK hI hS hP (by omega) (h01) fl_X0_15 dX0_copyFrom_13 (fun H locs hP hS => ?_)
  refine lv_aload_n hx hb dX0_copyFrom_16 rfl (lv_at hl 0 rfl) ?_
  refine lv_aload_n hx hb dX0_copyFrom_17 rfl (lv_at hl 1 rfl) ?_
  refine mk2_ob2 hx hb hown htg hK hP (by omega) fl_X0_19 dX0_copyFrom_18 ?_
  refine mk2_bp2 hx hb hown htg hK hI hS hP (by omega) fl_X0_19 dX0_copyFrom_21 (fun H locs hP hS => ?_)
  refine lv_aload_n hx hb dX0_copyFrom_24 rfl (lv_at hl 0 rfl) ?_
  refine lv_aload_n hx hb dX0_copyFrom_25 rfl (lv_at hl 1 rfl) ?_
  refine mk2_ob3 hx hb hown htg hK hP (by omega) fl_X0_35 dX0_copyFrom_26 ?_
  refine mk2_bp3 hx hb hown htg hK hI hS hP (by omega) fl_X0_35 dX0_copyFrom_29 (fun H locs hP hS => ?_)
  refine lv_aload_n hx hb dX0_copyFrom_32 rfl (lv_at hl 0 rfl) ?_
  refine lv_aload_n hx hb dX0_copyFrom_33 rfl (lv_at hl 1 rfl) ?_
  refine mk2_ob4 hx hb hown htg hK hP (by omega) fl_X0_38 dX0_copyFrom_34 ?_
  refine mk2_bp4 hx hb hown htg hK hI hS hP (by omega) fl_X0_38 dX0_copyFrom_37 (fun H locs hP hS => ?_)
  refine fr_vret hx hb hr hlocks hK hI hS dX0_copyFrom_40 ?_
  refine fP.eqc (congrArg (fun v9 => mk2c ct ad v9 P) (show (bcp M P b) = (upd (upd (upd (upd (upd M (7 + 5 * b + 0) (P (7 + 5 * b + 0))) (7 + 5 * b + 1) (P (7 + 5 * b + 1))) (7 + 5 * b + 2) (P (7 + 5 * b + 2))) (7 + 5 * b + 3) (P (7 + 5 * b + 3))) (7 + 5 * b + 4) (P (7 + 5 * b + 4))) from by (funext z; unfold bcp; cases Decidable.em (7 + 5 * b ≤ z ∧ z < 7 + 5 * b + 5) with | inl h9 => (rw [if_pos h9]; obtain ⟨j, hj, rfl⟩ : ∃ j, j < 5 ∧ z = 7 + 5 * b + j := ⟨z - (7 + 5 * b), by omega, by omega⟩; rcases (show j = 0 ∨ j = 1 ∨ j = 2 ∨ j = 3 ∨ j = 4 from by omega) with rfl | rfl | rfl | rfl | rfl <;> simp (disch := omega) only [upd_n, upd_s]) | inr h9 => (rw [if_neg h9]; simp (disch := omega) only [upd_n]))).symm) ?_
  exact hP
set_option maxRecDepth 100000 in
set_option maxHeartbeats 4000000 in
theorem mX2_copyFrom (l : Launch) (D : va_G) (ct : Nat → ClassId) (ad : Nat → Nat) (M P : Nat → Int32) (n : Nat) (hw : mW P n) (hbw : bW P n) : FMet l yX2_copyFrom cX2_copyFrom 3 (none : Option Jvm.ClassFile.FieldType) 1 40 D ct 38 ad [.ref (ad 0), .ref (ad 19)] (mk2c ct ad M P) none (mk2c ct ad (cCp M P n) P) := by
  refine FMet.of (by decide +kernel) (Nat.le_of_ble_eq_true rfl) ?_
  intro p e s m args below meth c ls hx hb hr hml hown hlocks htg hK hI hP hS hl
  have hl : lv_has ls 3 [(0, .ref (ad 0)), (1, .ref (ad 19))] := hl
  have hn10 := hw.2
  refine lv_aload_n hx hb dX2_copyFrom_0 rfl (lv_at hl 0 rfl) ?_
  refine lv_aload_n hx hb dX2_copyFrom_1 rfl (lv_at hl 1 rfl) ?_
  refine mk2_og1 hx hb hown htg hK hP fl_X2_41 dX2_copyFrom_2 ?_
  refine mk2_p1 hx hb hown htg hK hI hS hP fl_X2_41 dX2_copyFrom_5 (fun H locs hP hS => ?_)
  refine lv_iconst (v := nI 0) hx hb dX2_copyFrom_8 (by decide) ?_
  refine lv_istore_n (lv' := [(2, .int (nI 0)), (0, .ref (ad 0)), (1, .ref (ad 19))]) hx hb dX2_copyFrom_9 rfl hl (by decide) rfl (fun ls hl => ?_)
  have lp10 : ∀ (fu10 : Nat) (i : Nat), i ≤ n → n - i < fu10 → ∀ (H : Heap) (locs : List Loc), fP D 38 ad (mk2c ct ad (cs1 M P i) P) H → va_S (fA 38 ad) s.heap H locs → ∀ (ls : Array Slot), lv_has ls 3 [(2, .int (nI i)), (0, .ref (ad 0)), (1, .ref (ad 19))] → W p l e ({ frames := 1, cells := 0, slots := 0, locals := 40 }) s m args below meth c H locs 0 0 (MQ below (fQ D ct 38 ad none (mk2c ct ad (cCp M P n) P)) args s 0 0 (fA 38 ad)) (F0 m 10 ls []) := by
    intro fu10
    induction fu10 with
    | zero => intro i hi hfu10; exact absurd hfu10 (Nat.not_lt_zero _)
    | succ fu10 ih10 =>
      intro i hi hfu10 H locs hP hS ls hl
      refine lv_iload_n hx hb dX2_copyFrom_10 rfl (lv_at hl 0 rfl) ?_
      refine lv_aload_n hx hb dX2_copyFrom_11 rfl (lv_at hl 1 rfl) ?_
      refine mk2_g1 hx hb hown htg hK hP fl_X2_41 dX2_copyFrom_12 ?_
      refine lv_teq ((show cs1 M P i 4 = P 4 from if_pos (Or.inl rfl)).trans hw.1) ?_
      refine lv_icmp_geN (tgt := 39) hx hb (by omega) (by omega) dX2_copyFrom_15 (by decide) (fun c15 => ?_) (fun c15 => ?_)
      · have e9 : n = i := by omega
        subst e9
        refine lv_iconst (v := nI 0) hx hb dX2_copyFrom_39 (by decide) ?_
        refine lv_istore_n (lv' := [(2, .int (nI 0)), (0, .ref (ad 0)), (1, .ref (ad 19))]) hx hb dX2_copyFrom_40 rfl hl (by decide) rfl (fun ls hl => ?_)
        have lp41 : ∀ (fu41 : Nat) (i : Nat), i ≤ 4 → 4 - i < fu41 → ∀ (H : Heap) (locs : List Loc), fP D 38 ad (mk2c ct ad (cs2 M P i n) P) H → va_S (fA 38 ad) s.heap H locs → ∀ (ls : Array Slot), lv_has ls 3 [(2, .int (nI i)), (0, .ref (ad 0)), (1, .ref (ad 19))] → W p l e ({ frames := 1, cells := 0, slots := 0, locals := 40 }) s m args below meth c H locs 0 0 (MQ below (fQ D ct 38 ad none (mk2c ct ad (cCp M P n) P)) args s 0 0 (fA 38 ad)) (F0 m 41 ls []) := by
          intro fu41
          induction fu41 with
          | zero => intro i hi hfu41; exact absurd hfu41 (Nat.not_lt_zero _)
          | succ fu41 ih41 =>
            intro i hi hfu41 H locs hP hS ls hl
            refine lv_iload_n hx hb dX2_copyFrom_41 rfl (lv_at hl 0 rfl) ?_
            refine lv_iconst (v := nI 4) hx hb dX2_copyFrom_42 (by decide) ?_
            refine lv_icmp_geN (tgt := 67) hx hb (by omega) (by omega) dX2_copyFrom_43 (by decide) (fun c43 => ?_) (fun c43 => ?_)
            · obtain rfl : i = 4 := by omega
              refine lv_iconst (v := nI 0) hx hb dX2_copyFrom_67 (by decide) ?_
              refine lv_istore_n (lv' := [(2, .int (nI 0)), (0, .ref (ad 0)), (1, .ref (ad 19))]) hx hb dX2_copyFrom_68 rfl hl (by decide) rfl (fun ls hl => ?_)
              have lp69 : ∀ (fu69 : Nat) (i : Nat), i ≤ 12 → 12 - i < fu69 → ∀ (H : Heap) (locs : List Loc), fP D 38 ad (mk2c ct ad (ovi (cs2 M P 4 n) P i) P) H → va_S (fA 38 ad) s.heap H locs → ∀ (ls : Array Slot), lv_has ls 3 [(2, .int (nI i)), (0, .ref (ad 0)), (1, .ref (ad 19))] → W p l e ({ frames := 1, cells := 0, slots := 0, locals := 40 }) s m args below meth c H locs 0 0 (MQ below (fQ D ct 38 ad none (mk2c ct ad (cCp M P n) P)) args s 0 0 (fA 38 ad)) (F0 m 69 ls []) := by
                intro fu69
                induction fu69 with
                | zero => intro i hi hfu69; exact absurd hfu69 (Nat.not_lt_zero _)
                | succ fu69 ih69 =>
                  intro i hi hfu69 H locs hP hS ls hl
                  refine lv_iload_n hx hb dX2_copyFrom_69 rfl (lv_at hl 0 rfl) ?_
                  refine lv_bipush (v := nI 12) hx hb dX2_copyFrom_70 (by decide) ?_
                  refine lv_icmp_geN (tgt := 93) hx hb (by omega) (by omega) dX2_copyFrom_72 (by decide) (fun c72 => ?_) (fun c72 => ?_)
                  · obtain rfl : i = 12 := by omega
                    refine lv_aload_n hx hb dX2_copyFrom_93 rfl (lv_at hl 2 rfl) ?_
                    refine mk2_og4 hx hb hown htg hK hP fl_X2_36 dX2_copyFrom_94 ?_
                    refine lv_iconst (v := nI 0) hx hb dX2_copyFrom_97 (by decide) ?_
                    refine lv_aload_n hx hb dX2_copyFrom_98 rfl (lv_at hl 1 rfl) ?_
                    refine mk2_g4 hx hb hown htg hK hP fl_X2_36 dX2_copyFrom_99 ?_
                    refine lv_iconst (v := nI 0) hx hb dX2_copyFrom_102 (by decide) ?_
                    refine lv_iconst (v := nI 3) hx hb dX2_copyFrom_103 (by decide) ?_
                    refine mk2_cst hx hb (hml.trans hl.1.symm) hown htg hK hI hS hP (Nat.le_of_ble_eq_true rfl) (Nat.le_of_ble_eq_true rfl) dX2_copyFrom_104 (fun H locs hP hS => ?_)
                    refine lv_aload_n hx hb dX2_copyFrom_107 rfl (lv_at hl 1 rfl) ?_
                    refine lv_aload_n hx hb dX2_copyFrom_108 rfl (lv_at hl 2 rfl) ?_
                    refine mk2_og5 hx hb hown htg hK hP fl_X2_58 dX2_copyFrom_109 ?_
                    refine mk2_p5 hx hb hown htg hK hI hS hP fl_X2_58 dX2_copyFrom_112 (fun H locs hP hS => ?_)
                    refine lv_aload_n hx hb dX2_copyFrom_115 rfl (lv_at hl 1 rfl) ?_
                    refine lv_aload_n hx hb dX2_copyFrom_116 rfl (lv_at hl 2 rfl) ?_
                    refine mk2_og6 hx hb hown htg hK hP fl_X2_61 dX2_copyFrom_117 ?_
                    refine mk2_p6 hx hb hown htg hK hI hS hP fl_X2_61 dX2_copyFrom_120 (fun H locs hP hS => ?_)
                    refine lv_aload_n hx hb dX2_copyFrom_123 rfl (lv_at hl 1 rfl) ?_
                    refine lv_aload_n hx hb dX2_copyFrom_124 rfl (lv_at hl 2 rfl) ?_
                    refine mk2_og7 hx hb hown htg hK hP fl_X2_64 dX2_copyFrom_125 ?_
                    refine mk2_p7 hx hb hown htg hK hI hS hP fl_X2_64 dX2_copyFrom_128 (fun H locs hP hS => ?_)
                    refine fr_vret hx hb hr hlocks hK hI hS dX2_copyFrom_131 ?_
                    refine fP.eqc (congrArg (fun v9 => mk2c ct ad v9 P) (show (cCp M P n) = (upd (upd (upd (stc (ovi (cs2 M P 4 n) P 12) P) (3) (P 3)) (6) (P 6)) (5) (P 5)) from by exact cCp_e.symm).symm) ?_
                    exact hP
                  · refine lv_aload_n hx hb dX2_copyFrom_75 rfl (lv_at hl 1 rfl) ?_
                    refine mk2_g3 hx hb hown htg hK hP fl_X2_23 dX2_copyFrom_76 ?_
                    refine lv_iload_n hx hb dX2_copyFrom_79 rfl (lv_at hl 0 rfl) ?_
                    refine lv_aload_n hx hb dX2_copyFrom_80 rfl (lv_at hl 2 rfl) ?_
                    refine mk2_og3 hx hb hown htg hK hP fl_X2_23 dX2_copyFrom_81 ?_
                    refine lv_iload_n hx hb dX2_copyFrom_84 rfl (lv_at hl 0 rfl) ?_
                    refine mk2_olo hx hb hK hP (by omega) dX2_copyFrom_85 ?_
                    refine mk2_wo hx hb hK hI hS hP (by omega) (hbw.2.2 _ (by omega)) dX2_copyFrom_86 (fun H locs hP hS => ?_)
                    refine lv_iinc (v := nI (i + 1)) (lv' := [(2, .int (nI (i + 1))), (0, .ref (ad 0)), (1, .ref (ad 19))]) hx hb dX2_copyFrom_87 hl (k := 0) rfl (nI_add i 1) (by decide) rfl (fun ls hl => ?_)
                    refine lv_goto (tgt := 69) hx hb dX2_copyFrom_90 (by decide) ?_
                    have hl := lv_sub (l' := [(2, .int (nI (i + 1))), (0, .ref (ad 0)), (1, .ref (ad 19))]) hl [0, 1, 2] rfl
                    have hP := fP.eqc (congrArg (fun v9 => mk2c ct ad v9 P) (show (upd (ovi (cs2 M P 4 n) P i) (27 + i) (P (27 + i))) = (ovi (cs2 M P 4 n) P (i + 1)) from by exact ovi_s)) hP
                    exact ih69 (i + 1) (by omega) (by omega) _ _ hP hS _ hl
              have hl := lv_sub (l' := [(2, .int (nI 0)), (0, .ref (ad 0)), (1, .ref (ad 19))]) hl [0, 1, 2] rfl
              have hP := fP.eqc (congrArg (fun v9 => mk2c ct ad v9 P) (show (cs2 M P 4 n) = (ovi (cs2 M P 4 n) P 0) from by exact ovi_0)) hP
              exact lp69 (12 - 0 + 1) 0 (by omega) (Nat.lt_succ_self _) _ _ hP hS _ hl
            · refine lv_aload_n hx hb dX2_copyFrom_46 rfl (lv_at hl 1 rfl) ?_
              refine mk2_g2 hx hb hown htg hK hP fl_X2_19 dX2_copyFrom_47 ?_
              refine lv_iload_n hx hb dX2_copyFrom_50 rfl (lv_at hl 0 rfl) ?_
              refine mk2_ab hx hb hK hP (by omega) dX2_copyFrom_51 ?_
              refine lv_aload_n hx hb dX2_copyFrom_52 rfl (lv_at hl 2 rfl) ?_
              refine mk2_og2 hx hb hown htg hK hP fl_X2_19 dX2_copyFrom_53 ?_
              refine lv_iload_n hx hb dX2_copyFrom_56 rfl (lv_at hl 0 rfl) ?_
              refine mk2_oab hx hb hK hP (by omega) dX2_copyFrom_57 ?_
              refine mk2_cb0 (As := [.ref (ad (34 + i))]) (rest := []) (by omega) hx hb hown htg hK hI hS hP hml hl.1 (mX0_copyFrom l D ct ad _ P i (by omega) (hbw.2.1 _ (by omega))) cw_X2_49 rfl rfl ⟨Nat.le_of_ble_eq_true rfl, Nat.le_of_ble_eq_true rfl⟩ (Nat.le_of_ble_eq_true rfl) dX2_copyFrom_58 ⟨Nat.le_refl _, Nat.le_refl _⟩ (fun H locs hP hS => ?_)
              refine lv_iinc (v := nI (i + 1)) (lv' := [(2, .int (nI (i + 1))), (0, .ref (ad 0)), (1, .ref (ad 19))]) hx hb dX2_copyFrom_61 hl (k := 0) rfl (nI_add i 1) (by decide) rfl (fun ls hl => ?_)
              refine lv_goto (tgt := 41) hx hb dX2_copyFrom_64 (by decide) ?_
              have hl := lv_sub (l' := [(2, .int (nI (i + 1))), (0, .ref (ad 0)), (1, .ref (ad 19))]) hl [0, 1, 2] rfl
              have hP := fP.eqc (congrArg (fun v9 => mk2c ct ad v9 P) (show (bcp (cs2 M P i n) P i) = (cs2 M P (i + 1) n) from by exact cs2_s)) hP
              exact ih41 (i + 1) (by omega) (by omega) _ _ hP hS _ hl
        have hl := lv_sub (l' := [(2, .int (nI 0)), (0, .ref (ad 0)), (1, .ref (ad 19))]) hl [0, 1, 2] rfl
        have hP := fP.eqc (congrArg (fun v9 => mk2c ct ad v9 P) (show (cs1 M P n) = (cs2 M P 0 n) from by exact cs2_0)) hP
        exact lp41 (4 - 0 + 1) 0 (by omega) (Nat.lt_succ_self _) _ _ hP hS _ hl
      · refine lv_aload_n hx hb dX2_copyFrom_18 rfl (lv_at hl 1 rfl) ?_
        refine mk2_g0 hx hb hown htg hK hP fl_X2_11 dX2_copyFrom_19 ?_
        refine lv_iload_n hx hb dX2_copyFrom_22 rfl (lv_at hl 0 rfl) ?_
        refine mk2_as hx hb hK hP (by omega) dX2_copyFrom_23 ?_
        refine lv_aload_n hx hb dX2_copyFrom_24 rfl (lv_at hl 2 rfl) ?_
        refine mk2_og0 hx hb hown htg hK hP fl_X2_11 dX2_copyFrom_25 ?_
        refine lv_iload_n hx hb dX2_copyFrom_28 rfl (lv_at hl 0 rfl) ?_
        refine mk2_oas hx hb hK hP (by omega) dX2_copyFrom_29 ?_
        refine mk2_cs0 (As := [.ref (ad (24 + i))]) (rest := []) (by omega) hx hb hown htg hK hI hS hP hml hl.1 (mX4_copyFrom l D ct ad _ P i (by omega) (hbw.1 _ (by omega))) cw_X2_45 rfl rfl ⟨Nat.le_of_ble_eq_true rfl, Nat.le_of_ble_eq_true rfl⟩ (Nat.le_of_ble_eq_true rfl) dX2_copyFrom_30 ⟨Nat.le_refl _, Nat.le_refl _⟩ (fun H locs hP hS => ?_)
        refine lv_iinc (v := nI (i + 1)) (lv' := [(2, .int (nI (i + 1))), (0, .ref (ad 0)), (1, .ref (ad 19))]) hx hb dX2_copyFrom_33 hl (k := 0) rfl (nI_add i 1) (by decide) rfl (fun ls hl => ?_)
        refine lv_goto (tgt := 10) hx hb dX2_copyFrom_36 (by decide) ?_
        have hl := lv_sub (l' := [(2, .int (nI (i + 1))), (0, .ref (ad 0)), (1, .ref (ad 19))]) hl [0, 1, 2] rfl
        have hP := fP.eqc (congrArg (fun v9 => mk2c ct ad v9 P) (show (scp (cs1 M P i) P i) = (cs1 M P (i + 1)) from by exact cs1_s)) hP
        exact ih10 (i + 1) (by omega) (by omega) _ _ hP hS _ hl
  have hl := lv_sub (l' := [(2, .int (nI 0)), (0, .ref (ad 0)), (1, .ref (ad 19))]) hl [0, 1, 2] rfl
  have hP := fP.eqc (congrArg (fun v9 => mk2c ct ad v9 P) (show (upd M (4) (P 4)) = (cs1 M P 0) from by exact cs1_0)) hP
  exact lp10 (n - 0 + 1) 0 (by omega) (Nat.lt_succ_self _) _ _ hP hS _ hl

