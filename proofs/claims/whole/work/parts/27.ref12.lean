/-! THE REFERENCE: the share, its bits, the digest -/
theorem cv_1a {d : UInt64} {c k : Nat} (h : okd d c k) (hk : 1 ≤ k) : Op.cmpValue (FP.dcmp d FP.dconst1) .g = -1 := by rw [cmp_1a h hk]; rfl
theorem cv_1b {d : UInt64} {c : Nat} (h : okd d c 0) : (0 : Int32) ≤ Op.cmpValue (FP.dcmp d FP.dconst1) .g := by
  rcases cmp_1b h with q | q <;> rw [q] <;> decide
theorem cv_lt {d : UInt64} {c k : Nat} (h : okd d c k) (q : Op.cmpValue (FP.dcmp d FP.dconst1) .g < (0 : Int32)) : 1 ≤ k := by
  by_cases e : k = 0
  · subst e; exact absurd (cv_1b h) (Int32.not_le.mpr q)
  · omega
theorem cv_ge {d : UInt64} {c k : Nat} (h : okd d c k) (q : (0 : Int32) ≤ Op.cmpValue (FP.dcmp d FP.dconst1) .g) : k = 0 := by
  by_cases e : k = 0
  · exact e
  · rw [cv_1a h (by omega)] at q; exact absurd q (by decide)
def lj (j : Nat) : Int64 := Int64.ofInt (1023 - (j : Int))
theorem lj_s (j : Nat) : lj j - 1 = lj (j + 1) := by
  unfold lj
  rw [show (1 : Int64) = Int64.ofInt 1 from rfl, ← Int64.ofInt_sub]
  exact congrArg Int64.ofInt (by omega)
def mxH (h v : Int64) : Int64 := 31 * h + v
def msA (Z : Nat → Int32) (k : Nat) (h : Int64) : Nat → Int64
  | 0 => h
  | i + 1 => mxH (msA Z k h i) (Int32.toInt64 (tldS Z k i))
def mwA (Z : Nat → Int32) (n k : Nat) (h : Int64) : Nat → Int64
  | 0 => h
  | i + 1 => mxH (mwA Z n k h i) (Int32.toInt64 (wpR Z n k 10 12 i))
def mwU (Z : Nat → Int32) (n k : Nat) : Nat → Bool
  | 0 => false
  | i + 1 => mwU Z n k i || !tknB Z n k (nI 10)
def msH (Z : Nat → Int32) (n k : Nat) (h : Int64) : Int64 := mxH (mwA Z n k (msA Z k h 10) 3) (Int32.toInt64 (bfS Z n k 12).1)
def msU (Z : Nat → Int32) (n k : Nat) : Bool := mwU Z n k 3 || bfU Z n k 12
def mbA (Z : Nat → Int32) (n b : Nat) (h : Int64) : Nat → Int64
  | 0 => h
  | i + 1 => mxH (mbA Z n b h i) (Int32.toInt64 (tldB Z b n i))
def mbH (Z : Nat → Int32) (n b : Nat) (h : Int64) : Int64 := mxH (mbA Z n b h 7) (Int32.toInt64 (htF Z n b 98 0))
def dgA (Z : Nat → Int32) (sm : Int32) (n : Nat) (h : Int64) : Nat → Int64
  | 0 => h
  | i + 1 => mxH (dgA Z sm n h i) (Int32.toInt64 (cntD Z sm n i))
def dgB (Z : Nat → Int32) (h : Int64) : Nat → Int64
  | 0 => h
  | i + 1 => mxH (dgB Z h i) (Int32.toInt64 (Z (0 + i)))
def dgC (Z : Nat → Int32) (n : Nat) (h : Int64) : Nat → Int64
  | 0 => h
  | i + 1 => msH Z n i (dgC Z n h i)
def dgU (Z : Nat → Int32) (n : Nat) : Nat → Bool
  | 0 => false
  | i + 1 => dgU Z n i || msU Z n i
def dgV (u : Bool) : Nat → Bool
  | 0 => u
  | _ + 1 => true
def dgD (Z : Nat → Int32) (n : Nat) (h : Int64) : Nat → Int64
  | 0 => h
  | i + 1 => mbH Z n i (dgD Z n h i)
def dgE (Z : Nat → Int32) (n : Nat) (h : Int64) : Nat → Int64
  | 0 => h
  | i + 1 => mxH (mxH (dgE Z n h i) (Int32.toInt64 (nI (brk Z i)))) (Int32.toInt64 (ox (satN Z (nI i) n)))
def kpL (x : Int32) : Int64 := if x = 0 then 0 else 1
def dgF (B : Nat → Int32) (h : Int64) : Nat → Int64
  | 0 => h
  | i + 1 => mxH (dgF B h i) (Int32.toInt64 (B i))
def dg1 (Z : Nat → Int32) (sm : Int32) (n : Nat) : Int64 := dgD Z n (dgC Z n (dgB Z (dgA Z sm n 3089 12) 3) n) 4
def dg2 (Z : Nat → Int32) (sm : Int32) (n : Nat) (d : UInt64) : Int64 := mxH (mxH (dgE Z n (dg1 Z sm n) 12) (Int32.toInt64 (lsF Z n 0 991 10))) (bitsD d)
def dg3 (Z : Nat → Int32) (sm : Int32) (n : Nat) (d : UInt64) (K : Nat → Int32) (tn : Nat) : Int64 := mxH (mxH (mxH (dg2 Z sm n d) (kpL (K 0))) (kpL (K 1))) (Int32.toInt64 (nI tn))
def dgH (Z : Nat → Int32) (sm : Int32) (n : Nat) (d : UInt64) (K : Nat → Int32) (tn : Nat) (B : Nat → Int32) : Int64 := dgF B (dg3 Z sm n d K tn) tn
set_option maxRecDepth 100000 in
set_option maxHeartbeats 4000000 in
theorem m6_share (l : Launch) (D : va_G) (ct : Nat → ClassId) (ad : Nat → Nat) (Z g : Nat → Int32) (hs : Int64) (F : Nat → Nat → Int32)  (n : Nat) (sv : Nat) (sd : Nat)  (hw : zW Z n) (hsv : Z 6 = nI sv) (hsd : sumS Z 7 n = nI sd) (hss : sv + sd < 2147483648) : FMet l yX6_share cX6_share 2 (some .double) 5 112 D ct 8 ad [.ref (ad 0)] (mdc ct ad Z g hs F) (some (.double (shD sv sd))) (mdc ct ad Z g hs F) := by
  refine FMet.of (by decide +kernel) (Nat.le_of_ble_eq_true rfl) ?_
  intro p e s m args below meth c ls hx hb hr hml hown hlocks htg hK hI hP hS hl
  have hl : lv_has ls 2 [(0, .ref (ad 0))] := hl
  have hn10 := hw.1
  refine lv_aload_n hx hb dX6_share_0 rfl (lv_at hl 0 rfl) ?_
  refine md_g1 hx hb hown htg hK hP dX6_share_1 ?_
  refine lv_bipush (v := nI 6) hx hb dX6_share_4 (by decide) ?_
  refine md_l1 hx hb hK hP (by omega) dX6_share_6 ?_
  refine lv_teq hsv ?_
  refine lv_aload_n hx hb dX6_share_7 rfl (lv_at hl 0 rfl) ?_
  refine lv_bipush (v := nI 7) hx hb dX6_share_8 (by decide) ?_
  refine md_cVr (As := [.int (nI 7)]) (rest := [.int (nI sv)]) hx hb hown htg hK hI hS hP hml hl.1 (m6_allStalls l D ct ad _ _ _ _ 7 n hw (by omega)) cw_X6_181 rfl rfl ⟨Nat.le_of_ble_eq_true rfl, Nat.le_of_ble_eq_true rfl⟩ (Nat.le_of_ble_eq_true rfl) dX6_share_10 ⟨Nat.le_refl _, Nat.le_refl _⟩ (fun H locs hP hS => ?_)
  refine lv_teq hsd ?_
  refine lv_iaddN hx hb dX6_share_13 ?_
  refine lv_istore_n (lv' := [(1, .int (nI (sv + sd))), (0, .ref (ad 0))]) hx hb dX6_share_14 rfl hl (by decide) rfl (fun ls hl => ?_)
  refine lv_iload_n hx hb dX6_share_15 rfl (lv_at hl 0 rfl) ?_
  refine lv_ifneN (tgt := 23) hx hb (by omega) dX6_share_16 (by decide) (fun c16 => ?_) (fun c16 => ?_)
  · refine lv_aload_n hx hb dX6_share_23 rfl (lv_at hl 1 rfl) ?_
    refine md_g1 hx hb hown htg hK hP dX6_share_24 ?_
    refine lv_bipush (v := nI 6) hx hb dX6_share_27 (by decide) ?_
    refine md_l1 hx hb hK hP (by omega) dX6_share_29 ?_
    refine lv_teq hsv ?_
    refine lv_i2d hx hb dX6_share_30 ?_
    refine lv_iload_n hx hb dX6_share_31 rfl (lv_at hl 0 rfl) ?_
    refine lv_i2d hx hb dX6_share_32 ?_
    refine lv_ddiv hx hb dX6_share_33 (shOk_n (by have h9 := shD_ok hss; rw [shD, if_neg c16] at h9; exact h9)) ?_
    refine fr_dret hx hb hr hlocks hK hI hS dX6_share_34 ?_ ?_
    · first | (rw [shD, if_pos c16]; done) | (rw [shD, if_neg c16]; done)
    · exact hP
  · refine lv_dconst1 hx hb dX6_share_19 ?_
    refine lv_goto (tgt := 34) hx hb dX6_share_20 (by decide) ?_
    refine fr_dret hx hb hr hlocks hK hI hS dX6_share_34 ?_ ?_
    · first | (rw [shD, if_pos c16]; done) | (rw [shD, if_neg c16]; done)
    · exact hP
set_option maxRecDepth 100000 in
set_option maxHeartbeats 4000000 in
theorem m6_servedShare (l : Launch) (D : va_G) (ct : Nat → ClassId) (ad : Nat → Nat) (Z g : Nat → Int32) (hs : Int64) (F : Nat → Nat → Int32)  (n : Nat) (sv : Nat) (sd : Nat)  (hw : zW Z n) (hsv : Z 6 = nI sv) (hsd : sumS Z 7 n = nI sd) (hss : sv + sd < 2147483648) : FMet l yX6_servedShare cX6_servedShare 1 (some .double) 6 133 D ct 8 ad [.ref (ad 0)] (mdc ct ad Z g hs F) (some (.double (shD sv sd))) (mdc ct ad Z (upd g 0 (nI 0)) hs F) := by
  refine FMet.of (by decide +kernel) (Nat.le_of_ble_eq_true rfl) ?_
  intro p e s m args below meth c ls hx hb hr hml hown hlocks htg hK hI hP hS hl
  have hl : lv_has ls 1 [(0, .ref (ad 0))] := hl
  have hn10 := hw.1
  refine lv_aload_n hx hb dX6_servedShare_0 rfl (lv_at hl 0 rfl) ?_
  refine lv_iconst (v := nI 0) hx hb dX6_servedShare_1 (by decide) ?_
  refine md_p0 hx hb hown htg hK hI hS hP dX6_servedShare_2 (fun H locs hP hS => ?_)
  refine lv_aload_n hx hb dX6_servedShare_5 rfl (lv_at hl 0 rfl) ?_
  refine md_cVr (As := []) (rest := []) hx hb hown htg hK hI hS hP hml hl.1 (m6_share l D ct ad _ _ _ _ n sv sd hw hsv hsd hss) cw_X6_208 rfl rfl ⟨Nat.le_of_ble_eq_true rfl, Nat.le_of_ble_eq_true rfl⟩ (Nat.le_of_ble_eq_true rfl) dX6_servedShare_6 ⟨Nat.le_refl _, Nat.le_refl _⟩ (fun H locs hP hS => ?_)
  refine fr_dret hx hb hr hlocks hK hI hS dX6_servedShare_9 ?_ ?_
  · exact rfl
  · exact hP
set_option maxRecDepth 100000 in
set_option maxHeartbeats 4000000 in
theorem m6_bitsOf (l : Launch) (D : va_G) (ct : Nat → ClassId) (ad : Nat → Nat) (Z g : Nat → Int32) (hs : Int64) (F : Nat → Nat → Int32) (d : UInt64)   (hok : shOk d) : FMet l yX6_bitsOf cX6_bitsOf 6 (some .long) 0 0 D ct 8 ad [.double (d)] (mdc ct ad Z g hs F) (some (.long (bitsD d))) (mdc ct ad Z g hs F) := by
  refine FMet.of (by decide +kernel) (Nat.le_of_ble_eq_true rfl) ?_
  intro p e s m args below meth c ls hx hb hr hml hown hlocks htg hK hI hP hS hl
  have hl : lv_has ls 6 [(0, .double (d))] := hl
  rcases hok with hok | ⟨c0, k0, hok⟩
  · refine lv_dload_n hx hb dX6_bitsOf_0 rfl (lv_at hl 0 rfl) ?_
    refine lv_dconst0 hx hb dX6_bitsOf_1 ?_
    refine lv_dcmp hx hb dX6_bitsOf_2 ?_
    refine lv_teq (show Op.cmpValue (FP.dcmp d FP.dconst0) .l = nI 0 from by rw [hok]; decide +kernel) ?_
    refine lv_if_ne (tgt := 8) hx hb dX6_bitsOf_3 (by decide) (fun h => absurd (by decide) h) (fun _ => ?_)
    refine lv_lconst (v := 0) hx hb dX6_bitsOf_6 rfl ?_
    refine fr_lret hx hb hr hlocks hK hI hS dX6_bitsOf_7 ?_ ?_
    · first | (rw [bitsD, if_pos hok]; done) | (rw [bitsD_ok hok, d2l_c (by have := hkk.2.2.1; omega) (okd_52 hkk), hj0]; rfl)
    · exact hP
  · refine lv_dload_n hx hb dX6_bitsOf_0 rfl (lv_at hl 0 rfl) ?_
    refine lv_dconst0 hx hb dX6_bitsOf_1 ?_
    refine lv_dcmp hx hb dX6_bitsOf_2 ?_
    refine lv_teq (show Op.cmpValue (FP.dcmp d FP.dconst0) .l = nI 1 from by rw [show FP.dcmp d FP.dconst0 = some .gt from cmp_0 hok]; rfl) ?_
    refine lv_if_ne (tgt := 8) hx hb dX6_bitsOf_3 (by decide) (fun _ => ?_) (fun h => absurd h (by decide))
    refine lv_dload_n hx hb dX6_bitsOf_8 rfl (lv_at hl 0 rfl) ?_
    refine lv_dstore_n (lv' := [(2, .double (d)), (0, .double (d))]) hx hb dX6_bitsOf_9 rfl hl (by decide) rfl (fun ls hl => ?_)
    refine lv_ldc2 hx hb hown (htg _ k2_X6_212) dX6_bitsOf_10 ?_
    refine lv_lstore (lv' := [(4, .long (1023)), (2, .double (d)), (0, .double (d))]) hx hb dX6_bitsOf_13 hl (by decide) rfl (fun ls hl => ?_)
    refine lv_dload_n hx hb dX6_bitsOf_15 rfl (lv_at hl 1 rfl) ?_
    refine lv_ldc2d hx hb hown (htg _ k2_X6_214) dX6_bitsOf_16 ?_
    refine lv_dcmp hx hb dX6_bitsOf_19 ?_
    refine lv_teq (show Op.cmpValue (FP.dcmp d 4611686018427387904) .l = -1 from by rw [cmp_2 hok]; rfl) ?_
    refine lv_if_lt (tgt := 38) hx hb dX6_bitsOf_20 (by decide) (fun _ => ?_) (fun h => absurd (by decide) h)
    have lp38 : ∀ (fu38 : Nat) (dd : UInt64) (j : Nat) (kk : Nat), okd dd c0 kk → j + kk = k0 → kk < fu38 → ∀ (H : Heap) (locs : List Loc), fP D 8 ad (mdc ct ad Z g hs F) H → va_S (fA 8 ad) s.heap H locs → ∀ (ls : Array Slot), lv_has ls 6 [(4, .long (lj j)), (2, .double (dd)), (0, .double (d))] → W p l e ({ frames := 0, cells := 0, slots := 0, locals := 0 }) s m args below meth c H locs 0 0 (MQ below (fQ D ct 8 ad (some (.long (bitsD d))) (mdc ct ad Z g hs F)) args s 0 0 (fA 8 ad)) (F0 m 38 ls []) := by
      intro fu38
      induction fu38 with
      | zero => intro dd j kk hkk hjk hfu38; exact absurd hfu38 (Nat.not_lt_zero _)
      | succ fu38 ih38 =>
        intro dd j kk hkk hjk hfu38 H locs hP hS ls hl
        refine lv_dload_n hx hb dX6_bitsOf_38 rfl (lv_at hl 1 rfl) ?_
        refine lv_dconst1 hx hb dX6_bitsOf_39 ?_
        refine lv_dcmp hx hb dX6_bitsOf_40 ?_
        refine lv_ifgeR (tgt := 59) hx hb dX6_bitsOf_41 (by decide) (fun c41 => ?_) (fun c41 => ?_)
        · have hk0 := cv_ge hkk c41
          rw [hk0] at hkk
          have hj0 : j = k0 := by omega
          refine lv_lload hx hb dX6_bitsOf_59 (lv_at hl 0 rfl) ?_
          refine lv_bipush (v := nI 52) hx hb dX6_bitsOf_61 (by decide) ?_
          refine lv_lshl (v := (lj j) <<< 52) hx hb dX6_bitsOf_63 (congrArg (fun z => (lj j) <<< z) (show (nI 52).toInt64 &&& 63 = 52 from by decide)) ?_
          refine lv_dload_n hx hb dX6_bitsOf_64 rfl (lv_at hl 1 rfl) ?_
          refine lv_ldc2d hx hb hown (htg _ k2_X6_216) dX6_bitsOf_65 ?_
          refine lv_dmul hx hb dX6_bitsOf_68 (f_n64 (okd_52 hkk)) ?_
          refine lv_d2l hx hb dX6_bitsOf_69 ?_
          refine lv_ladd hx hb dX6_bitsOf_70 ?_
          refine lv_ldc2 hx hb hown (htg _ k2_X6_218) dX6_bitsOf_71 ?_
          refine lv_lsub hx hb dX6_bitsOf_74 ?_
          refine fr_lret hx hb hr hlocks hK hI hS dX6_bitsOf_75 ?_ ?_
          · first | (rw [bitsD, if_pos hok]; done) | (rw [bitsD_ok hok, d2l_c (by have := hkk.2.2.1; omega) (okd_52 hkk), hj0]; rfl)
          · exact hP
        · have hk1 := cv_lt hkk c41
          refine lv_dload_n hx hb dX6_bitsOf_44 rfl (lv_at hl 1 rfl) ?_
          refine lv_ldc2d hx hb hown (htg _ k2_X6_214) dX6_bitsOf_45 ?_
          refine lv_dmul hx hb dX6_bitsOf_48 (okd_n (okd_dbl hkk hk1)) ?_
          refine lv_dstore_n (lv' := [(2, .double (FP.dmul dd 4611686018427387904)), (4, .long (lj j)), (0, .double (d))]) hx hb dX6_bitsOf_49 rfl hl (by decide) rfl (fun ls hl => ?_)
          refine lv_lload hx hb dX6_bitsOf_50 (lv_at hl 1 rfl) ?_
          refine lv_lconst (v := 1) hx hb dX6_bitsOf_52 rfl ?_
          refine lv_lsub hx hb dX6_bitsOf_53 ?_
          refine lv_lstore (lv' := [(4, .long ((lj j) - 1)), (2, .double (FP.dmul dd 4611686018427387904)), (0, .double (d))]) hx hb dX6_bitsOf_54 hl (by decide) rfl (fun ls hl => ?_)
          refine lv_goto (tgt := 38) hx hb dX6_bitsOf_56 (by decide) ?_
          have hl := lv_sub (l' := [(4, .long ((lj j) - 1)), (2, .double (FP.dmul dd 4611686018427387904)), (0, .double (d))]) hl [0, 1, 2] rfl
          have le4 : Value.long ((lj j) - 1) = Value.long (lj (j + 1)) := by exact congrArg Value.long (lj_s j)
          have le2 : Value.double (FP.dmul dd 4611686018427387904) = Value.double ((FP.dmul dd 4611686018427387904)) := by rfl
          have hl := lv_hasE hl (lcons le4 (lcons le2 (lcons rfl rfl)))
          exact ih38 (FP.dmul dd 4611686018427387904) (j + 1) (kk - 1) (okd_dbl hkk hk1) (by omega) (by omega) _ _ hP hS _ hl
    have hl := lv_sub (l' := [(4, .long (1023)), (2, .double (d)), (0, .double (d))]) hl [0, 1, 2] rfl
    have le4 : Value.long (1023) = Value.long (lj 0) := by rfl
    have hl := lv_hasE hl (lcons le4 (lcons rfl (lcons rfl rfl)))
    exact lp38 (k0 + 1) d 0 k0 (hok) (Nat.zero_add _) (Nat.lt_succ_self _) _ _ hP hS _ hl
set_option maxRecDepth 100000 in
set_option maxHeartbeats 4000000 in
theorem m6_mix (l : Launch) (D : va_G) (ct : Nat → ClassId) (ad : Nat → Nat) (Z g : Nat → Int32) (hs : Int64) (F : Nat → Nat → Int32) (v : Int64)    : FMet l yX6_mix cX6_mix 3 (none : Option Jvm.ClassFile.FieldType) 0 0 D ct 8 ad [.ref (ad 0), .long (v)] (mdc ct ad Z g hs F) none (mdc ct ad Z g (mxH hs v) F) := by
  refine FMet.of (by decide +kernel) (Nat.le_of_ble_eq_true rfl) ?_
  intro p e s m args below meth c ls hx hb hr hml hown hlocks htg hK hI hP hS hl
  have hl : lv_has ls 3 [(0, .ref (ad 0)), (1, .long (v))] := hl
  refine lv_aload_n hx hb dX6_mix_0 rfl (lv_at hl 0 rfl) ?_
  refine lv_ldc2 hx hb hown (htg _ k2_X6_220) dX6_mix_1 ?_
  refine lv_aload_n hx hb dX6_mix_4 rfl (lv_at hl 0 rfl) ?_
  refine md_g13 hx hb hown htg hK hP rfl dX6_mix_5 ?_
  refine lv_lmul hx hb dX6_mix_8 ?_
  refine lv_lload_n hx hb dX6_mix_9 rfl (lv_at hl 1 rfl) ?_
  refine lv_ladd hx hb dX6_mix_10 ?_
  refine md_p13 hx hb hown htg hK hI hS hP dX6_mix_11 (fun H locs hP hS => ?_)
  refine fr_vret hx hb hr hlocks hK hI hS dX6_mix_14 ?_
  refine fP.eqc (congrArg (fun v9 => mdc ct ad Z g v9 F) (show (mxH hs v) = ((31 * hs) + v) from by rfl).symm) ?_
  exact hP
set_option maxRecDepth 100000 in
set_option maxHeartbeats 4000000 in
theorem m6_mixStall (l : Launch) (D : va_G) (ct : Nat → ClassId) (ad : Nat → Nat) (Z g : Nat → Int32) (hs : Int64) (F : Nat → Nat → Int32) (k : Nat) (n : Nat)  (hw : zW Z n) (hkn : k < n) : FMet l yX6_mixStall cX6_mixStall 3 (none : Option Jvm.ClassFile.FieldType) 9 213 D ct 8 ad [.ref (ad 0), .int (nI k)] (mdc ct ad Z g hs F) none (mdc ct ad Z g (msH Z n k hs) (sp5 F Z (msU Z n k))) := by
  refine FMet.of (by decide +kernel) (Nat.le_of_ble_eq_true rfl) ?_
  intro p e s m args below meth c ls hx hb hr hml hown hlocks htg hK hI hP hS hl
  have hl : lv_has ls 3 [(0, .ref (ad 0)), (1, .int (nI k))] := hl
  have hn10 := hw.1
  refine lv_iconst (v := nI 0) hx hb dX6_mixStall_0 (by decide) ?_
  refine lv_istore_n (lv' := [(2, .int (nI 0)), (0, .ref (ad 0)), (1, .int (nI k))]) hx hb dX6_mixStall_1 rfl hl (by decide) rfl (fun ls hl => ?_)
  have lp2 : ∀ (fu2 : Nat) (i : Nat), i ≤ 10 → 10 - i < fu2 → ∀ (H : Heap) (locs : List Loc), fP D 8 ad (mdc ct ad Z g (msA Z k hs i) F) H → va_S (fA 8 ad) s.heap H locs → ∀ (ls : Array Slot), lv_has ls 3 [(2, .int (nI i)), (0, .ref (ad 0)), (1, .int (nI k))] → W p l e ({ frames := 9, cells := 0, slots := 0, locals := 213 }) s m args below meth c H locs 0 0 (MQ below (fQ D ct 8 ad none (mdc ct ad Z g (msH Z n k hs) (sp5 F Z (msU Z n k)))) args s 0 0 (fA 8 ad)) (F0 m 2 ls []) := by
    intro fu2
    induction fu2 with
    | zero => intro i hi hfu2; exact absurd hfu2 (Nat.not_lt_zero _)
    | succ fu2 ih2 =>
      intro i hi hfu2 H locs hP hS ls hl
      refine lv_iload_n hx hb dX6_mixStall_2 rfl (lv_at hl 0 rfl) ?_
      refine lv_bipush (v := nI 9) hx hb dX6_mixStall_3 (by decide) ?_
      refine lv_icmp_gtN (tgt := 25) hx hb (by omega) (by omega) dX6_mixStall_5 (by decide) (fun c5 => ?_) (fun c5 => ?_)
      · obtain rfl : i = 10 := by omega
        refine lv_iconst (v := nI 0) hx hb dX6_mixStall_25 (by decide) ?_
        refine lv_istore_n (lv' := [(2, .int (nI 0)), (0, .ref (ad 0)), (1, .int (nI k))]) hx hb dX6_mixStall_26 rfl hl (by decide) rfl (fun ls hl => ?_)
        have lp27 : ∀ (fu27 : Nat) (i : Nat), i ≤ 3 → 3 - i < fu27 → ∀ (H : Heap) (locs : List Loc), fP D 8 ad (mdc ct ad Z g (mwA Z n k (msA Z k hs 10) i) (sp5 F Z (mwU Z n k i))) H → va_S (fA 8 ad) s.heap H locs → ∀ (ls : Array Slot), lv_has ls 3 [(2, .int (nI i)), (0, .ref (ad 0)), (1, .int (nI k))] → W p l e ({ frames := 9, cells := 0, slots := 0, locals := 213 }) s m args below meth c H locs 0 0 (MQ below (fQ D ct 8 ad none (mdc ct ad Z g (msH Z n k hs) (sp5 F Z (msU Z n k)))) args s 0 0 (fA 8 ad)) (F0 m 27 ls []) := by
          intro fu27
          induction fu27 with
          | zero => intro i hi hfu27; exact absurd hfu27 (Nat.not_lt_zero _)
          | succ fu27 ih27 =>
            intro i hi hfu27 H locs hP hS ls hl
            refine lv_iload_n hx hb dX6_mixStall_27 rfl (lv_at hl 0 rfl) ?_
            refine lv_iconst (v := nI 2) hx hb dX6_mixStall_28 (by decide) ?_
            refine lv_icmp_gtN (tgt := 53) hx hb (by omega) (by omega) dX6_mixStall_29 (by decide) (fun c29 => ?_) (fun c29 => ?_)
            · obtain rfl : i = 3 := by omega
              refine lv_aload_n hx hb dX6_mixStall_53 rfl (lv_at hl 1 rfl) ?_
              refine lv_aload_n hx hb dX6_mixStall_54 rfl (lv_at hl 1 rfl) ?_
              refine lv_iload_n hx hb dX6_mixStall_55 rfl (lv_at hl 2 rfl) ?_
              refine md_cVr (As := [.int (nI k)]) (rest := [.ref (ad 0)]) hx hb hown htg hK hI hS hP hml hl.1 (m6_bestFor l D ct ad _ _ _ _ k n hw (by omega)) cw_X6_202 rfl rfl ⟨Nat.le_of_ble_eq_true rfl, Nat.le_of_ble_eq_true rfl⟩ (Nat.le_of_ble_eq_true rfl) dX6_mixStall_56 ⟨Nat.le_refl _, Nat.le_refl _⟩ (fun H locs hP hS => ?_)
              refine lv_i2l (v := Int32.toInt64 ((bfS Z n k 12).1)) hx hb dX6_mixStall_59 rfl ?_
              refine md_cV0 (As := [.long (Int32.toInt64 ((bfS Z n k 12).1))]) (rest := []) hx hb hown htg hK hI hS hP hml hl.1 (m6_mix l D ct ad _ _ _ _ (Int32.toInt64 ((bfS Z n k 12).1))) cw_X6_226 rfl rfl ⟨Nat.le_of_ble_eq_true rfl, Nat.le_of_ble_eq_true rfl⟩ (Nat.le_of_ble_eq_true rfl) dX6_mixStall_60 ⟨Nat.le_refl _, Nat.le_refl _⟩ (fun H locs hP hS => ?_)
              refine fr_vret hx hb hr hlocks hK hI hS dX6_mixStall_63 ?_
              refine fP.eqc (congrArg (fun v9 => mdc ct ad Z g v9 (sp5 F Z (msU Z n k))) (show (msH Z n k hs) = (mxH (mwA Z n k (msA Z k hs 10) 3) (Int32.toInt64 ((bfS Z n k 12).1))) from by first | rfl | exact sp5_sp5 _ _ _ _ | exact (sp5_sp5 _ _ _ _).symm).symm) ?_
              refine fP.eqc (congrArg (fun v9 => mdc ct ad Z g (mxH (mwA Z n k (msA Z k hs 10) 3) (Int32.toInt64 ((bfS Z n k 12).1))) v9) (show (sp5 F Z (msU Z n k)) = (sp5 (sp5 F Z (mwU Z n k 3)) Z (bfU Z n k 12)) from by first | rfl | exact sp5_sp5 _ _ _ _ | exact (sp5_sp5 _ _ _ _).symm).symm) ?_
              exact hP
            · refine lv_aload_n hx hb dX6_mixStall_32 rfl (lv_at hl 1 rfl) ?_
              refine lv_aload_n hx hb dX6_mixStall_33 rfl (lv_at hl 1 rfl) ?_
              refine lv_iload_n hx hb dX6_mixStall_34 rfl (lv_at hl 2 rfl) ?_
              refine lv_bipush (v := nI 10) hx hb dX6_mixStall_35 (by decide) ?_
              refine lv_bipush (v := nI 12) hx hb dX6_mixStall_37 (by decide) ?_
              refine lv_iload_n hx hb dX6_mixStall_39 rfl (lv_at hl 0 rfl) ?_
              refine md_cVr (As := [.int (nI k), .int (nI 10), .int (nI 12), .int (nI i)]) (rest := [.ref (ad 0)]) hx hb hown htg hK hI hS hP hml hl.1 (m6_wouldPlug l D ct ad _ _ _ _ k 10 12 i n hw (by omega) (by omega) (by omega) (by omega)) cw_X6_196 rfl rfl ⟨Nat.le_of_ble_eq_true rfl, Nat.le_of_ble_eq_true rfl⟩ (Nat.le_of_ble_eq_true rfl) dX6_mixStall_40 ⟨Nat.le_refl _, Nat.le_refl _⟩ (fun H locs hP hS => ?_)
              refine lv_i2l (v := Int32.toInt64 (wpR Z n k 10 12 i)) hx hb dX6_mixStall_43 rfl ?_
              refine md_cV0 (As := [.long (Int32.toInt64 (wpR Z n k 10 12 i))]) (rest := []) hx hb hown htg hK hI hS hP hml hl.1 (m6_mix l D ct ad _ _ _ _ (Int32.toInt64 (wpR Z n k 10 12 i))) cw_X6_226 rfl rfl ⟨Nat.le_of_ble_eq_true rfl, Nat.le_of_ble_eq_true rfl⟩ (Nat.le_of_ble_eq_true rfl) dX6_mixStall_44 ⟨Nat.le_refl _, Nat.le_refl _⟩ (fun H locs hP hS => ?_)
              refine lv_iinc (v := nI (i + 1)) (lv' := [(2, .int (nI (i + 1))), (0, .ref (ad 0)), (1, .int (nI k))]) hx hb dX6_mixStall_47 hl (k := 0) rfl (nI_add i 1) (by decide) rfl (fun ls hl => ?_)
              refine lv_goto (tgt := 27) hx hb dX6_mixStall_50 (by decide) ?_
              have hl := lv_sub (l' := [(2, .int (nI (i + 1))), (0, .ref (ad 0)), (1, .int (nI k))]) hl [0, 1, 2] rfl
              have hP := fP.eqc (congrArg (fun v9 => mdc ct ad Z g v9 (sp5 (sp5 F Z (mwU Z n k i)) Z (!tknB Z n k (nI 10)))) (show (mxH (mwA Z n k (msA Z k hs 10) i) (Int32.toInt64 (wpR Z n k 10 12 i))) = (mwA Z n k (msA Z k hs 10) (i + 1)) from by first | rfl | exact sp5_sp5 _ _ _ _)) hP
              have hP := fP.eqc (congrArg (fun v9 => mdc ct ad Z g (mwA Z n k (msA Z k hs 10) (i + 1)) v9) (show (sp5 (sp5 F Z (mwU Z n k i)) Z (!tknB Z n k (nI 10))) = (sp5 F Z (mwU Z n k (i + 1))) from by first | rfl | exact sp5_sp5 _ _ _ _)) hP
              exact ih27 (i + 1) (by omega) (by omega) _ _ hP hS _ hl
        have hl := lv_sub (l' := [(2, .int (nI 0)), (0, .ref (ad 0)), (1, .int (nI k))]) hl [0, 1, 2] rfl
        have hP := fP.eqc (congrArg (fun v9 => mdc ct ad Z g v9 F) (show (msA Z k hs 10) = (mwA Z n k (msA Z k hs 10) 0) from by rfl)) hP
        have hP := fP.eqc (congrArg (fun v9 => mdc ct ad Z g (mwA Z n k (msA Z k hs 10) 0) v9) (show F = (sp5 F Z (mwU Z n k 0)) from by rfl)) hP
        exact lp27 (3 - 0 + 1) 0 (by omega) (Nat.lt_succ_self _) _ _ hP hS _ hl
      · refine lv_aload_n hx hb dX6_mixStall_8 rfl (lv_at hl 1 rfl) ?_
        refine lv_aload_n hx hb dX6_mixStall_9 rfl (lv_at hl 1 rfl) ?_
        refine lv_iload_n hx hb dX6_mixStall_10 rfl (lv_at hl 2 rfl) ?_
        refine lv_iload_n hx hb dX6_mixStall_11 rfl (lv_at hl 0 rfl) ?_
        refine md_cVr (As := [.int (nI k), .int (nI i)]) (rest := [.ref (ad 0)]) hx hb hown htg hK hI hS hP hml hl.1 (m6_toldStall l D ct ad _ _ _ _ k i n hw (by omega) (by omega)) cw_X6_166 rfl rfl ⟨Nat.le_of_ble_eq_true rfl, Nat.le_of_ble_eq_true rfl⟩ (Nat.le_of_ble_eq_true rfl) dX6_mixStall_12 ⟨Nat.le_refl _, Nat.le_refl _⟩ (fun H locs hP hS => ?_)
        refine lv_i2l (v := Int32.toInt64 (tldS Z k i)) hx hb dX6_mixStall_15 rfl ?_
        refine md_cV0 (As := [.long (Int32.toInt64 (tldS Z k i))]) (rest := []) hx hb hown htg hK hI hS hP hml hl.1 (m6_mix l D ct ad _ _ _ _ (Int32.toInt64 (tldS Z k i))) cw_X6_226 rfl rfl ⟨Nat.le_of_ble_eq_true rfl, Nat.le_of_ble_eq_true rfl⟩ (Nat.le_of_ble_eq_true rfl) dX6_mixStall_16 ⟨Nat.le_refl _, Nat.le_refl _⟩ (fun H locs hP hS => ?_)
        refine lv_iinc (v := nI (i + 1)) (lv' := [(2, .int (nI (i + 1))), (0, .ref (ad 0)), (1, .int (nI k))]) hx hb dX6_mixStall_19 hl (k := 0) rfl (nI_add i 1) (by decide) rfl (fun ls hl => ?_)
        refine lv_goto (tgt := 2) hx hb dX6_mixStall_22 (by decide) ?_
        have hl := lv_sub (l' := [(2, .int (nI (i + 1))), (0, .ref (ad 0)), (1, .int (nI k))]) hl [0, 1, 2] rfl
        have hP := fP.eqc (congrArg (fun v9 => mdc ct ad Z g v9 F) (show (mxH (msA Z k hs i) (Int32.toInt64 (tldS Z k i))) = (msA Z k hs (i + 1)) from by rfl)) hP
        exact ih2 (i + 1) (by omega) (by omega) _ _ hP hS _ hl
  have hl := lv_sub (l' := [(2, .int (nI 0)), (0, .ref (ad 0)), (1, .int (nI k))]) hl [0, 1, 2] rfl
  have hP := fP.eqc (congrArg (fun v9 => mdc ct ad Z g v9 F) (show hs = (msA Z k hs 0) from by rfl)) hP
  exact lp2 (10 - 0 + 1) 0 (by omega) (Nat.lt_succ_self _) _ _ hP hS _ hl
set_option maxRecDepth 100000 in
set_option maxHeartbeats 4000000 in
theorem m6_mixBreaker (l : Launch) (D : va_G) (ct : Nat → ClassId) (ad : Nat → Nat) (Z g : Nat → Int32) (hs : Int64) (F : Nat → Nat → Int32) (b : Nat) (n : Nat)  (hw : zW Z n) (hb4 : b < 4) : FMet l yX6_mixBreaker cX6_mixBreaker 3 (none : Option Jvm.ClassFile.FieldType) 7 157 D ct 8 ad [.ref (ad 0), .int (nI b)] (mdc ct ad Z g hs F) none (mdc ct ad Z g (mbH Z n b hs) (sp5 F Z true)) := by
  refine FMet.of (by decide +kernel) (Nat.le_of_ble_eq_true rfl) ?_
  intro p e s m args below meth c ls hx hb hr hml hown hlocks htg hK hI hP hS hl
  have hl : lv_has ls 3 [(0, .ref (ad 0)), (1, .int (nI b))] := hl
  have hn10 := hw.1
  refine lv_iconst (v := nI 0) hx hb dX6_mixBreaker_0 (by decide) ?_
  refine lv_istore_n (lv' := [(2, .int (nI 0)), (0, .ref (ad 0)), (1, .int (nI b))]) hx hb dX6_mixBreaker_1 rfl hl (by decide) rfl (fun ls hl => ?_)
  have lp2 : ∀ (fu2 : Nat) (i : Nat), i ≤ 7 → 7 - i < fu2 → ∀ (H : Heap) (locs : List Loc), fP D 8 ad (mdc ct ad Z g (mbA Z n b hs i) F) H → va_S (fA 8 ad) s.heap H locs → ∀ (ls : Array Slot), lv_has ls 3 [(2, .int (nI i)), (0, .ref (ad 0)), (1, .int (nI b))] → W p l e ({ frames := 7, cells := 0, slots := 0, locals := 157 }) s m args below meth c H locs 0 0 (MQ below (fQ D ct 8 ad none (mdc ct ad Z g (mbH Z n b hs) (sp5 F Z true))) args s 0 0 (fA 8 ad)) (F0 m 2 ls []) := by
    intro fu2
    induction fu2 with
    | zero => intro i hi hfu2; exact absurd hfu2 (Nat.not_lt_zero _)
    | succ fu2 ih2 =>
      intro i hi hfu2 H locs hP hS ls hl
      refine lv_iload_n hx hb dX6_mixBreaker_2 rfl (lv_at hl 0 rfl) ?_
      refine lv_bipush (v := nI 6) hx hb dX6_mixBreaker_3 (by decide) ?_
      refine lv_icmp_gtN (tgt := 25) hx hb (by omega) (by omega) dX6_mixBreaker_5 (by decide) (fun c5 => ?_) (fun c5 => ?_)
      · obtain rfl : i = 7 := by omega
        refine lv_aload_n hx hb dX6_mixBreaker_25 rfl (lv_at hl 1 rfl) ?_
        refine lv_aload_n hx hb dX6_mixBreaker_26 rfl (lv_at hl 1 rfl) ?_
        refine lv_iload_n hx hb dX6_mixBreaker_27 rfl (lv_at hl 2 rfl) ?_
        refine md_cVr (As := [.int (nI b)]) (rest := [.ref (ad 0)]) hx hb hown htg hK hI hS hP hml hl.1 (m6_hoursToTrip l D ct ad _ _ _ _ b n hw (by omega)) cw_X6_199 rfl rfl ⟨Nat.le_of_ble_eq_true rfl, Nat.le_of_ble_eq_true rfl⟩ (Nat.le_of_ble_eq_true rfl) dX6_mixBreaker_28 ⟨Nat.le_refl _, Nat.le_refl _⟩ (fun H locs hP hS => ?_)
        refine lv_i2l (v := Int32.toInt64 (htF Z n b 98 0)) hx hb dX6_mixBreaker_31 rfl ?_
        refine md_cV0 (As := [.long (Int32.toInt64 (htF Z n b 98 0))]) (rest := []) hx hb hown htg hK hI hS hP hml hl.1 (m6_mix l D ct ad _ _ _ _ (Int32.toInt64 (htF Z n b 98 0))) cw_X6_226 rfl rfl ⟨Nat.le_of_ble_eq_true rfl, Nat.le_of_ble_eq_true rfl⟩ (Nat.le_of_ble_eq_true rfl) dX6_mixBreaker_32 ⟨Nat.le_refl _, Nat.le_refl _⟩ (fun H locs hP hS => ?_)
        refine fr_vret hx hb hr hlocks hK hI hS dX6_mixBreaker_35 ?_
        refine fP.eqc (congrArg (fun v9 => mdc ct ad Z g v9 (sp5 F Z true)) (show (mbH Z n b hs) = (mxH (mbA Z n b hs 7) (Int32.toInt64 (htF Z n b 98 0))) from by rfl).symm) ?_
        exact hP
      · refine lv_aload_n hx hb dX6_mixBreaker_8 rfl (lv_at hl 1 rfl) ?_
        refine lv_aload_n hx hb dX6_mixBreaker_9 rfl (lv_at hl 1 rfl) ?_
        refine lv_iload_n hx hb dX6_mixBreaker_10 rfl (lv_at hl 2 rfl) ?_
        refine lv_iload_n hx hb dX6_mixBreaker_11 rfl (lv_at hl 0 rfl) ?_
        refine md_cVr (As := [.int (nI b), .int (nI i)]) (rest := [.ref (ad 0)]) hx hb hown htg hK hI hS hP hml hl.1 (m6_toldBreaker l D ct ad _ _ _ _ b i n hw (by omega) (by omega)) cw_X6_172 rfl rfl ⟨Nat.le_of_ble_eq_true rfl, Nat.le_of_ble_eq_true rfl⟩ (Nat.le_of_ble_eq_true rfl) dX6_mixBreaker_12 ⟨Nat.le_refl _, Nat.le_refl _⟩ (fun H locs hP hS => ?_)
        refine lv_i2l (v := Int32.toInt64 (tldB Z b n i)) hx hb dX6_mixBreaker_15 rfl ?_
        refine md_cV0 (As := [.long (Int32.toInt64 (tldB Z b n i))]) (rest := []) hx hb hown htg hK hI hS hP hml hl.1 (m6_mix l D ct ad _ _ _ _ (Int32.toInt64 (tldB Z b n i))) cw_X6_226 rfl rfl ⟨Nat.le_of_ble_eq_true rfl, Nat.le_of_ble_eq_true rfl⟩ (Nat.le_of_ble_eq_true rfl) dX6_mixBreaker_16 ⟨Nat.le_refl _, Nat.le_refl _⟩ (fun H locs hP hS => ?_)
        refine lv_iinc (v := nI (i + 1)) (lv' := [(2, .int (nI (i + 1))), (0, .ref (ad 0)), (1, .int (nI b))]) hx hb dX6_mixBreaker_19 hl (k := 0) rfl (nI_add i 1) (by decide) rfl (fun ls hl => ?_)
        refine lv_goto (tgt := 2) hx hb dX6_mixBreaker_22 (by decide) ?_
        have hl := lv_sub (l' := [(2, .int (nI (i + 1))), (0, .ref (ad 0)), (1, .int (nI b))]) hl [0, 1, 2] rfl
        have hP := fP.eqc (congrArg (fun v9 => mdc ct ad Z g v9 F) (show (mxH (mbA Z n b hs i) (Int32.toInt64 (tldB Z b n i))) = (mbA Z n b hs (i + 1)) from by rfl)) hP
        exact ih2 (i + 1) (by omega) (by omega) _ _ hP hS _ hl
  have hl := lv_sub (l' := [(2, .int (nI 0)), (0, .ref (ad 0)), (1, .int (nI b))]) hl [0, 1, 2] rfl
  have hP := fP.eqc (congrArg (fun v9 => mdc ct ad Z g v9 F) (show hs = (mbA Z n b hs 0) from by rfl)) hP
  exact lp2 (7 - 0 + 1) 0 (by omega) (Nat.lt_succ_self _) _ _ hP hS _ hl
set_option maxRecDepth 100000 in
set_option maxHeartbeats 4000000 in
theorem m6_digest (l : Launch) (D : va_G) (ct : Nat → ClassId) (ad : Nat → Nat) (Z g : Nat → Int32) (hs : Int64) (F : Nat → Nat → Int32)  (n : Nat) (sv : Nat) (sd : Nat) (tn : Nat)  (hw : zW Z n) (hsv : Z 6 = nI sv) (hsd : sumS Z 7 n = nI sd) (hss : sv + sd < 2147483648) (ht : g 8 = nI tn) (htn : tn ≤ 60) : FMet l yX6_digest cX6_digest 2 (some .long) 10 235 D ct 8 ad [.ref (ad 0)] (mdc ct ad Z g hs F) (some (.long (dgH Z (g 3) n (shD sv sd) (F 4) tn (F 6)))) (mdc ct ad Z (upd g 0 (nI 0)) (dgH Z (g 3) n (shD sv sd) (F 4) tn (F 6)) (sp5 F Z true)) := by
  refine FMet.of (by decide +kernel) (Nat.le_of_ble_eq_true rfl) ?_
  intro p e s m args below meth c ls hx hb hr hml hown hlocks htg hK hI hP hS hl
  have hl : lv_has ls 2 [(0, .ref (ad 0))] := hl
  have hn10 := hw.1
  refine lv_aload_n hx hb dX6_digest_0 rfl (lv_at hl 0 rfl) ?_
  refine lv_iconst (v := nI 0) hx hb dX6_digest_1 (by decide) ?_
  refine md_p0 hx hb hown htg hK hI hS hP dX6_digest_2 (fun H locs hP hS => ?_)
  refine lv_aload_n hx hb dX6_digest_5 rfl (lv_at hl 0 rfl) ?_
  refine lv_ldc2 hx hb hown (htg _ k2_X6_230) dX6_digest_6 ?_
  refine md_p13 hx hb hown htg hK hI hS hP dX6_digest_9 (fun H locs hP hS => ?_)
  refine lv_iconst (v := nI 0) hx hb dX6_digest_12 (by decide) ?_
  refine lv_istore_n (lv' := [(1, .int (nI 0)), (0, .ref (ad 0))]) hx hb dX6_digest_13 rfl hl (by decide) rfl (fun ls hl => ?_)
  have lp14 : ∀ (fu14 : Nat) (i : Nat), i ≤ 12 → 12 - i < fu14 → ∀ (H : Heap) (locs : List Loc), fP D 8 ad (mdc ct ad Z (upd g 0 (nI 0)) (dgA Z (g 3) n 3089 i) F) H → va_S (fA 8 ad) s.heap H locs → ∀ (ls : Array Slot), lv_has ls 2 [(1, .int (nI i)), (0, .ref (ad 0))] → W p l e ({ frames := 10, cells := 0, slots := 0, locals := 235 }) s m args below meth c H locs 0 0 (MQ below (fQ D ct 8 ad (some (.long (dgH Z (g 3) n (shD sv sd) (F 4) tn (F 6)))) (mdc ct ad Z (upd g 0 (nI 0)) (dgH Z (g 3) n (shD sv sd) (F 4) tn (F 6)) (sp5 F Z true))) args s 0 0 (fA 8 ad)) (F0 m 14 ls []) := by
    intro fu14
    induction fu14 with
    | zero => intro i hi hfu14; exact absurd hfu14 (Nat.not_lt_zero _)
    | succ fu14 ih14 =>
      intro i hi hfu14 H locs hP hS ls hl
      refine lv_iload_n hx hb dX6_digest_14 rfl (lv_at hl 0 rfl) ?_
      refine lv_bipush (v := nI 11) hx hb dX6_digest_15 (by decide) ?_
      refine lv_icmp_gtN (tgt := 36) hx hb (by omega) (by omega) dX6_digest_17 (by decide) (fun c17 => ?_) (fun c17 => ?_)
      · obtain rfl : i = 12 := by omega
        refine lv_iconst (v := nI 0) hx hb dX6_digest_36 (by decide) ?_
        refine lv_istore_n (lv' := [(1, .int (nI 0)), (0, .ref (ad 0))]) hx hb dX6_digest_37 rfl hl (by decide) rfl (fun ls hl => ?_)
        have lp38 : ∀ (fu38 : Nat) (i : Nat), i ≤ 3 → 3 - i < fu38 → ∀ (H : Heap) (locs : List Loc), fP D 8 ad (mdc ct ad Z (upd g 0 (nI 0)) (dgB Z (dgA Z (g 3) n 3089 12) i) F) H → va_S (fA 8 ad) s.heap H locs → ∀ (ls : Array Slot), lv_has ls 2 [(1, .int (nI i)), (0, .ref (ad 0))] → W p l e ({ frames := 10, cells := 0, slots := 0, locals := 235 }) s m args below meth c H locs 0 0 (MQ below (fQ D ct 8 ad (some (.long (dgH Z (g 3) n (shD sv sd) (F 4) tn (F 6)))) (mdc ct ad Z (upd g 0 (nI 0)) (dgH Z (g 3) n (shD sv sd) (F 4) tn (F 6)) (sp5 F Z true))) args s 0 0 (fA 8 ad)) (F0 m 38 ls []) := by
          intro fu38
          induction fu38 with
          | zero => intro i hi hfu38; exact absurd hfu38 (Nat.not_lt_zero _)
          | succ fu38 ih38 =>
            intro i hi hfu38 H locs hP hS ls hl
            refine lv_iload_n hx hb dX6_digest_38 rfl (lv_at hl 0 rfl) ?_
            refine lv_iconst (v := nI 3) hx hb dX6_digest_39 (by decide) ?_
            refine lv_icmp_geN (tgt := 62) hx hb (by omega) (by omega) dX6_digest_40 (by decide) (fun c40 => ?_) (fun c40 => ?_)
            · obtain rfl : i = 3 := by omega
              refine lv_iconst (v := nI 0) hx hb dX6_digest_62 (by decide) ?_
              refine lv_istore_n (lv' := [(1, .int (nI 0)), (0, .ref (ad 0))]) hx hb dX6_digest_63 rfl hl (by decide) rfl (fun ls hl => ?_)
              have lp64 : ∀ (fu64 : Nat) (i : Nat), i ≤ n → n - i < fu64 → ∀ (H : Heap) (locs : List Loc), fP D 8 ad (mdc ct ad Z (upd g 0 (nI 0)) (dgC Z n (dgB Z (dgA Z (g 3) n 3089 12) 3) i) (sp5 F Z (dgU Z n i))) H → va_S (fA 8 ad) s.heap H locs → ∀ (ls : Array Slot), lv_has ls 2 [(1, .int (nI i)), (0, .ref (ad 0))] → W p l e ({ frames := 10, cells := 0, slots := 0, locals := 235 }) s m args below meth c H locs 0 0 (MQ below (fQ D ct 8 ad (some (.long (dgH Z (g 3) n (shD sv sd) (F 4) tn (F 6)))) (mdc ct ad Z (upd g 0 (nI 0)) (dgH Z (g 3) n (shD sv sd) (F 4) tn (F 6)) (sp5 F Z true))) args s 0 0 (fA 8 ad)) (F0 m 64 ls []) := by
                intro fu64
                induction fu64 with
                | zero => intro i hi hfu64; exact absurd hfu64 (Nat.not_lt_zero _)
                | succ fu64 ih64 =>
                  intro i hi hfu64 H locs hP hS ls hl
                  refine lv_iload_n hx hb dX6_digest_64 rfl (lv_at hl 0 rfl) ?_
                  refine lv_aload_n hx hb dX6_digest_65 rfl (lv_at hl 1 rfl) ?_
                  refine md_g1 hx hb hown htg hK hP dX6_digest_66 ?_
                  refine lv_iconst (v := nI 4) hx hb dX6_digest_69 (by decide) ?_
                  refine md_l1 hx hb hK hP (by omega) dX6_digest_70 ?_
                  refine lv_teq (hw).2.1 ?_
                  refine lv_icmp_geN (tgt := 85) hx hb (by omega) (by omega) dX6_digest_71 (by decide) (fun c71 => ?_) (fun c71 => ?_)
                  · have e9 : n = i := by omega
                    subst e9
                    refine lv_iconst (v := nI 0) hx hb dX6_digest_85 (by decide) ?_
                    refine lv_istore_n (lv' := [(1, .int (nI 0)), (0, .ref (ad 0))]) hx hb dX6_digest_86 rfl hl (by decide) rfl (fun ls hl => ?_)
                    have lp87 : ∀ (fu87 : Nat) (i : Nat), i ≤ 4 → 4 - i < fu87 → ∀ (H : Heap) (locs : List Loc), fP D 8 ad (mdc ct ad Z (upd g 0 (nI 0)) (dgD Z n (dgC Z n (dgB Z (dgA Z (g 3) n 3089 12) 3) n) i) (sp5 F Z (dgV (dgU Z n n) i))) H → va_S (fA 8 ad) s.heap H locs → ∀ (ls : Array Slot), lv_has ls 2 [(1, .int (nI i)), (0, .ref (ad 0))] → W p l e ({ frames := 10, cells := 0, slots := 0, locals := 235 }) s m args below meth c H locs 0 0 (MQ below (fQ D ct 8 ad (some (.long (dgH Z (g 3) n (shD sv sd) (F 4) tn (F 6)))) (mdc ct ad Z (upd g 0 (nI 0)) (dgH Z (g 3) n (shD sv sd) (F 4) tn (F 6)) (sp5 F Z true))) args s 0 0 (fA 8 ad)) (F0 m 87 ls []) := by
                      intro fu87
                      induction fu87 with
                      | zero => intro i hi hfu87; exact absurd hfu87 (Nat.not_lt_zero _)
                      | succ fu87 ih87 =>
                        intro i hi hfu87 H locs hP hS ls hl
                        refine lv_iload_n hx hb dX6_digest_87 rfl (lv_at hl 0 rfl) ?_
                        refine lv_iconst (v := nI 4) hx hb dX6_digest_88 (by decide) ?_
                        refine lv_icmp_geN (tgt := 103) hx hb (by omega) (by omega) dX6_digest_89 (by decide) (fun c89 => ?_) (fun c89 => ?_)
                        · obtain rfl : i = 4 := by omega
                          have hP : fP D 8 ad (mdc ct ad Z (upd g 0 (nI 0)) (dgD Z n (dgC Z n (dgB Z (dgA Z (g 3) n 3089 12) 3) n) 4) (sp5 F Z true)) H := hP
                          refine lv_iconst (v := nI 0) hx hb dX6_digest_103 (by decide) ?_
                          refine lv_istore_n (lv' := [(1, .int (nI 0)), (0, .ref (ad 0))]) hx hb dX6_digest_104 rfl hl (by decide) rfl (fun ls hl => ?_)
                          have lp105 : ∀ (fu105 : Nat) (i : Nat), i ≤ 12 → 12 - i < fu105 → ∀ (H : Heap) (locs : List Loc), fP D 8 ad (mdc ct ad Z (upd g 0 (nI 0)) (dgE Z n (dg1 Z (g 3) n) i) (sp5 F Z true)) H → va_S (fA 8 ad) s.heap H locs → ∀ (ls : Array Slot), lv_has ls 2 [(1, .int (nI i)), (0, .ref (ad 0))] → W p l e ({ frames := 10, cells := 0, slots := 0, locals := 235 }) s m args below meth c H locs 0 0 (MQ below (fQ D ct 8 ad (some (.long (dgH Z (g 3) n (shD sv sd) (F 4) tn (F 6)))) (mdc ct ad Z (upd g 0 (nI 0)) (dgH Z (g 3) n (shD sv sd) (F 4) tn (F 6)) (sp5 F Z true))) args s 0 0 (fA 8 ad)) (F0 m 105 ls []) := by
                            intro fu105
                            induction fu105 with
                            | zero => intro i hi hfu105; exact absurd hfu105 (Nat.not_lt_zero _)
                            | succ fu105 ih105 =>
                              intro i hi hfu105 H locs hP hS ls hl
                              refine lv_iload_n hx hb dX6_digest_105 rfl (lv_at hl 0 rfl) ?_
                              refine lv_bipush (v := nI 12) hx hb dX6_digest_106 (by decide) ?_
                              refine lv_icmp_geN (tgt := 137) hx hb (by omega) (by omega) dX6_digest_108 (by decide) (fun c108 => ?_) (fun c108 => ?_)
                              · obtain rfl : i = 12 := by omega
                                refine lv_aload_n hx hb dX6_digest_137 rfl (lv_at hl 1 rfl) ?_
                                refine lv_aload_n hx hb dX6_digest_138 rfl (lv_at hl 1 rfl) ?_
                                refine lv_iconst (v := nI 0) hx hb dX6_digest_139 (by decide) ?_
                                refine md_cVr (As := [.int (nI 0)]) (rest := [.ref (ad 0)]) hx hb hown htg hK hI hS hP hml hl.1 (m6_least l D ct ad _ _ _ _ 0 n hw (by omega)) cw_X6_205 rfl rfl ⟨Nat.le_of_ble_eq_true rfl, Nat.le_of_ble_eq_true rfl⟩ (Nat.le_of_ble_eq_true rfl) dX6_digest_140 ⟨Nat.le_refl _, Nat.le_refl _⟩ (fun H locs hP hS => ?_)
                                have hP := fP.eqc (congrArg (fun v9 => mdc ct ad Z (upd g 0 (nI 0)) (dgE Z n (dg1 Z (g 3) n) 12) v9) (sp5_sp5 F Z true true)) hP
                                refine lv_i2l (v := Int32.toInt64 (lsF Z n 0 991 10)) hx hb dX6_digest_143 rfl ?_
                                refine md_cV0 (As := [.long (Int32.toInt64 (lsF Z n 0 991 10))]) (rest := []) hx hb hown htg hK hI hS hP hml hl.1 (m6_mix l D ct ad _ _ _ _ (Int32.toInt64 (lsF Z n 0 991 10))) cw_X6_226 rfl rfl ⟨Nat.le_of_ble_eq_true rfl, Nat.le_of_ble_eq_true rfl⟩ (Nat.le_of_ble_eq_true rfl) dX6_digest_144 ⟨Nat.le_refl _, Nat.le_refl _⟩ (fun H locs hP hS => ?_)
                                refine lv_aload_n hx hb dX6_digest_147 rfl (lv_at hl 1 rfl) ?_
                                refine lv_aload_n hx hb dX6_digest_148 rfl (lv_at hl 1 rfl) ?_
                                refine md_cVr (As := []) (rest := [.ref (ad 0)]) hx hb hown htg hK hI hS hP hml hl.1 (m6_share l D ct ad _ _ _ _ n sv sd hw hsv hsd hss) cw_X6_208 rfl rfl ⟨Nat.le_of_ble_eq_true rfl, Nat.le_of_ble_eq_true rfl⟩ (Nat.le_of_ble_eq_true rfl) dX6_digest_149 ⟨Nat.le_refl _, Nat.le_refl _⟩ (fun H locs hP hS => ?_)
                                refine md_cSr (As := [.double (shD sv sd)]) (rest := [.ref (ad 0)]) hx hb hown htg hK hI hS hP hml hl.1 (m6_bitsOf l D ct ad _ _ _ _ (shD sv sd) (shD_ok hss)) cw_X6_238 rfl rfl ⟨Nat.le_of_ble_eq_true rfl, Nat.le_of_ble_eq_true rfl⟩ (Nat.le_of_ble_eq_true rfl) dX6_digest_152 ⟨Nat.le_refl _, Nat.le_refl _⟩ (fun H locs hP hS => ?_)
                                refine md_cV0 (As := [.long (bitsD (shD sv sd))]) (rest := []) hx hb hown htg hK hI hS hP hml hl.1 (m6_mix l D ct ad _ _ _ _ (bitsD (shD sv sd))) cw_X6_226 rfl rfl ⟨Nat.le_of_ble_eq_true rfl, Nat.le_of_ble_eq_true rfl⟩ (Nat.le_of_ble_eq_true rfl) dX6_digest_155 ⟨Nat.le_refl _, Nat.le_refl _⟩ (fun H locs hP hS => ?_)
                                refine lv_aload_n hx hb dX6_digest_158 rfl (lv_at hl 1 rfl) ?_
                                refine lv_aload_n hx hb dX6_digest_159 rfl (lv_at hl 1 rfl) ?_
                                refine md_g5 hx hb hown htg hK hP dX6_digest_160 ?_
                                refine lv_iconst (v := nI 0) hx hb dX6_digest_163 (by decide) ?_
                                refine md_l4 hx hb hK hP (by omega) dX6_digest_164 ?_
                                refine lv_if_eq (tgt := 172) hx hb dX6_digest_165 (by decide) (fun c165 => ?_) (fun c165 => ?_)
                                · refine lv_lconst (v := 0) hx hb dX6_digest_172 rfl ?_
                                  refine lv_tleq (show (0 : Int64) = kpL (F 4 0) from (if_pos (show F 4 0 = 0 from c165)).symm) ?_
                                  refine md_cV0 (As := [.long (kpL (F 4 0))]) (rest := []) hx hb hown htg hK hI hS hP hml hl.1 (m6_mix l D ct ad _ _ _ _ (kpL (F 4 0))) cw_X6_226 rfl rfl ⟨Nat.le_of_ble_eq_true rfl, Nat.le_of_ble_eq_true rfl⟩ (Nat.le_of_ble_eq_true rfl) dX6_digest_173 ⟨Nat.le_refl _, Nat.le_refl _⟩ (fun H locs hP hS => ?_)
                                  refine lv_aload_n hx hb dX6_digest_176 rfl (lv_at hl 1 rfl) ?_
                                  refine lv_aload_n hx hb dX6_digest_177 rfl (lv_at hl 1 rfl) ?_
                                  refine md_g5 hx hb hown htg hK hP dX6_digest_178 ?_
                                  refine lv_iconst (v := nI 1) hx hb dX6_digest_181 (by decide) ?_
                                  refine md_l4 hx hb hK hP (by omega) dX6_digest_182 ?_
                                  refine lv_if_eq (tgt := 190) hx hb dX6_digest_183 (by decide) (fun c183 => ?_) (fun c183 => ?_)
                                  · refine lv_lconst (v := 0) hx hb dX6_digest_190 rfl ?_
                                    refine lv_tleq (show (0 : Int64) = kpL (F 4 1) from (if_pos (show F 4 1 = 0 from c183)).symm) ?_
                                    refine md_cV0 (As := [.long (kpL (F 4 1))]) (rest := []) hx hb hown htg hK hI hS hP hml hl.1 (m6_mix l D ct ad _ _ _ _ (kpL (F 4 1))) cw_X6_226 rfl rfl ⟨Nat.le_of_ble_eq_true rfl, Nat.le_of_ble_eq_true rfl⟩ (Nat.le_of_ble_eq_true rfl) dX6_digest_191 ⟨Nat.le_refl _, Nat.le_refl _⟩ (fun H locs hP hS => ?_)
                                    refine lv_aload_n hx hb dX6_digest_194 rfl (lv_at hl 1 rfl) ?_
                                    refine lv_aload_n hx hb dX6_digest_195 rfl (lv_at hl 1 rfl) ?_
                                    refine md_g8 (v := g 8) hx hb hown htg hK hP rfl dX6_digest_196 ?_
                                    refine lv_teq ht ?_
                                    refine lv_i2l (v := Int32.toInt64 (nI tn)) hx hb dX6_digest_199 rfl ?_
                                    refine md_cV0 (As := [.long (Int32.toInt64 (nI tn))]) (rest := []) hx hb hown htg hK hI hS hP hml hl.1 (m6_mix l D ct ad _ _ _ _ (Int32.toInt64 (nI tn))) cw_X6_226 rfl rfl ⟨Nat.le_of_ble_eq_true rfl, Nat.le_of_ble_eq_true rfl⟩ (Nat.le_of_ble_eq_true rfl) dX6_digest_200 ⟨Nat.le_refl _, Nat.le_refl _⟩ (fun H locs hP hS => ?_)
                                    refine lv_iconst (v := nI 0) hx hb dX6_digest_203 (by decide) ?_
                                    refine lv_istore_n (lv' := [(1, .int (nI 0)), (0, .ref (ad 0))]) hx hb dX6_digest_204 rfl hl (by decide) rfl (fun ls hl => ?_)
                                    have lp205 : ∀ (fu205 : Nat) (i : Nat), i ≤ tn → tn - i < fu205 → ∀ (H : Heap) (locs : List Loc), fP D 8 ad (mdc ct ad Z (upd g 0 (nI 0)) (dgF (F 6) (dg3 Z (g 3) n (shD sv sd) (F 4) tn) i) (sp5 F Z true)) H → va_S (fA 8 ad) s.heap H locs → ∀ (ls : Array Slot), lv_has ls 2 [(1, .int (nI i)), (0, .ref (ad 0))] → W p l e ({ frames := 10, cells := 0, slots := 0, locals := 235 }) s m args below meth c H locs 0 0 (MQ below (fQ D ct 8 ad (some (.long (dgH Z (g 3) n (shD sv sd) (F 4) tn (F 6)))) (mdc ct ad Z (upd g 0 (nI 0)) (dgH Z (g 3) n (shD sv sd) (F 4) tn (F 6)) (sp5 F Z true))) args s 0 0 (fA 8 ad)) (F0 m 205 ls []) := by
                                      intro fu205
                                      induction fu205 with
                                      | zero => intro i hi hfu205; exact absurd hfu205 (Nat.not_lt_zero _)
                                      | succ fu205 ih205 =>
                                        intro i hi hfu205 H locs hP hS ls hl
                                        refine lv_iload_n hx hb dX6_digest_205 rfl (lv_at hl 0 rfl) ?_
                                        refine lv_aload_n hx hb dX6_digest_206 rfl (lv_at hl 1 rfl) ?_
                                        refine md_g8 (v := g 8) hx hb hown htg hK hP rfl dX6_digest_207 ?_
                                        refine lv_teq ht ?_
                                        refine lv_icmp_geN (tgt := 230) hx hb (by omega) (by omega) dX6_digest_210 (by decide) (fun c210 => ?_) (fun c210 => ?_)
                                        · have e9 : tn = i := by omega
                                          subst e9
                                          refine lv_aload_n hx hb dX6_digest_230 rfl (lv_at hl 1 rfl) ?_
                                          refine md_g13 hx hb hown htg hK hP rfl dX6_digest_231 ?_
                                          refine fr_lret hx hb hr hlocks hK hI hS dX6_digest_234 ?_ ?_
                                          · rfl
                                          · refine fP.eqc (congrArg (fun v9 => mdc ct ad Z (upd g 0 (nI 0)) v9 (sp5 F Z true)) (show (dgH Z (g 3) n (shD sv sd) (F 4) tn (F 6)) = (dgF (F 6) (dg3 Z (g 3) n (shD sv sd) (F 4) tn) tn) from by first | rfl | exact sp5_sp5 _ _ _ _ | exact (sp5_sp5 _ _ _ _).symm).symm) ?_
                                            exact hP
                                        · refine lv_aload_n hx hb dX6_digest_213 rfl (lv_at hl 1 rfl) ?_
                                          refine lv_aload_n hx hb dX6_digest_214 rfl (lv_at hl 1 rfl) ?_
                                          refine md_g7 hx hb hown htg hK hP dX6_digest_215 ?_
                                          refine lv_iload_n hx hb dX6_digest_218 rfl (lv_at hl 0 rfl) ?_
                                          refine md_l6 hx hb hK hP (by omega) dX6_digest_219 ?_
                                          refine lv_i2l (v := Int32.toInt64 (((sp5 F Z true) 6) i)) hx hb dX6_digest_220 rfl ?_
                                          refine md_cV0 (As := [.long (Int32.toInt64 (((sp5 F Z true) 6) i))]) (rest := []) hx hb hown htg hK hI hS hP hml hl.1 (m6_mix l D ct ad _ _ _ _ (Int32.toInt64 (((sp5 F Z true) 6) i))) cw_X6_226 rfl rfl ⟨Nat.le_of_ble_eq_true rfl, Nat.le_of_ble_eq_true rfl⟩ (Nat.le_of_ble_eq_true rfl) dX6_digest_221 ⟨Nat.le_refl _, Nat.le_refl _⟩ (fun H locs hP hS => ?_)
                                          refine lv_iinc (v := nI (i + 1)) (lv' := [(1, .int (nI (i + 1))), (0, .ref (ad 0))]) hx hb dX6_digest_224 hl (k := 0) rfl (nI_add i 1) (by decide) rfl (fun ls hl => ?_)
                                          refine lv_goto (tgt := 205) hx hb dX6_digest_227 (by decide) ?_
                                          have hl := lv_sub (l' := [(1, .int (nI (i + 1))), (0, .ref (ad 0))]) hl [0, 1] rfl
                                          have hP := fP.eqc (congrArg (fun v9 => mdc ct ad Z (upd g 0 (nI 0)) v9 (sp5 F Z true)) (show (mxH (dgF (F 6) (dg3 Z (g 3) n (shD sv sd) (F 4) tn) i) (Int32.toInt64 (((sp5 F Z true) 6) i))) = (dgF (F 6) (dg3 Z (g 3) n (shD sv sd) (F 4) tn) (i + 1)) from by first | rfl | exact sp5_sp5 _ _ _ _ | exact (sp5_sp5 F Z _ true).trans (congrArg (sp5 F Z) (Bool.or_true _)))) hP
                                          exact ih205 (i + 1) (by omega) (by omega) _ _ hP hS _ hl
                                    have hl := lv_sub (l' := [(1, .int (nI 0)), (0, .ref (ad 0))]) hl [0, 1] rfl
                                    have hP := fP.eqc (congrArg (fun v9 => mdc ct ad Z (upd g 0 (nI 0)) v9 (sp5 F Z true)) (show (mxH (mxH (mxH (mxH (mxH (dgE Z n (dg1 Z (g 3) n) 12) (Int32.toInt64 (lsF Z n 0 991 10))) (bitsD (shD sv sd))) (kpL (F 4 0))) (kpL (F 4 1))) (Int32.toInt64 (nI tn))) = (dgF (F 6) (dg3 Z (g 3) n (shD sv sd) (F 4) tn) 0) from by rfl)) hP
                                    exact lp205 (tn - 0 + 1) 0 (by omega) (Nat.lt_succ_self _) _ _ hP hS _ hl
                                  · refine lv_lconst (v := 1) hx hb dX6_digest_186 rfl ?_
                                    refine lv_goto (tgt := 191) hx hb dX6_digest_187 (by decide) ?_
                                    refine lv_tleq (show (1 : Int64) = kpL (F 4 1) from (if_neg (show ¬ (F 4 1 = 0) from c183)).symm) ?_
                                    refine md_cV0 (As := [.long (kpL (F 4 1))]) (rest := []) hx hb hown htg hK hI hS hP hml hl.1 (m6_mix l D ct ad _ _ _ _ (kpL (F 4 1))) cw_X6_226 rfl rfl ⟨Nat.le_of_ble_eq_true rfl, Nat.le_of_ble_eq_true rfl⟩ (Nat.le_of_ble_eq_true rfl) dX6_digest_191 ⟨Nat.le_refl _, Nat.le_refl _⟩ (fun H locs hP hS => ?_)
                                    refine lv_aload_n hx hb dX6_digest_194 rfl (lv_at hl 1 rfl) ?_
                                    refine lv_aload_n hx hb dX6_digest_195 rfl (lv_at hl 1 rfl) ?_
                                    refine md_g8 (v := g 8) hx hb hown htg hK hP rfl dX6_digest_196 ?_
                                    refine lv_teq ht ?_
                                    refine lv_i2l (v := Int32.toInt64 (nI tn)) hx hb dX6_digest_199 rfl ?_
                                    refine md_cV0 (As := [.long (Int32.toInt64 (nI tn))]) (rest := []) hx hb hown htg hK hI hS hP hml hl.1 (m6_mix l D ct ad _ _ _ _ (Int32.toInt64 (nI tn))) cw_X6_226 rfl rfl ⟨Nat.le_of_ble_eq_true rfl, Nat.le_of_ble_eq_true rfl⟩ (Nat.le_of_ble_eq_true rfl) dX6_digest_200 ⟨Nat.le_refl _, Nat.le_refl _⟩ (fun H locs hP hS => ?_)
                                    refine lv_iconst (v := nI 0) hx hb dX6_digest_203 (by decide) ?_
                                    refine lv_istore_n (lv' := [(1, .int (nI 0)), (0, .ref (ad 0))]) hx hb dX6_digest_204 rfl hl (by decide) rfl (fun ls hl => ?_)
                                    have lp205 : ∀ (fu205 : Nat) (i : Nat), i ≤ tn → tn - i < fu205 → ∀ (H : Heap) (locs : List Loc), fP D 8 ad (mdc ct ad Z (upd g 0 (nI 0)) (dgF (F 6) (dg3 Z (g 3) n (shD sv sd) (F 4) tn) i) (sp5 F Z true)) H → va_S (fA 8 ad) s.heap H locs → ∀ (ls : Array Slot), lv_has ls 2 [(1, .int (nI i)), (0, .ref (ad 0))] → W p l e ({ frames := 10, cells := 0, slots := 0, locals := 235 }) s m args below meth c H locs 0 0 (MQ below (fQ D ct 8 ad (some (.long (dgH Z (g 3) n (shD sv sd) (F 4) tn (F 6)))) (mdc ct ad Z (upd g 0 (nI 0)) (dgH Z (g 3) n (shD sv sd) (F 4) tn (F 6)) (sp5 F Z true))) args s 0 0 (fA 8 ad)) (F0 m 205 ls []) := by
                                      intro fu205
                                      induction fu205 with
                                      | zero => intro i hi hfu205; exact absurd hfu205 (Nat.not_lt_zero _)
                                      | succ fu205 ih205 =>
                                        intro i hi hfu205 H locs hP hS ls hl
                                        refine lv_iload_n hx hb dX6_digest_205 rfl (lv_at hl 0 rfl) ?_
                                        refine lv_aload_n hx hb dX6_digest_206 rfl (lv_at hl 1 rfl) ?_
                                        refine md_g8 (v := g 8) hx hb hown htg hK hP rfl dX6_digest_207 ?_
                                        refine lv_teq ht ?_
                                        refine lv_icmp_geN (tgt := 230) hx hb (by omega) (by omega) dX6_digest_210 (by decide) (fun c210 => ?_) (fun c210 => ?_)
                                        · have e9 : tn = i := by omega
                                          subst e9
                                          refine lv_aload_n hx hb dX6_digest_230 rfl (lv_at hl 1 rfl) ?_
                                          refine md_g13 hx hb hown htg hK hP rfl dX6_digest_231 ?_
                                          refine fr_lret hx hb hr hlocks hK hI hS dX6_digest_234 ?_ ?_
                                          · rfl
                                          · refine fP.eqc (congrArg (fun v9 => mdc ct ad Z (upd g 0 (nI 0)) v9 (sp5 F Z true)) (show (dgH Z (g 3) n (shD sv sd) (F 4) tn (F 6)) = (dgF (F 6) (dg3 Z (g 3) n (shD sv sd) (F 4) tn) tn) from by first | rfl | exact sp5_sp5 _ _ _ _ | exact (sp5_sp5 _ _ _ _).symm).symm) ?_
                                            exact hP
                                        · refine lv_aload_n hx hb dX6_digest_213 rfl (lv_at hl 1 rfl) ?_
                                          refine lv_aload_n hx hb dX6_digest_214 rfl (lv_at hl 1 rfl) ?_
                                          refine md_g7 hx hb hown htg hK hP dX6_digest_215 ?_
                                          refine lv_iload_n hx hb dX6_digest_218 rfl (lv_at hl 0 rfl) ?_
                                          refine md_l6 hx hb hK hP (by omega) dX6_digest_219 ?_
                                          refine lv_i2l (v := Int32.toInt64 (((sp5 F Z true) 6) i)) hx hb dX6_digest_220 rfl ?_
                                          refine md_cV0 (As := [.long (Int32.toInt64 (((sp5 F Z true) 6) i))]) (rest := []) hx hb hown htg hK hI hS hP hml hl.1 (m6_mix l D ct ad _ _ _ _ (Int32.toInt64 (((sp5 F Z true) 6) i))) cw_X6_226 rfl rfl ⟨Nat.le_of_ble_eq_true rfl, Nat.le_of_ble_eq_true rfl⟩ (Nat.le_of_ble_eq_true rfl) dX6_digest_221 ⟨Nat.le_refl _, Nat.le_refl _⟩ (fun H locs hP hS => ?_)
                                          refine lv_iinc (v := nI (i + 1)) (lv' := [(1, .int (nI (i + 1))), (0, .ref (ad 0))]) hx hb dX6_digest_224 hl (k := 0) rfl (nI_add i 1) (by decide) rfl (fun ls hl => ?_)
                                          refine lv_goto (tgt := 205) hx hb dX6_digest_227 (by decide) ?_
                                          have hl := lv_sub (l' := [(1, .int (nI (i + 1))), (0, .ref (ad 0))]) hl [0, 1] rfl
                                          have hP := fP.eqc (congrArg (fun v9 => mdc ct ad Z (upd g 0 (nI 0)) v9 (sp5 F Z true)) (show (mxH (dgF (F 6) (dg3 Z (g 3) n (shD sv sd) (F 4) tn) i) (Int32.toInt64 (((sp5 F Z true) 6) i))) = (dgF (F 6) (dg3 Z (g 3) n (shD sv sd) (F 4) tn) (i + 1)) from by first | rfl | exact sp5_sp5 _ _ _ _ | exact (sp5_sp5 F Z _ true).trans (congrArg (sp5 F Z) (Bool.or_true _)))) hP
                                          exact ih205 (i + 1) (by omega) (by omega) _ _ hP hS _ hl
                                    have hl := lv_sub (l' := [(1, .int (nI 0)), (0, .ref (ad 0))]) hl [0, 1] rfl
                                    have hP := fP.eqc (congrArg (fun v9 => mdc ct ad Z (upd g 0 (nI 0)) v9 (sp5 F Z true)) (show (mxH (mxH (mxH (mxH (mxH (dgE Z n (dg1 Z (g 3) n) 12) (Int32.toInt64 (lsF Z n 0 991 10))) (bitsD (shD sv sd))) (kpL (F 4 0))) (kpL (F 4 1))) (Int32.toInt64 (nI tn))) = (dgF (F 6) (dg3 Z (g 3) n (shD sv sd) (F 4) tn) 0) from by rfl)) hP
                                    exact lp205 (tn - 0 + 1) 0 (by omega) (Nat.lt_succ_self _) _ _ hP hS _ hl
                                · refine lv_lconst (v := 1) hx hb dX6_digest_168 rfl ?_
                                  refine lv_goto (tgt := 173) hx hb dX6_digest_169 (by decide) ?_
                                  refine lv_tleq (show (1 : Int64) = kpL (F 4 0) from (if_neg (show ¬ (F 4 0 = 0) from c165)).symm) ?_
                                  refine md_cV0 (As := [.long (kpL (F 4 0))]) (rest := []) hx hb hown htg hK hI hS hP hml hl.1 (m6_mix l D ct ad _ _ _ _ (kpL (F 4 0))) cw_X6_226 rfl rfl ⟨Nat.le_of_ble_eq_true rfl, Nat.le_of_ble_eq_true rfl⟩ (Nat.le_of_ble_eq_true rfl) dX6_digest_173 ⟨Nat.le_refl _, Nat.le_refl _⟩ (fun H locs hP hS => ?_)
                                  refine lv_aload_n hx hb dX6_digest_176 rfl (lv_at hl 1 rfl) ?_
                                  refine lv_aload_n hx hb dX6_digest_177 rfl (lv_at hl 1 rfl) ?_
                                  refine md_g5 hx hb hown htg hK hP dX6_digest_178 ?_
                                  refine lv_iconst (v := nI 1) hx hb dX6_digest_181 (by decide) ?_
                                  refine md_l4 hx hb hK hP (by omega) dX6_digest_182 ?_
                                  refine lv_if_eq (tgt := 190) hx hb dX6_digest_183 (by decide) (fun c183 => ?_) (fun c183 => ?_)
                                  · refine lv_lconst (v := 0) hx hb dX6_digest_190 rfl ?_
                                    refine lv_tleq (show (0 : Int64) = kpL (F 4 1) from (if_pos (show F 4 1 = 0 from c183)).symm) ?_
                                    refine md_cV0 (As := [.long (kpL (F 4 1))]) (rest := []) hx hb hown htg hK hI hS hP hml hl.1 (m6_mix l D ct ad _ _ _ _ (kpL (F 4 1))) cw_X6_226 rfl rfl ⟨Nat.le_of_ble_eq_true rfl, Nat.le_of_ble_eq_true rfl⟩ (Nat.le_of_ble_eq_true rfl) dX6_digest_191 ⟨Nat.le_refl _, Nat.le_refl _⟩ (fun H locs hP hS => ?_)
                                    refine lv_aload_n hx hb dX6_digest_194 rfl (lv_at hl 1 rfl) ?_
                                    refine lv_aload_n hx hb dX6_digest_195 rfl (lv_at hl 1 rfl) ?_
                                    refine md_g8 (v := g 8) hx hb hown htg hK hP rfl dX6_digest_196 ?_
                                    refine lv_teq ht ?_
                                    refine lv_i2l (v := Int32.toInt64 (nI tn)) hx hb dX6_digest_199 rfl ?_
                                    refine md_cV0 (As := [.long (Int32.toInt64 (nI tn))]) (rest := []) hx hb hown htg hK hI hS hP hml hl.1 (m6_mix l D ct ad _ _ _ _ (Int32.toInt64 (nI tn))) cw_X6_226 rfl rfl ⟨Nat.le_of_ble_eq_true rfl, Nat.le_of_ble_eq_true rfl⟩ (Nat.le_of_ble_eq_true rfl) dX6_digest_200 ⟨Nat.le_refl _, Nat.le_refl _⟩ (fun H locs hP hS => ?_)
                                    refine lv_iconst (v := nI 0) hx hb dX6_digest_203 (by decide) ?_
                                    refine lv_istore_n (lv' := [(1, .int (nI 0)), (0, .ref (ad 0))]) hx hb dX6_digest_204 rfl hl (by decide) rfl (fun ls hl => ?_)
                                    have lp205 : ∀ (fu205 : Nat) (i : Nat), i ≤ tn → tn - i < fu205 → ∀ (H : Heap) (locs : List Loc), fP D 8 ad (mdc ct ad Z (upd g 0 (nI 0)) (dgF (F 6) (dg3 Z (g 3) n (shD sv sd) (F 4) tn) i) (sp5 F Z true)) H → va_S (fA 8 ad) s.heap H locs → ∀ (ls : Array Slot), lv_has ls 2 [(1, .int (nI i)), (0, .ref (ad 0))] → W p l e ({ frames := 10, cells := 0, slots := 0, locals := 235 }) s m args below meth c H locs 0 0 (MQ below (fQ D ct 8 ad (some (.long (dgH Z (g 3) n (shD sv sd) (F 4) tn (F 6)))) (mdc ct ad Z (upd g 0 (nI 0)) (dgH Z (g 3) n (shD sv sd) (F 4) tn (F 6)) (sp5 F Z true))) args s 0 0 (fA 8 ad)) (F0 m 205 ls []) := by
                                      intro fu205
                                      induction fu205 with
                                      | zero => intro i hi hfu205; exact absurd hfu205 (Nat.not_lt_zero _)
                                      | succ fu205 ih205 =>
                                        intro i hi hfu205 H locs hP hS ls hl
                                        refine lv_iload_n hx hb dX6_digest_205 rfl (lv_at hl 0 rfl) ?_
                                        refine lv_aload_n hx hb dX6_digest_206 rfl (lv_at hl 1 rfl) ?_
                                        refine md_g8 (v := g 8) hx hb hown htg hK hP rfl dX6_digest_207 ?_
                                        refine lv_teq ht ?_
                                        refine lv_icmp_geN (tgt := 230) hx hb (by omega) (by omega) dX6_digest_210 (by decide) (fun c210 => ?_) (fun c210 => ?_)
                                        · have e9 : tn = i := by omega
                                          subst e9
                                          refine lv_aload_n hx hb dX6_digest_230 rfl (lv_at hl 1 rfl) ?_
                                          refine md_g13 hx hb hown htg hK hP rfl dX6_digest_231 ?_
                                          refine fr_lret hx hb hr hlocks hK hI hS dX6_digest_234 ?_ ?_
                                          · rfl
                                          · refine fP.eqc (congrArg (fun v9 => mdc ct ad Z (upd g 0 (nI 0)) v9 (sp5 F Z true)) (show (dgH Z (g 3) n (shD sv sd) (F 4) tn (F 6)) = (dgF (F 6) (dg3 Z (g 3) n (shD sv sd) (F 4) tn) tn) from by first | rfl | exact sp5_sp5 _ _ _ _ | exact (sp5_sp5 _ _ _ _).symm).symm) ?_
                                            exact hP
                                        · refine lv_aload_n hx hb dX6_digest_213 rfl (lv_at hl 1 rfl) ?_
                                          refine lv_aload_n hx hb dX6_digest_214 rfl (lv_at hl 1 rfl) ?_
                                          refine md_g7 hx hb hown htg hK hP dX6_digest_215 ?_
                                          refine lv_iload_n hx hb dX6_digest_218 rfl (lv_at hl 0 rfl) ?_
                                          refine md_l6 hx hb hK hP (by omega) dX6_digest_219 ?_
                                          refine lv_i2l (v := Int32.toInt64 (((sp5 F Z true) 6) i)) hx hb dX6_digest_220 rfl ?_
                                          refine md_cV0 (As := [.long (Int32.toInt64 (((sp5 F Z true) 6) i))]) (rest := []) hx hb hown htg hK hI hS hP hml hl.1 (m6_mix l D ct ad _ _ _ _ (Int32.toInt64 (((sp5 F Z true) 6) i))) cw_X6_226 rfl rfl ⟨Nat.le_of_ble_eq_true rfl, Nat.le_of_ble_eq_true rfl⟩ (Nat.le_of_ble_eq_true rfl) dX6_digest_221 ⟨Nat.le_refl _, Nat.le_refl _⟩ (fun H locs hP hS => ?_)
                                          refine lv_iinc (v := nI (i + 1)) (lv' := [(1, .int (nI (i + 1))), (0, .ref (ad 0))]) hx hb dX6_digest_224 hl (k := 0) rfl (nI_add i 1) (by decide) rfl (fun ls hl => ?_)
                                          refine lv_goto (tgt := 205) hx hb dX6_digest_227 (by decide) ?_
                                          have hl := lv_sub (l' := [(1, .int (nI (i + 1))), (0, .ref (ad 0))]) hl [0, 1] rfl
                                          have hP := fP.eqc (congrArg (fun v9 => mdc ct ad Z (upd g 0 (nI 0)) v9 (sp5 F Z true)) (show (mxH (dgF (F 6) (dg3 Z (g 3) n (shD sv sd) (F 4) tn) i) (Int32.toInt64 (((sp5 F Z true) 6) i))) = (dgF (F 6) (dg3 Z (g 3) n (shD sv sd) (F 4) tn) (i + 1)) from by first | rfl | exact sp5_sp5 _ _ _ _ | exact (sp5_sp5 F Z _ true).trans (congrArg (sp5 F Z) (Bool.or_true _)))) hP
                                          exact ih205 (i + 1) (by omega) (by omega) _ _ hP hS _ hl
                                    have hl := lv_sub (l' := [(1, .int (nI 0)), (0, .ref (ad 0))]) hl [0, 1] rfl
                                    have hP := fP.eqc (congrArg (fun v9 => mdc ct ad Z (upd g 0 (nI 0)) v9 (sp5 F Z true)) (show (mxH (mxH (mxH (mxH (mxH (dgE Z n (dg1 Z (g 3) n) 12) (Int32.toInt64 (lsF Z n 0 991 10))) (bitsD (shD sv sd))) (kpL (F 4 0))) (kpL (F 4 1))) (Int32.toInt64 (nI tn))) = (dgF (F 6) (dg3 Z (g 3) n (shD sv sd) (F 4) tn) 0) from by rfl)) hP
                                    exact lp205 (tn - 0 + 1) 0 (by omega) (Nat.lt_succ_self _) _ _ hP hS _ hl
                                  · refine lv_lconst (v := 1) hx hb dX6_digest_186 rfl ?_
                                    refine lv_goto (tgt := 191) hx hb dX6_digest_187 (by decide) ?_
                                    refine lv_tleq (show (1 : Int64) = kpL (F 4 1) from (if_neg (show ¬ (F 4 1 = 0) from c183)).symm) ?_
                                    refine md_cV0 (As := [.long (kpL (F 4 1))]) (rest := []) hx hb hown htg hK hI hS hP hml hl.1 (m6_mix l D ct ad _ _ _ _ (kpL (F 4 1))) cw_X6_226 rfl rfl ⟨Nat.le_of_ble_eq_true rfl, Nat.le_of_ble_eq_true rfl⟩ (Nat.le_of_ble_eq_true rfl) dX6_digest_191 ⟨Nat.le_refl _, Nat.le_refl _⟩ (fun H locs hP hS => ?_)
                                    refine lv_aload_n hx hb dX6_digest_194 rfl (lv_at hl 1 rfl) ?_
                                    refine lv_aload_n hx hb dX6_digest_195 rfl (lv_at hl 1 rfl) ?_
                                    refine md_g8 (v := g 8) hx hb hown htg hK hP rfl dX6_digest_196 ?_
                                    refine lv_teq ht ?_
                                    refine lv_i2l (v := Int32.toInt64 (nI tn)) hx hb dX6_digest_199 rfl ?_
                                    refine md_cV0 (As := [.long (Int32.toInt64 (nI tn))]) (rest := []) hx hb hown htg hK hI hS hP hml hl.1 (m6_mix l D ct ad _ _ _ _ (Int32.toInt64 (nI tn))) cw_X6_226 rfl rfl ⟨Nat.le_of_ble_eq_true rfl, Nat.le_of_ble_eq_true rfl⟩ (Nat.le_of_ble_eq_true rfl) dX6_digest_200 ⟨Nat.le_refl _, Nat.le_refl _⟩ (fun H locs hP hS => ?_)
                                    refine lv_iconst (v := nI 0) hx hb dX6_digest_203 (by decide) ?_
                                    refine lv_istore_n (lv' := [(1, .int (nI 0)), (0, .ref (ad 0))]) hx hb dX6_digest_204 rfl hl (by decide) rfl (fun ls hl => ?_)
                                    have lp205 : ∀ (fu205 : Nat) (i : Nat), i ≤ tn → tn - i < fu205 → ∀ (H : Heap) (locs : List Loc), fP D 8 ad (mdc ct ad Z (upd g 0 (nI 0)) (dgF (F 6) (dg3 Z (g 3) n (shD sv sd) (F 4) tn) i) (sp5 F Z true)) H → va_S (fA 8 ad) s.heap H locs → ∀ (ls : Array Slot), lv_has ls 2 [(1, .int (nI i)), (0, .ref (ad 0))] → W p l e ({ frames := 10, cells := 0, slots := 0, locals := 235 }) s m args below meth c H locs 0 0 (MQ below (fQ D ct 8 ad (some (.long (dgH Z (g 3) n (shD sv sd) (F 4) tn (F 6)))) (mdc ct ad Z (upd g 0 (nI 0)) (dgH Z (g 3) n (shD sv sd) (F 4) tn (F 6)) (sp5 F Z true))) args s 0 0 (fA 8 ad)) (F0 m 205 ls []) := by
                                      intro fu205
                                      induction fu205 with
                                      | zero => intro i hi hfu205; exact absurd hfu205 (Nat.not_lt_zero _)
                                      | succ fu205 ih205 =>
                                        intro i hi hfu205 H locs hP hS ls hl
                                        refine lv_iload_n hx hb dX6_digest_205 rfl (lv_at hl 0 rfl) ?_
                                        refine lv_aload_n hx hb dX6_digest_206 rfl (lv_at hl 1 rfl) ?_
                                        refine md_g8 (v := g 8) hx hb hown htg hK hP rfl dX6_digest_207 ?_
                                        refine lv_teq ht ?_
                                        refine lv_icmp_geN (tgt := 230) hx hb (by omega) (by omega) dX6_digest_210 (by decide) (fun c210 => ?_) (fun c210 => ?_)
                                        · have e9 : tn = i := by omega
                                          subst e9
                                          refine lv_aload_n hx hb dX6_digest_230 rfl (lv_at hl 1 rfl) ?_
                                          refine md_g13 hx hb hown htg hK hP rfl dX6_digest_231 ?_
                                          refine fr_lret hx hb hr hlocks hK hI hS dX6_digest_234 ?_ ?_
                                          · rfl
                                          · refine fP.eqc (congrArg (fun v9 => mdc ct ad Z (upd g 0 (nI 0)) v9 (sp5 F Z true)) (show (dgH Z (g 3) n (shD sv sd) (F 4) tn (F 6)) = (dgF (F 6) (dg3 Z (g 3) n (shD sv sd) (F 4) tn) tn) from by first | rfl | exact sp5_sp5 _ _ _ _ | exact (sp5_sp5 _ _ _ _).symm).symm) ?_
                                            exact hP
                                        · refine lv_aload_n hx hb dX6_digest_213 rfl (lv_at hl 1 rfl) ?_
                                          refine lv_aload_n hx hb dX6_digest_214 rfl (lv_at hl 1 rfl) ?_
                                          refine md_g7 hx hb hown htg hK hP dX6_digest_215 ?_
                                          refine lv_iload_n hx hb dX6_digest_218 rfl (lv_at hl 0 rfl) ?_
                                          refine md_l6 hx hb hK hP (by omega) dX6_digest_219 ?_
                                          refine lv_i2l (v := Int32.toInt64 (((sp5 F Z true) 6) i)) hx hb dX6_digest_220 rfl ?_
                                          refine md_cV0 (As := [.long (Int32.toInt64 (((sp5 F Z true) 6) i))]) (rest := []) hx hb hown htg hK hI hS hP hml hl.1 (m6_mix l D ct ad _ _ _ _ (Int32.toInt64 (((sp5 F Z true) 6) i))) cw_X6_226 rfl rfl ⟨Nat.le_of_ble_eq_true rfl, Nat.le_of_ble_eq_true rfl⟩ (Nat.le_of_ble_eq_true rfl) dX6_digest_221 ⟨Nat.le_refl _, Nat.le_refl _⟩ (fun H locs hP hS => ?_)
                                          refine lv_iinc (v := nI (i + 1)) (lv' := [(1, .int (nI (i + 1))), (0, .ref (ad 0))]) hx hb dX6_digest_224 hl (k := 0) rfl (nI_add i 1) (by decide) rfl (fun ls hl => ?_)
                                          refine lv_goto (tgt := 205) hx hb dX6_digest_227 (by decide) ?_
                                          have hl := lv_sub (l' := [(1, .int (nI (i + 1))), (0, .ref (ad 0))]) hl [0, 1] rfl
                                          have hP := fP.eqc (congrArg (fun v9 => mdc ct ad Z (upd g 0 (nI 0)) v9 (sp5 F Z true)) (show (mxH (dgF (F 6) (dg3 Z (g 3) n (shD sv sd) (F 4) tn) i) (Int32.toInt64 (((sp5 F Z true) 6) i))) = (dgF (F 6) (dg3 Z (g 3) n (shD sv sd) (F 4) tn) (i + 1)) from by first | rfl | exact sp5_sp5 _ _ _ _ | exact (sp5_sp5 F Z _ true).trans (congrArg (sp5 F Z) (Bool.or_true _)))) hP
                                          exact ih205 (i + 1) (by omega) (by omega) _ _ hP hS _ hl
                                    have hl := lv_sub (l' := [(1, .int (nI 0)), (0, .ref (ad 0))]) hl [0, 1] rfl
                                    have hP := fP.eqc (congrArg (fun v9 => mdc ct ad Z (upd g 0 (nI 0)) v9 (sp5 F Z true)) (show (mxH (mxH (mxH (mxH (mxH (dgE Z n (dg1 Z (g 3) n) 12) (Int32.toInt64 (lsF Z n 0 991 10))) (bitsD (shD sv sd))) (kpL (F 4 0))) (kpL (F 4 1))) (Int32.toInt64 (nI tn))) = (dgF (F 6) (dg3 Z (g 3) n (shD sv sd) (F 4) tn) 0) from by rfl)) hP
                                    exact lp205 (tn - 0 + 1) 0 (by omega) (Nat.lt_succ_self _) _ _ hP hS _ hl
                              · refine lv_aload_n hx hb dX6_digest_111 rfl (lv_at hl 1 rfl) ?_
                                refine lv_aload_n hx hb dX6_digest_112 rfl (lv_at hl 1 rfl) ?_
                                refine lv_iload_n hx hb dX6_digest_113 rfl (lv_at hl 0 rfl) ?_
                                refine md_cVr (As := [.int (nI i)]) (rest := [.ref (ad 0)]) hx hb hown htg hK hI hS hP hml hl.1 (m6_breakerOf l D ct ad _ _ _ _ i (by omega)) cw_X6_55 rfl rfl ⟨Nat.le_of_ble_eq_true rfl, Nat.le_of_ble_eq_true rfl⟩ (Nat.le_of_ble_eq_true rfl) dX6_digest_114 ⟨Nat.le_refl _, Nat.le_refl _⟩ (fun H locs hP hS => ?_)
                                refine lv_i2l (v := Int32.toInt64 (nI (brk Z i))) hx hb dX6_digest_117 rfl ?_
                                refine md_cV0 (As := [.long (Int32.toInt64 (nI (brk Z i)))]) (rest := []) hx hb hown htg hK hI hS hP hml hl.1 (m6_mix l D ct ad _ _ _ _ (Int32.toInt64 (nI (brk Z i)))) cw_X6_226 rfl rfl ⟨Nat.le_of_ble_eq_true rfl, Nat.le_of_ble_eq_true rfl⟩ (Nat.le_of_ble_eq_true rfl) dX6_digest_118 ⟨Nat.le_refl _, Nat.le_refl _⟩ (fun H locs hP hS => ?_)
                                refine lv_aload_n hx hb dX6_digest_121 rfl (lv_at hl 1 rfl) ?_
                                refine lv_aload_n hx hb dX6_digest_122 rfl (lv_at hl 1 rfl) ?_
                                refine lv_iload_n hx hb dX6_digest_123 rfl (lv_at hl 0 rfl) ?_
                                refine md_cVr (As := [.int (nI i)]) (rest := [.ref (ad 0)]) hx hb hown htg hK hI hS hP hml hl.1 (m6_stallAt l D ct ad _ _ _ _ (nI i) n hw) cw_X6_108 rfl rfl ⟨Nat.le_of_ble_eq_true rfl, Nat.le_of_ble_eq_true rfl⟩ (Nat.le_of_ble_eq_true rfl) dX6_digest_124 ⟨Nat.le_refl _, Nat.le_refl _⟩ (fun H locs hP hS => ?_)
                                refine lv_i2l (v := Int32.toInt64 (ox (satN Z (nI i) n))) hx hb dX6_digest_127 rfl ?_
                                refine md_cV0 (As := [.long (Int32.toInt64 (ox (satN Z (nI i) n)))]) (rest := []) hx hb hown htg hK hI hS hP hml hl.1 (m6_mix l D ct ad _ _ _ _ (Int32.toInt64 (ox (satN Z (nI i) n)))) cw_X6_226 rfl rfl ⟨Nat.le_of_ble_eq_true rfl, Nat.le_of_ble_eq_true rfl⟩ (Nat.le_of_ble_eq_true rfl) dX6_digest_128 ⟨Nat.le_refl _, Nat.le_refl _⟩ (fun H locs hP hS => ?_)
                                refine lv_iinc (v := nI (i + 1)) (lv' := [(1, .int (nI (i + 1))), (0, .ref (ad 0))]) hx hb dX6_digest_131 hl (k := 0) rfl (nI_add i 1) (by decide) rfl (fun ls hl => ?_)
                                refine lv_goto (tgt := 105) hx hb dX6_digest_134 (by decide) ?_
                                have hl := lv_sub (l' := [(1, .int (nI (i + 1))), (0, .ref (ad 0))]) hl [0, 1] rfl
                                have hP := fP.eqc (congrArg (fun v9 => mdc ct ad Z (upd g 0 (nI 0)) v9 (sp5 F Z true)) (show (mxH (mxH (dgE Z n (dg1 Z (g 3) n) i) (Int32.toInt64 (nI (brk Z i)))) (Int32.toInt64 (ox (satN Z (nI i) n)))) = (dgE Z n (dg1 Z (g 3) n) (i + 1)) from by first | rfl | exact sp5_sp5 _ _ _ _ | exact (sp5_sp5 F Z _ true).trans (congrArg (sp5 F Z) (Bool.or_true _)))) hP
                                exact ih105 (i + 1) (by omega) (by omega) _ _ hP hS _ hl
                          have hl := lv_sub (l' := [(1, .int (nI 0)), (0, .ref (ad 0))]) hl [0, 1] rfl
                          have hP := fP.eqc (congrArg (fun v9 => mdc ct ad Z (upd g 0 (nI 0)) v9 (sp5 F Z true)) (show (dgD Z n (dgC Z n (dgB Z (dgA Z (g 3) n 3089 12) 3) n) 4) = (dgE Z n (dg1 Z (g 3) n) 0) from by rfl)) hP
                          exact lp105 (12 - 0 + 1) 0 (by omega) (Nat.lt_succ_self _) _ _ hP hS _ hl
                        · refine lv_aload_n hx hb dX6_digest_92 rfl (lv_at hl 1 rfl) ?_
                          refine lv_iload_n hx hb dX6_digest_93 rfl (lv_at hl 0 rfl) ?_
                          refine md_cV0 (As := [.int (nI i)]) (rest := []) hx hb hown htg hK hI hS hP hml hl.1 (m6_mixBreaker l D ct ad _ _ _ _ i n hw (by omega)) cw_X6_235 rfl rfl ⟨Nat.le_of_ble_eq_true rfl, Nat.le_of_ble_eq_true rfl⟩ (Nat.le_of_ble_eq_true rfl) dX6_digest_94 ⟨Nat.le_refl _, Nat.le_refl _⟩ (fun H locs hP hS => ?_)
                          refine lv_iinc (v := nI (i + 1)) (lv' := [(1, .int (nI (i + 1))), (0, .ref (ad 0))]) hx hb dX6_digest_97 hl (k := 0) rfl (nI_add i 1) (by decide) rfl (fun ls hl => ?_)
                          refine lv_goto (tgt := 87) hx hb dX6_digest_100 (by decide) ?_
                          have hl := lv_sub (l' := [(1, .int (nI (i + 1))), (0, .ref (ad 0))]) hl [0, 1] rfl
                          have hP := fP.eqc (congrArg (fun v9 => mdc ct ad Z (upd g 0 (nI 0)) v9 (sp5 (sp5 F Z (dgV (dgU Z n n) i)) Z true)) (show (mbH Z n i (dgD Z n (dgC Z n (dgB Z (dgA Z (g 3) n 3089 12) 3) n) i)) = (dgD Z n (dgC Z n (dgB Z (dgA Z (g 3) n 3089 12) 3) n) (i + 1)) from by first | rfl | exact sp5_sp5 _ _ _ _ | exact (sp5_sp5 F Z _ true).trans (congrArg (sp5 F Z) (Bool.or_true _)))) hP
                          have hP := fP.eqc (congrArg (fun v9 => mdc ct ad Z (upd g 0 (nI 0)) (dgD Z n (dgC Z n (dgB Z (dgA Z (g 3) n 3089 12) 3) n) (i + 1)) v9) (show (sp5 (sp5 F Z (dgV (dgU Z n n) i)) Z true) = (sp5 F Z (dgV (dgU Z n n) (i + 1))) from by first | rfl | exact sp5_sp5 _ _ _ _ | exact (sp5_sp5 F Z _ true).trans (congrArg (sp5 F Z) (Bool.or_true _)))) hP
                          exact ih87 (i + 1) (by omega) (by omega) _ _ hP hS _ hl
                    have hl := lv_sub (l' := [(1, .int (nI 0)), (0, .ref (ad 0))]) hl [0, 1] rfl
                    have hP := fP.eqc (congrArg (fun v9 => mdc ct ad Z (upd g 0 (nI 0)) v9 (sp5 F Z (dgU Z n n))) (show (dgC Z n (dgB Z (dgA Z (g 3) n 3089 12) 3) n) = (dgD Z n (dgC Z n (dgB Z (dgA Z (g 3) n 3089 12) 3) n) 0) from by rfl)) hP
                    have hP := fP.eqc (congrArg (fun v9 => mdc ct ad Z (upd g 0 (nI 0)) (dgD Z n (dgC Z n (dgB Z (dgA Z (g 3) n 3089 12) 3) n) 0) v9) (show (sp5 F Z (dgU Z n n)) = (sp5 F Z (dgV (dgU Z n n) 0)) from by rfl)) hP
                    exact lp87 (4 - 0 + 1) 0 (by omega) (Nat.lt_succ_self _) _ _ hP hS _ hl
                  · refine lv_aload_n hx hb dX6_digest_74 rfl (lv_at hl 1 rfl) ?_
                    refine lv_iload_n hx hb dX6_digest_75 rfl (lv_at hl 0 rfl) ?_
                    refine md_cV0 (As := [.int (nI i)]) (rest := []) hx hb hown htg hK hI hS hP hml hl.1 (m6_mixStall l D ct ad _ _ _ _ i n hw (by omega)) cw_X6_232 rfl rfl ⟨Nat.le_of_ble_eq_true rfl, Nat.le_of_ble_eq_true rfl⟩ (Nat.le_of_ble_eq_true rfl) dX6_digest_76 ⟨Nat.le_refl _, Nat.le_refl _⟩ (fun H locs hP hS => ?_)
                    refine lv_iinc (v := nI (i + 1)) (lv' := [(1, .int (nI (i + 1))), (0, .ref (ad 0))]) hx hb dX6_digest_79 hl (k := 0) rfl (nI_add i 1) (by decide) rfl (fun ls hl => ?_)
                    refine lv_goto (tgt := 64) hx hb dX6_digest_82 (by decide) ?_
                    have hl := lv_sub (l' := [(1, .int (nI (i + 1))), (0, .ref (ad 0))]) hl [0, 1] rfl
                    have hP := fP.eqc (congrArg (fun v9 => mdc ct ad Z (upd g 0 (nI 0)) v9 (sp5 (sp5 F Z (dgU Z n i)) Z (msU Z n i))) (show (msH Z n i (dgC Z n (dgB Z (dgA Z (g 3) n 3089 12) 3) i)) = (dgC Z n (dgB Z (dgA Z (g 3) n 3089 12) 3) (i + 1)) from by first | rfl | exact sp5_sp5 _ _ _ _ | exact (sp5_sp5 F Z _ true).trans (congrArg (sp5 F Z) (Bool.or_true _)))) hP
                    have hP := fP.eqc (congrArg (fun v9 => mdc ct ad Z (upd g 0 (nI 0)) (dgC Z n (dgB Z (dgA Z (g 3) n 3089 12) 3) (i + 1)) v9) (show (sp5 (sp5 F Z (dgU Z n i)) Z (msU Z n i)) = (sp5 F Z (dgU Z n (i + 1))) from by first | rfl | exact sp5_sp5 _ _ _ _ | exact (sp5_sp5 F Z _ true).trans (congrArg (sp5 F Z) (Bool.or_true _)))) hP
                    exact ih64 (i + 1) (by omega) (by omega) _ _ hP hS _ hl
              have hl := lv_sub (l' := [(1, .int (nI 0)), (0, .ref (ad 0))]) hl [0, 1] rfl
              have hP := fP.eqc (congrArg (fun v9 => mdc ct ad Z (upd g 0 (nI 0)) v9 F) (show (dgB Z (dgA Z (g 3) n 3089 12) 3) = (dgC Z n (dgB Z (dgA Z (g 3) n 3089 12) 3) 0) from by rfl)) hP
              have hP := fP.eqc (congrArg (fun v9 => mdc ct ad Z (upd g 0 (nI 0)) (dgC Z n (dgB Z (dgA Z (g 3) n 3089 12) 3) 0) v9) (show F = (sp5 F Z (dgU Z n 0)) from by rfl)) hP
              exact lp64 (n - 0 + 1) 0 (by omega) (Nat.lt_succ_self _) _ _ hP hS _ hl
            · refine lv_aload_n hx hb dX6_digest_43 rfl (lv_at hl 1 rfl) ?_
              refine lv_aload_n hx hb dX6_digest_44 rfl (lv_at hl 1 rfl) ?_
              refine md_g1 hx hb hown htg hK hP dX6_digest_45 ?_
              refine lv_iconst (v := nI 0) hx hb dX6_digest_48 (by decide) ?_
              refine lv_iload_n hx hb dX6_digest_49 rfl (lv_at hl 0 rfl) ?_
              refine lv_iaddN hx hb dX6_digest_50 ?_
              refine md_l1 hx hb hK hP (by omega) dX6_digest_51 ?_
              refine lv_i2l (v := Int32.toInt64 (Z (0 + i))) hx hb dX6_digest_52 rfl ?_
              refine md_cV0 (As := [.long (Int32.toInt64 (Z (0 + i)))]) (rest := []) hx hb hown htg hK hI hS hP hml hl.1 (m6_mix l D ct ad _ _ _ _ (Int32.toInt64 (Z (0 + i)))) cw_X6_226 rfl rfl ⟨Nat.le_of_ble_eq_true rfl, Nat.le_of_ble_eq_true rfl⟩ (Nat.le_of_ble_eq_true rfl) dX6_digest_53 ⟨Nat.le_refl _, Nat.le_refl _⟩ (fun H locs hP hS => ?_)
              refine lv_iinc (v := nI (i + 1)) (lv' := [(1, .int (nI (i + 1))), (0, .ref (ad 0))]) hx hb dX6_digest_56 hl (k := 0) rfl (nI_add i 1) (by decide) rfl (fun ls hl => ?_)
              refine lv_goto (tgt := 38) hx hb dX6_digest_59 (by decide) ?_
              have hl := lv_sub (l' := [(1, .int (nI (i + 1))), (0, .ref (ad 0))]) hl [0, 1] rfl
              have hP := fP.eqc (congrArg (fun v9 => mdc ct ad Z (upd g 0 (nI 0)) v9 F) (show (mxH (dgB Z (dgA Z (g 3) n 3089 12) i) (Int32.toInt64 (Z (0 + i)))) = (dgB Z (dgA Z (g 3) n 3089 12) (i + 1)) from by first | rfl | exact sp5_sp5 _ _ _ _ | exact (sp5_sp5 F Z _ true).trans (congrArg (sp5 F Z) (Bool.or_true _)))) hP
              exact ih38 (i + 1) (by omega) (by omega) _ _ hP hS _ hl
        have hl := lv_sub (l' := [(1, .int (nI 0)), (0, .ref (ad 0))]) hl [0, 1] rfl
        have hP := fP.eqc (congrArg (fun v9 => mdc ct ad Z (upd g 0 (nI 0)) v9 F) (show (dgA Z (g 3) n 3089 12) = (dgB Z (dgA Z (g 3) n 3089 12) 0) from by rfl)) hP
        exact lp38 (3 - 0 + 1) 0 (by omega) (Nat.lt_succ_self _) _ _ hP hS _ hl
      · refine lv_aload_n hx hb dX6_digest_20 rfl (lv_at hl 1 rfl) ?_
        refine lv_aload_n hx hb dX6_digest_21 rfl (lv_at hl 1 rfl) ?_
        refine lv_iload_n hx hb dX6_digest_22 rfl (lv_at hl 0 rfl) ?_
        refine md_cVr (As := [.int (nI i)]) (rest := [.ref (ad 0)]) hx hb hown htg hK hI hS hP hml hl.1 (m6_counted l D ct ad _ _ _ _ i n hw (by omega)) cw_X6_184 rfl rfl ⟨Nat.le_of_ble_eq_true rfl, Nat.le_of_ble_eq_true rfl⟩ (Nat.le_of_ble_eq_true rfl) dX6_digest_23 ⟨Nat.le_refl _, Nat.le_refl _⟩ (fun H locs hP hS => ?_)
        refine lv_i2l (v := Int32.toInt64 (cntD Z ((g 3)) n i)) hx hb dX6_digest_26 rfl ?_
        refine md_cV0 (As := [.long (Int32.toInt64 (cntD Z ((g 3)) n i))]) (rest := []) hx hb hown htg hK hI hS hP hml hl.1 (m6_mix l D ct ad _ _ _ _ (Int32.toInt64 (cntD Z ((g 3)) n i))) cw_X6_226 rfl rfl ⟨Nat.le_of_ble_eq_true rfl, Nat.le_of_ble_eq_true rfl⟩ (Nat.le_of_ble_eq_true rfl) dX6_digest_27 ⟨Nat.le_refl _, Nat.le_refl _⟩ (fun H locs hP hS => ?_)
        refine lv_iinc (v := nI (i + 1)) (lv' := [(1, .int (nI (i + 1))), (0, .ref (ad 0))]) hx hb dX6_digest_30 hl (k := 0) rfl (nI_add i 1) (by decide) rfl (fun ls hl => ?_)
        refine lv_goto (tgt := 14) hx hb dX6_digest_33 (by decide) ?_
        have hl := lv_sub (l' := [(1, .int (nI (i + 1))), (0, .ref (ad 0))]) hl [0, 1] rfl
        have hP := fP.eqc (congrArg (fun v9 => mdc ct ad Z (upd g 0 (nI 0)) v9 F) (show (mxH (dgA Z (g 3) n 3089 i) (Int32.toInt64 (cntD Z ((g 3)) n i))) = (dgA Z (g 3) n 3089 (i + 1)) from by first | rfl | exact sp5_sp5 _ _ _ _ | exact (sp5_sp5 F Z _ true).trans (congrArg (sp5 F Z) (Bool.or_true _)))) hP
        exact ih14 (i + 1) (by omega) (by omega) _ _ hP hS _ hl
  have hl := lv_sub (l' := [(1, .int (nI 0)), (0, .ref (ad 0))]) hl [0, 1] rfl
  have hP := fP.eqc (congrArg (fun v9 => mdc ct ad Z (upd g 0 (nI 0)) v9 F) (show 3089 = (dgA Z (g 3) n 3089 0) from by rfl)) hP
  exact lp14 (12 - 0 + 1) 0 (by omega) (Nat.lt_succ_self _) _ _ hP hS _ hl
