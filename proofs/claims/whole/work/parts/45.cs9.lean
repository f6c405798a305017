/-! A row that the kit lacks: lcmp -/
section LC
variable {p : Program} {l : Launch} {e : Env} {R : Room} {s : State} {m : MethodId} {args : Array Value} {below : List Frame} {meth : Method} {c : Code} {H : Heap} {locs : List Loc} {cells slots : Nat} {Q : State → Prop}
variable {cc : ByteArray} {pc : Nat} {ls : Array Slot} {rest : List Value}
theorem lw_lcmp_gt (hexec : p.tables.exec = Jvm.exec) (hb : c.code = cc) {x y : Int64} (hgt : y < x) (hdg : decode cc pc = .ok (.lcmp, 1))
    (k : W p l e R s m args below meth c H locs cells slots Q (F0 m (pc + 1) ls (.int (nI 1) :: rest))) : W p l e R s m args below meth c H locs cells slots Q (F0 m pc ls (.long y :: .long x :: rest)) := by
  intro T hT X
  obtain ⟨t, a, b⟩ := k T hT X
  refine ⟨t, ?_, b⟩
  jvm_step X.here [X.here.top, hexec, hb, hdg]
  rw [if_pos hgt]
  exact a
end LC
theorem lj_gt {j : Nat} (h : j ≤ 1000) : (1 : Int64) < lj j := by
  rw [Int64.lt_iff_toInt_lt]
  unfold lj
  rw [Int64.toInt_ofInt_of_le (by omega) (by omega), show (1 : Int64).toInt = 1 from rfl]
  omega
theorem cv0_g {d : UInt64} {c k : Nat} (h : okd d c k) : Op.cmpValue (FP.dcmp d FP.dconst0) .g = nI 1 := by rw [show FP.dcmp d FP.dconst0 = some .gt from cmp_0 h]; rfl
theorem bits_e {d : UInt64} {c k : Nat} (h : okd d c k) : lj k <<< 52 + Int64.ofNat (c - 4503599627370496) = bitsD d := by
  have h2 := h.2.1
  rw [bitsD_ok h]
  show lj k <<< 52 + Int64.ofNat (c - 4503599627370496) = lj k <<< 52 + Int64.ofNat c - 4503599627370496
  have e : Int64.ofNat c = Int64.ofNat (c - 4503599627370496) + 4503599627370496 := by
    rw [show (4503599627370496 : Int64) = Int64.ofNat 4503599627370496 from rfl, ← Int64.ofNat_add]
    exact congrArg Int64.ofNat (by omega)
  rw [e, ← Int64.add_assoc, Int64.add_sub_cancel]
set_option maxRecDepth 100000 in
set_option maxHeartbeats 4000000 in
theorem mX5_bitsOf (l : Launch) (D : va_G) (ct : Nat → ClassId) (ad : Nat → Nat) (Ms : Nat → Nat → Int32) (kp : Nat → Int32) (nx sz : Nat) (B A : Nat → Int32) (tn p9 : Nat) (kd : Int32) (d : UInt64)   (hok : shOk d) : FMet l yX5_bitsOf cX5_bitsOf 8 (some .long) 0 0 D ct 198 ad [.double (d)] (csc ct ad Ms kp (nI nx) (nI sz) B A (nI tn) (nI p9) kd) (some (.long (bitsD d))) (csc ct ad Ms kp (nI nx) (nI sz) B A (nI tn) (nI p9) kd) := by
  refine FMet.of (by decide +kernel) (Nat.le_of_ble_eq_true rfl) ?_
  intro p e s m args below meth c ls hx hb hr hml hown hlocks htg hK hI hP hS hl
  have hl : lv_has ls 8 [(0, .double (d))] := hl
  rcases hok with hok | ⟨c0, k0, hok⟩
  · refine lv_dload_n hx hb dX5_bitsOf_0 rfl (lv_at hl 0 rfl) ?_
    refine lv_dconst0 hx hb dX5_bitsOf_1 ?_
    refine lv_dcmp hx hb dX5_bitsOf_2 ?_
    refine lv_teq (show Op.cmpValue (FP.dcmp d FP.dconst0) .g = nI 0 from by rw [hok]; decide +kernel) ?_
    refine lv_if_gt (tgt := 8) hx hb dX5_bitsOf_3 (by decide) (fun h => absurd h (by decide)) (fun _ => ?_)
    refine lv_lconst (v := 0) hx hb dX5_bitsOf_6 rfl ?_
    refine fr_lret hx hb hr hlocks hK hI hS dX5_bitsOf_7 ?_ ?_
    · first | (rw [bitsD, if_pos hok]; done) | (rw [mul1_l hkk, hj0]; exact bits_e hok)
    · exact hP
  · refine lv_dload_n hx hb dX5_bitsOf_0 rfl (lv_at hl 0 rfl) ?_
    refine lv_dconst0 hx hb dX5_bitsOf_1 ?_
    refine lv_dcmp hx hb dX5_bitsOf_2 ?_
    refine lv_teq (cv0_g hok) ?_
    refine lv_if_gt (tgt := 8) hx hb dX5_bitsOf_3 (by decide) (fun _ => ?_) (fun h => absurd (by decide) h)
    refine lv_dload_n hx hb dX5_bitsOf_8 rfl (lv_at hl 0 rfl) ?_
    refine lv_dstore_n (lv' := [(2, .double (d)), (0, .double (d))]) hx hb dX5_bitsOf_9 rfl hl (by decide) rfl (fun ls hl => ?_)
    refine lv_ldc2 hx hb hown (htg _ k2_X5_341) dX5_bitsOf_10 ?_
    refine lv_lstore (lv' := [(4, .long (1023)), (2, .double (d)), (0, .double (d))]) hx hb dX5_bitsOf_13 hl (by decide) rfl (fun ls hl => ?_)
    have lp15 : ∀ (fu15 : Nat) (dd : UInt64) (j : Nat) (kk : Nat), okd dd c0 kk → j + kk = k0 → kk < fu15 → ∀ (H : Heap) (locs : List Loc), fP D 198 ad (csc ct ad Ms kp (nI nx) (nI sz) B A (nI tn) (nI p9) kd) H → va_S (fA 198 ad) s.heap H locs → ∀ (ls : Array Slot), lv_has ls 8 [(4, .long (lj j)), (2, .double (dd)), (0, .double (d))] → W p l e ({ frames := 0, cells := 0, slots := 0, locals := 0 }) s m args below meth c H locs 0 0 (MQ below (fQ D ct 198 ad (some (.long (bitsD d))) (csc ct ad Ms kp (nI nx) (nI sz) B A (nI tn) (nI p9) kd)) args s 0 0 (fA 198 ad)) (F0 m 15 ls []) := by
      intro fu15
      induction fu15 with
      | zero => intro dd j kk hkk hjk hfu15; exact absurd hfu15 (Nat.not_lt_zero _)
      | succ fu15 ih15 =>
        intro dd j kk hkk hjk hfu15 H locs hP hS ls hl
        refine lv_dload_n hx hb dX5_bitsOf_15 rfl (lv_at hl 1 rfl) ?_
        refine lv_dconst1 hx hb dX5_bitsOf_16 ?_
        refine lv_dcmp hx hb dX5_bitsOf_17 ?_
        refine lv_ifgeR (tgt := 43) hx hb dX5_bitsOf_18 (by decide) (fun c18 => ?_) (fun c18 => ?_)
        · have hk0 := cv_ge hkk c18
          rw [hk0] at hkk
          have hj0 : j = k0 := by omega
          refine lv_dload_n hx hb dX5_bitsOf_43 rfl (lv_at hl 1 rfl) ?_
          refine lv_dconst1 hx hb dX5_bitsOf_44 ?_
          refine lv_dsub hx hb dX5_bitsOf_45 (sub1_n hkk) ?_
          refine lv_ldc2d hx hb hown (htg _ k2_X5_345) dX5_bitsOf_46 ?_
          refine lv_dmul hx hb dX5_bitsOf_49 (mul1_n hkk) ?_
          refine lv_d2l hx hb dX5_bitsOf_50 ?_
          refine lv_lstore (lv' := [(6, .long (FP.d2l (FP.dmul (FP.dsub dd FP.dconst1) 4841369599423283200))), (4, .long (lj j)), (2, .double (dd)), (0, .double (d))]) hx hb dX5_bitsOf_51 hl (by decide) rfl (fun ls hl => ?_)
          refine lv_lload hx hb dX5_bitsOf_53 (lv_at hl 1 rfl) ?_
          refine lv_bipush (v := nI 52) hx hb dX5_bitsOf_55 (by decide) ?_
          refine lv_lshl (v := (lj j) <<< 52) hx hb dX5_bitsOf_57 (congrArg (fun z => (lj j) <<< z) (show (nI 52).toInt64 &&& 63 = 52 from by decide)) ?_
          refine lv_lload hx hb dX5_bitsOf_58 (lv_at hl 0 rfl) ?_
          refine lv_ladd hx hb dX5_bitsOf_60 ?_
          refine fr_lret hx hb hr hlocks hK hI hS dX5_bitsOf_61 ?_ ?_
          · first | (rw [bitsD, if_pos hok]; done) | (rw [mul1_l hkk, hj0]; exact bits_e hok)
          · exact hP
        · have hk1 := cv_lt hkk c18
          refine lv_lload hx hb dX5_bitsOf_21 (lv_at hl 0 rfl) ?_
          refine lv_lconst (v := 1) hx hb dX5_bitsOf_23 rfl ?_
          refine lw_lcmp_gt hx hb (lj_gt (by have := hok.2.2.2; omega)) dX5_bitsOf_24 ?_
          refine lv_if_le (tgt := 43) hx hb dX5_bitsOf_25 (by decide) (fun h => absurd h (by decide)) (fun _ => ?_)
          refine lv_dload_n hx hb dX5_bitsOf_28 rfl (lv_at hl 1 rfl) ?_
          refine lv_ldc2d hx hb hown (htg _ k2_X5_343) dX5_bitsOf_29 ?_
          refine lv_dmul hx hb dX5_bitsOf_32 (okd_n (okd_dbl hkk hk1)) ?_
          refine lv_dstore_n (lv' := [(2, .double (FP.dmul dd 4611686018427387904)), (4, .long (lj j)), (0, .double (d))]) hx hb dX5_bitsOf_33 rfl hl (by decide) rfl (fun ls hl => ?_)
          refine lv_lload hx hb dX5_bitsOf_34 (lv_at hl 1 rfl) ?_
          refine lv_lconst (v := 1) hx hb dX5_bitsOf_36 rfl ?_
          refine lv_lsub hx hb dX5_bitsOf_37 ?_
          refine lv_lstore (lv' := [(4, .long ((lj j) - 1)), (2, .double (FP.dmul dd 4611686018427387904)), (0, .double (d))]) hx hb dX5_bitsOf_38 hl (by decide) rfl (fun ls hl => ?_)
          refine lv_goto (tgt := 15) hx hb dX5_bitsOf_40 (by decide) ?_
          have hl := lv_sub (l' := [(4, .long ((lj j) - 1)), (2, .double (FP.dmul dd 4611686018427387904)), (0, .double (d))]) hl [0, 1, 2] rfl
          have le4 : Value.long ((lj j) - 1) = Value.long (lj (j + 1)) := by exact congrArg Value.long (lj_s j)
          have le2 : Value.double (FP.dmul dd 4611686018427387904) = Value.double ((FP.dmul dd 4611686018427387904)) := by rfl
          have hl := lv_hasE hl (lcons le4 (lcons le2 (lcons rfl rfl)))
          exact ih15 (FP.dmul dd 4611686018427387904) (j + 1) (kk - 1) (okd_dbl hkk hk1) (by omega) (by omega) _ _ hP hS _ hl
    have hl := lv_sub (l' := [(4, .long (1023)), (2, .double (d)), (0, .double (d))]) hl [0, 1, 2] rfl
    have le4 : Value.long (1023) = Value.long (lj 0) := by rfl
    have hl := lv_hasE hl (lcons le4 (lcons rfl (lcons rfl rfl)))
    exact lp15 (k0 + 1) d 0 k0 (hok) (Nat.zero_add _) (Nat.lt_succ_self _) _ _ hP hS _ hl
