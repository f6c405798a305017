/-! THE CLASS: a setting changed -/
/-- a method that stands on the statics too -/
def GMet (l : Launch) (y : MethodName) (cc : ByteArray) (maxL : Nat) (ret : Option FieldType) (fr lo : Nat) (D : va_G) (ct : Nat → ClassId) (N : Nat) (ad : Nat → Nat) (av : List Value) (ce : Nat → va_E) (rv : Option Value) (ce' : Nat → va_E) : Prop :=
  Met l y (Cond.code y cc maxL ret :: wB) ({ frames := fr, cells := 0, slots := 0, locals := lo }) (va_Pc av (fun U => fW D ct N ad ce U ∧ gE (fA N ad) U U.heap)) (fQ D ct N ad rv ce') 0 0 (fA N ad)
theorem GMet.of {l : Launch} {y : MethodName} {cc : ByteArray} {maxL : Nat} {ret : Option FieldType} {fr lo : Nat} {D : va_G} {ct : Nat → ClassId} {N : Nat} {ad : Nat → Nat} {av : List Value} {ce : Nat → va_E} {rv : Option Value} {ce' : Nat → va_E} (hy : plainName y.cls = true) (hlen : (lg_sl av).length ≤ maxL)
    (body : ∀ (p : Program) (e : Env) (s : State) (m : MethodId) (args : Array Value) (below : List Frame) (meth : Method) (c : Code) (ls : Array Slot), p.tables.exec = Jvm.exec → c.code = cc → meth.sig.returnType = ret → c.maxLocals = maxL → s.vm.findClass y.cls = some m.cls → meth.locks = false → (∀ w ∈ wB, w.before args s = true) → va_K D vwCl (fTys ct) s → fI N ad → fP D N ad ce s.heap → va_S (fA N ad) s.heap s.heap [] → lv_has ls maxL (lv_args 0 av) → gE (fA N ad) s s.heap →
      W p l e ({ frames := fr, cells := 0, slots := 0, locals := lo }) s m args below meth c s.heap [] 0 0 (MQ below (fQ D ct N ad rv ce') args s 0 0 (fA N ad)) (F0 m 0 ls [])) : GMet l y cc maxL ret fr lo D ct N ad av ce rv ce' := by
  refine Met.ofW (cc := cc) (maxL := maxL) (ret := ret) hy rfl ?_
  intro p e s m args below meth c s₁ B hml hv
  obtain ⟨rfl, ⟨hP, hK, hI⟩, hE⟩ := hv
  have hts := atoms_spec (ws := Cond.code y cc maxL ret :: wB) B.pre
  have hl := lv_entry av (n := maxL) hlen
  rw [lg_entry_eq]
  exact body p e s m _ below meth c _ B.exec B.bytes B.returns hml (findClass_of_methodNamed B.named) B.notSynchronized (fun w hw => hts w (List.mem_cons_of_mem _ hw)) hK hI hP va_S.rf hl hE
theorem fl_X5_143 : Cond.fieldLink RX5 143 "MarketSockets" "LEAST_VALUES" "[I" ∈ wB := xb (by decide +kernel) (by decide +kernel)
theorem fl_X5_147 : Cond.fieldLink RX5 147 "MarketSockets" "MOST_VALUES" "[I" ∈ wB := xb (by decide +kernel) (by decide +kernel)
set_option maxRecDepth 100000 in
set_option maxHeartbeats 4000000 in
theorem mX5_set (l : Launch) (D : va_G) (ct : Nat → ClassId) (ad : Nat → Nat) (Ms : Nat → Nat → Int32) (kp : Nat → Int32) (nx sz : Nat) (B A : Nat → Int32) (tn p9 : Nat) (kd : Int32) (w : Nat) (v : Int32) (n : Nat)  (hw : mW (Ms 0) n) (hbw : bW (Ms 0) n) (hnx : nx < 6) (hsz : sz ≤ 6) (hw3 : w < 3) (hlo9 : ¬ v < leV w) (hhi9 : ¬ moV w < v) : GMet l yX5_set cX5_set 4 (some .int) 3 83 D ct 198 ad [.ref (ad 0), .int (nI w), .int (v)] (csc ct ad Ms kp (nI nx) (nI sz) B A (nI tn) (nI p9) kd) (some (.int (Ms 0 (0 + w)))) (csc ct ad (va_up (va_up Ms (4 + nx) (cCp (Ms (4 + nx)) (Ms 0) n)) 0 (upd (Ms 0) (0 + w) v)) kp (nI ((nx + 1) % 6)) (nI (svn sz)) B A (nI tn) (nI p9) kd) := by
  refine GMet.of (by decide +kernel) (Nat.le_of_ble_eq_true rfl) ?_
  intro p e s m args below meth c ls hx hb hr hml hown hlocks htg hK hI hP hS hl hE
  have hl : lv_has ls 4 [(0, .ref (ad 0)), (1, .int (nI w)), (2, .int (v))] := hl
  have hn10 := hw.2
  rcases (show w = 0 ∨ w = 1 ∨ w = 2 from by omega) with rfl | rfl | rfl
  · refine lv_iload_n hx hb dX5_set_0 rfl (lv_at hl 1 rfl) ?_
    refine cs_cS0 (As := [.int (nI 0)]) (rest := []) hx hb hown htg hK hI hS hP hml hl.1 (mX5_checkSetting l D ct ad Ms kp nx sz B A tn p9 kd (nI 0) (by decide) (by decide)) cw_X5_140 rfl rfl ⟨Nat.le_of_ble_eq_true rfl, Nat.le_of_ble_eq_true rfl⟩ (Nat.le_of_ble_eq_true rfl) dX5_set_1 ⟨Nat.le_refl _, Nat.le_refl _⟩ (fun H locs hP hS => ?_)
    refine lv_iload_n hx hb dX5_set_4 rfl (lv_at hl 2 rfl) ?_
    obtain ⟨t5, z5, T5⟩ := hE.1
    refine va_gets (C := RX5) (ref := RX5) (n := "LEAST_VALUES") (d := "[I") hx hb z5 hS hown (htg _ fl_X5_143) (fun _ h => h) dX5_set_5 ?_
    refine lv_iload_n hx hb dX5_set_8 rfl (lv_at hl 1 rfl) ?_
    refine va_ti (i := nI 0) (v := .int (nI 1)) hx hb T5 hS (nI_in (by decide) (by decide)) (by rw [nI_clamp (by decide)]; rfl) dX5_set_9 ?_
    obtain ⟨t10, z10, T10⟩ := hE.2
    refine va_gets (C := RX5) (ref := RX5) (n := "MOST_VALUES") (d := "[I") hx hb z10 hS hown (htg _ fl_X5_147) (fun _ h => h) dX5_set_10 ?_
    refine lv_iload_n hx hb dX5_set_13 rfl (lv_at hl 1 rfl) ?_
    refine va_ti (i := nI 0) (v := .int (nI 9)) hx hb T10 hS (nI_in (by decide) (by decide)) (by rw [nI_clamp (by decide)]; rfl) dX5_set_14 ?_
    refine cs_cS0 (As := [.int (v), .int (nI 1), .int (nI 9)]) (rest := []) hx hb hown htg hK hI hS hP hml hl.1 (mX5_checkArgument l D ct ad Ms kp nx sz B A tn p9 kd v (nI 1) (nI 9) hlo9 hhi9) cw_X5_71 rfl rfl ⟨Nat.le_of_ble_eq_true rfl, Nat.le_of_ble_eq_true rfl⟩ (Nat.le_of_ble_eq_true rfl) dX5_set_15 ⟨Nat.le_refl _, Nat.le_refl _⟩ (fun H locs hP hS => ?_)
    refine lv_aload_n hx hb dX5_set_18 rfl (lv_at hl 0 rfl) ?_
    refine cs_g4 hx hb hown htg hK hP fl_X5_30 dX5_set_19 ?_
    refine lv_aload_n hx hb dX5_set_22 rfl (lv_at hl 0 rfl) ?_
    refine cs_g0 hx hb hown htg hK hP fl_X5_10 dX5_set_23 ?_
    refine cs_ch0 (As := [.ref (ad (8 + 19 * 0 + 0))]) (rest := []) hx hb hown htg hK hI hS hP hml hl.1 (mX1_save l D ct ad Ms kp nx sz B A tn p9 kd n hw hbw (by omega) (by omega)) cw_X5_59 rfl rfl ⟨Nat.le_of_ble_eq_true rfl, Nat.le_of_ble_eq_true rfl⟩ (Nat.le_of_ble_eq_true rfl) dX5_set_26 ⟨Nat.le_refl _, Nat.le_refl _⟩ (fun H locs hP hS => ?_)
    refine lv_aload_n hx hb dX5_set_29 rfl (lv_at hl 0 rfl) ?_
    refine cs_g0 hx hb hown htg hK hP fl_X5_10 dX5_set_30 ?_
    refine cs_m4 (i := 0) (M := Ms 0) hx hb hown htg hK hP (by omega) (by first | rfl | (simp (disch := omega) only [vup_s, va_up_ne]; done)) fl_X5_150 dX5_set_33 ?_
    refine lv_iload_n hx hb dX5_set_36 rfl (lv_at hl 1 rfl) ?_
    refine cs_lMt (i := 0) (M := Ms 0) hx hb hK hP (by omega) (by first | rfl | (simp (disch := omega) only [vup_s, va_up_ne]; done)) (by omega) dX5_set_37 ?_
    refine lv_istore_n (lv' := [(3, .int ((Ms 0) (0 + 0))), (0, .ref (ad 0)), (1, .int (nI 0)), (2, .int (v))]) hx hb dX5_set_38 rfl hl (by decide) rfl (fun ls hl => ?_)
    refine lv_aload_n hx hb dX5_set_39 rfl (lv_at hl 1 rfl) ?_
    refine cs_g0 hx hb hown htg hK hP fl_X5_10 dX5_set_40 ?_
    refine cs_m4 (i := 0) (M := Ms 0) hx hb hown htg hK hP (by omega) (by first | rfl | (simp (disch := omega) only [vup_s, va_up_ne]; done)) fl_X5_150 dX5_set_43 ?_
    refine lv_iload_n hx hb dX5_set_46 rfl (lv_at hl 2 rfl) ?_
    refine lv_iload_n hx hb dX5_set_47 rfl (lv_at hl 3 rfl) ?_
    refine cs_wMt (i := 0) (M := Ms 0) hx hb hK hI hS hP (by omega) (by first | rfl | (simp (disch := omega) only [vup_s, va_up_ne]; done)) (by omega) dX5_set_48 (fun H locs hP hS => ?_)
    refine lv_iload_n hx hb dX5_set_49 rfl (lv_at hl 0 rfl) ?_
    refine fr_iret hx hb hr hlocks hK hI hS rfl dX5_set_50 ?_ ?_
    · rfl
    · refine fP.eqc (congrArg (fun v9 => csc ct ad v9 kp (nI ((nx + 1) % 6)) (nI (svn sz)) B A (nI tn) (nI p9) kd) (show (va_up (va_up Ms (4 + nx) (cCp (Ms (4 + nx)) (Ms 0) n)) 0 (upd (Ms 0) (0 + 0) v)) = (va_up (va_up Ms (4 + nx) (cCp (Ms (4 + nx)) ((Ms 0)) n)) 0 (upd (Ms 0) (0 + 0) v)) from by rfl).symm) ?_
      exact hP
  · refine lv_iload_n hx hb dX5_set_0 rfl (lv_at hl 1 rfl) ?_
    refine cs_cS0 (As := [.int (nI 1)]) (rest := []) hx hb hown htg hK hI hS hP hml hl.1 (mX5_checkSetting l D ct ad Ms kp nx sz B A tn p9 kd (nI 1) (by decide) (by decide)) cw_X5_140 rfl rfl ⟨Nat.le_of_ble_eq_true rfl, Nat.le_of_ble_eq_true rfl⟩ (Nat.le_of_ble_eq_true rfl) dX5_set_1 ⟨Nat.le_refl _, Nat.le_refl _⟩ (fun H locs hP hS => ?_)
    refine lv_iload_n hx hb dX5_set_4 rfl (lv_at hl 2 rfl) ?_
    obtain ⟨t5, z5, T5⟩ := hE.1
    refine va_gets (C := RX5) (ref := RX5) (n := "LEAST_VALUES") (d := "[I") hx hb z5 hS hown (htg _ fl_X5_143) (fun _ h => h) dX5_set_5 ?_
    refine lv_iload_n hx hb dX5_set_8 rfl (lv_at hl 1 rfl) ?_
    refine va_ti (i := nI 1) (v := .int (nI 0)) hx hb T5 hS (nI_in (by decide) (by decide)) (by rw [nI_clamp (by decide)]; rfl) dX5_set_9 ?_
    obtain ⟨t10, z10, T10⟩ := hE.2
    refine va_gets (C := RX5) (ref := RX5) (n := "MOST_VALUES") (d := "[I") hx hb z10 hS hown (htg _ fl_X5_147) (fun _ h => h) dX5_set_10 ?_
    refine lv_iload_n hx hb dX5_set_13 rfl (lv_at hl 1 rfl) ?_
    refine va_ti (i := nI 1) (v := .int (nI 1)) hx hb T10 hS (nI_in (by decide) (by decide)) (by rw [nI_clamp (by decide)]; rfl) dX5_set_14 ?_
    refine cs_cS0 (As := [.int (v), .int (nI 0), .int (nI 1)]) (rest := []) hx hb hown htg hK hI hS hP hml hl.1 (mX5_checkArgument l D ct ad Ms kp nx sz B A tn p9 kd v (nI 0) (nI 1) hlo9 hhi9) cw_X5_71 rfl rfl ⟨Nat.le_of_ble_eq_true rfl, Nat.le_of_ble_eq_true rfl⟩ (Nat.le_of_ble_eq_true rfl) dX5_set_15 ⟨Nat.le_refl _, Nat.le_refl _⟩ (fun H locs hP hS => ?_)
    refine lv_aload_n hx hb dX5_set_18 rfl (lv_at hl 0 rfl) ?_
    refine cs_g4 hx hb hown htg hK hP fl_X5_30 dX5_set_19 ?_
    refine lv_aload_n hx hb dX5_set_22 rfl (lv_at hl 0 rfl) ?_
    refine cs_g0 hx hb hown htg hK hP fl_X5_10 dX5_set_23 ?_
    refine cs_ch0 (As := [.ref (ad (8 + 19 * 0 + 0))]) (rest := []) hx hb hown htg hK hI hS hP hml hl.1 (mX1_save l D ct ad Ms kp nx sz B A tn p9 kd n hw hbw (by omega) (by omega)) cw_X5_59 rfl rfl ⟨Nat.le_of_ble_eq_true rfl, Nat.le_of_ble_eq_true rfl⟩ (Nat.le_of_ble_eq_true rfl) dX5_set_26 ⟨Nat.le_refl _, Nat.le_refl _⟩ (fun H locs hP hS => ?_)
    refine lv_aload_n hx hb dX5_set_29 rfl (lv_at hl 0 rfl) ?_
    refine cs_g0 hx hb hown htg hK hP fl_X5_10 dX5_set_30 ?_
    refine cs_m4 (i := 0) (M := Ms 0) hx hb hown htg hK hP (by omega) (by first | rfl | (simp (disch := omega) only [vup_s, va_up_ne]; done)) fl_X5_150 dX5_set_33 ?_
    refine lv_iload_n hx hb dX5_set_36 rfl (lv_at hl 1 rfl) ?_
    refine cs_lMt (i := 0) (M := Ms 0) hx hb hK hP (by omega) (by first | rfl | (simp (disch := omega) only [vup_s, va_up_ne]; done)) (by omega) dX5_set_37 ?_
    refine lv_istore_n (lv' := [(3, .int ((Ms 0) (0 + 1))), (0, .ref (ad 0)), (1, .int (nI 1)), (2, .int (v))]) hx hb dX5_set_38 rfl hl (by decide) rfl (fun ls hl => ?_)
    refine lv_aload_n hx hb dX5_set_39 rfl (lv_at hl 1 rfl) ?_
    refine cs_g0 hx hb hown htg hK hP fl_X5_10 dX5_set_40 ?_
    refine cs_m4 (i := 0) (M := Ms 0) hx hb hown htg hK hP (by omega) (by first | rfl | (simp (disch := omega) only [vup_s, va_up_ne]; done)) fl_X5_150 dX5_set_43 ?_
    refine lv_iload_n hx hb dX5_set_46 rfl (lv_at hl 2 rfl) ?_
    refine lv_iload_n hx hb dX5_set_47 rfl (lv_at hl 3 rfl) ?_
    refine cs_wMt (i := 0) (M := Ms 0) hx hb hK hI hS hP (by omega) (by first | rfl | (simp (disch := omega) only [vup_s, va_up_ne]; done)) (by omega) dX5_set_48 (fun H locs hP hS => ?_)
    refine lv_iload_n hx hb dX5_set_49 rfl (lv_at hl 0 rfl) ?_
    refine fr_iret hx hb hr hlocks hK hI hS rfl dX5_set_50 ?_ ?_
    · rfl
    · refine fP.eqc (congrArg (fun v9 => csc ct ad v9 kp (nI ((nx + 1) % 6)) (nI (svn sz)) B A (nI tn) (nI p9) kd) (show (va_up (va_up Ms (4 + nx) (cCp (Ms (4 + nx)) (Ms 0) n)) 0 (upd (Ms 0) (0 + 1) v)) = (va_up (va_up Ms (4 + nx) (cCp (Ms (4 + nx)) ((Ms 0)) n)) 0 (upd (Ms 0) (0 + 1) v)) from by rfl).symm) ?_
      exact hP
  · refine lv_iload_n hx hb dX5_set_0 rfl (lv_at hl 1 rfl) ?_
    refine cs_cS0 (As := [.int (nI 2)]) (rest := []) hx hb hown htg hK hI hS hP hml hl.1 (mX5_checkSetting l D ct ad Ms kp nx sz B A tn p9 kd (nI 2) (by decide) (by decide)) cw_X5_140 rfl rfl ⟨Nat.le_of_ble_eq_true rfl, Nat.le_of_ble_eq_true rfl⟩ (Nat.le_of_ble_eq_true rfl) dX5_set_1 ⟨Nat.le_refl _, Nat.le_refl _⟩ (fun H locs hP hS => ?_)
    refine lv_iload_n hx hb dX5_set_4 rfl (lv_at hl 2 rfl) ?_
    obtain ⟨t5, z5, T5⟩ := hE.1
    refine va_gets (C := RX5) (ref := RX5) (n := "LEAST_VALUES") (d := "[I") hx hb z5 hS hown (htg _ fl_X5_143) (fun _ h => h) dX5_set_5 ?_
    refine lv_iload_n hx hb dX5_set_8 rfl (lv_at hl 1 rfl) ?_
    refine va_ti (i := nI 2) (v := .int (nI 1)) hx hb T5 hS (nI_in (by decide) (by decide)) (by rw [nI_clamp (by decide)]; rfl) dX5_set_9 ?_
    obtain ⟨t10, z10, T10⟩ := hE.2
    refine va_gets (C := RX5) (ref := RX5) (n := "MOST_VALUES") (d := "[I") hx hb z10 hS hown (htg _ fl_X5_147) (fun _ h => h) dX5_set_10 ?_
    refine lv_iload_n hx hb dX5_set_13 rfl (lv_at hl 1 rfl) ?_
    refine va_ti (i := nI 2) (v := .int (nI 99)) hx hb T10 hS (nI_in (by decide) (by decide)) (by rw [nI_clamp (by decide)]; rfl) dX5_set_14 ?_
    refine cs_cS0 (As := [.int (v), .int (nI 1), .int (nI 99)]) (rest := []) hx hb hown htg hK hI hS hP hml hl.1 (mX5_checkArgument l D ct ad Ms kp nx sz B A tn p9 kd v (nI 1) (nI 99) hlo9 hhi9) cw_X5_71 rfl rfl ⟨Nat.le_of_ble_eq_true rfl, Nat.le_of_ble_eq_true rfl⟩ (Nat.le_of_ble_eq_true rfl) dX5_set_15 ⟨Nat.le_refl _, Nat.le_refl _⟩ (fun H locs hP hS => ?_)
    refine lv_aload_n hx hb dX5_set_18 rfl (lv_at hl 0 rfl) ?_
    refine cs_g4 hx hb hown htg hK hP fl_X5_30 dX5_set_19 ?_
    refine lv_aload_n hx hb dX5_set_22 rfl (lv_at hl 0 rfl) ?_
    refine cs_g0 hx hb hown htg hK hP fl_X5_10 dX5_set_23 ?_
    refine cs_ch0 (As := [.ref (ad (8 + 19 * 0 + 0))]) (rest := []) hx hb hown htg hK hI hS hP hml hl.1 (mX1_save l D ct ad Ms kp nx sz B A tn p9 kd n hw hbw (by omega) (by omega)) cw_X5_59 rfl rfl ⟨Nat.le_of_ble_eq_true rfl, Nat.le_of_ble_eq_true rfl⟩ (Nat.le_of_ble_eq_true rfl) dX5_set_26 ⟨Nat.le_refl _, Nat.le_refl _⟩ (fun H locs hP hS => ?_)
    refine lv_aload_n hx hb dX5_set_29 rfl (lv_at hl 0 rfl) ?_
    refine cs_g0 hx hb hown htg hK hP fl_X5_10 dX5_set_30 ?_
    refine cs_m4 (i := 0) (M := Ms 0) hx hb hown htg hK hP (by omega) (by first | rfl | (simp (disch := omega) only [vup_s, va_up_ne]; done)) fl_X5_150 dX5_set_33 ?_
    refine lv_iload_n hx hb dX5_set_36 rfl (lv_at hl 1 rfl) ?_
    refine cs_lMt (i := 0) (M := Ms 0) hx hb hK hP (by omega) (by first | rfl | (simp (disch := omega) only [vup_s, va_up_ne]; done)) (by omega) dX5_set_37 ?_
    refine lv_istore_n (lv' := [(3, .int ((Ms 0) (0 + 2))), (0, .ref (ad 0)), (1, .int (nI 2)), (2, .int (v))]) hx hb dX5_set_38 rfl hl (by decide) rfl (fun ls hl => ?_)
    refine lv_aload_n hx hb dX5_set_39 rfl (lv_at hl 1 rfl) ?_
    refine cs_g0 hx hb hown htg hK hP fl_X5_10 dX5_set_40 ?_
    refine cs_m4 (i := 0) (M := Ms 0) hx hb hown htg hK hP (by omega) (by first | rfl | (simp (disch := omega) only [vup_s, va_up_ne]; done)) fl_X5_150 dX5_set_43 ?_
    refine lv_iload_n hx hb dX5_set_46 rfl (lv_at hl 2 rfl) ?_
    refine lv_iload_n hx hb dX5_set_47 rfl (lv_at hl 3 rfl) ?_
    refine cs_wMt (i := 0) (M := Ms 0) hx hb hK hI hS hP (by omega) (by first | rfl | (simp (disch := omega) only [vup_s, va_up_ne]; done)) (by omega) dX5_set_48 (fun H locs hP hS => ?_)
    refine lv_iload_n hx hb dX5_set_49 rfl (lv_at hl 0 rfl) ?_
    refine fr_iret hx hb hr hlocks hK hI hS rfl dX5_set_50 ?_ ?_
    · rfl
    · refine fP.eqc (congrArg (fun v9 => csc ct ad v9 kp (nI ((nx + 1) % 6)) (nI (svn sz)) B A (nI tn) (nI p9) kd) (show (va_up (va_up Ms (4 + nx) (cCp (Ms (4 + nx)) (Ms 0) n)) 0 (upd (Ms 0) (0 + 2) v)) = (va_up (va_up Ms (4 + nx) (cCp (Ms (4 + nx)) ((Ms 0)) n)) 0 (upd (Ms 0) (0 + 2) v)) from by rfl).symm) ?_
      exact hP
