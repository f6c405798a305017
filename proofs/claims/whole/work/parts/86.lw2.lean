/-! THE LAW'S METHODS: one by one -/
set_option maxRecDepth 100000 in
theorem mL_stall {l : Launch} {D : va_G} {ct : Nat → ClassId} {cL : ClassId} {ad : Nat → Nat} {fr lo : Nat} {a1 : Int32} {a2 : Int32} {a3 : Int32} {a4 : Int32} {ce ce' : Nat → va_E} {fs : List Value} {v : Int64} {r : Int32} (h0 : ce 0 = .inr (5, fs)) (hfr : fr ≤ 11) (hlo : lo ≤ 400) (hM : GMet l yX5_stall cX5_stall 5 (some .int) fr lo D ct 198 ad [.ref (ad 0), .int a1, .int a2, .int a3, .int a4] ce (some (.int r)) ce') : OMet l yL_stall cL_stall 7 [(0, 14, 17, 13), (0, 14, 21, 15)] D ct cL ad [.ref (ad 0), .int a1, .int a2, .int a3, .int a4, .ref (ad 198)] ce v 0 ce' r.toInt64 := by
  refine OMet.of (by decide +kernel) (Nat.le_of_ble_eq_true rfl) ?_
  intro p e s m args below meth c ls hx hb hr hml hown hlocks htg hK hI hP hS hl htab hE hlE
  have hl : lv_has ls 7 [(0, .ref (ad 0)), (1, .int a1), (2, .int a2), (3, .int a3), (4, .int a4), (5, .ref (ad 198))] := hl
  refine lv_aload hx hb dL_stall_0 (lv_at hl 5 rfl) ?_
  refine lv_iconst (v := 0) hx hb dL_stall_2 rfl ?_
  refine lv_aload_n hx hb dL_stall_3 rfl (lv_at hl 0 rfl) ?_
  refine lv_iload_n hx hb dL_stall_4 rfl (lv_at hl 1 rfl) ?_
  refine lv_iload_n hx hb dL_stall_5 rfl (lv_at hl 2 rfl) ?_
  refine lv_iload_n hx hb dL_stall_6 rfl (lv_at hl 3 rfl) ?_
  refine lv_iload hx hb dL_stall_7 (lv_at hl 4 rfl) ?_
  refine oc_V (As := [.int a1, .int a2, .int a3, .int a4]) (rest := [.int 0, .ref (ad 198)]) hx hb hml hown htg hK hI hP hS hl.1 hE hM cw_L_7 h0 rfl rfl ⟨Nat.succ_le_succ hfr, by show 8 + (5 + 11) + lo ≤ 480; omega⟩ (Nat.le_of_ble_eq_true rfl) dL_stall_9 ⟨Nat.le_of_ble_eq_true rfl, Nat.le_of_ble_eq_true rfl⟩ (fun H locs hP hS => ?_)
  refine lv_i2l (v := r.toInt64) hx hb dL_stall_12 rfl ?_
  refine oc_out hx hb hK hI hP hS dL_stall_13 (fun H locs hP hS => ?_)
  refine lv_goto (tgt := 25) hx hb dL_stall_14 rfl ?_
  refine lv_iconst (v := 0) hx hb dL_stall_25 rfl ?_
  exact oc_ret hx hb hr hlocks hK hI hP hS ⟨Nat.le_of_ble_eq_true rfl, Nat.le_of_ble_eq_true rfl⟩ dL_stall_26
set_option maxRecDepth 100000 in
theorem mL_stall_EA {l : Launch} {D : va_G} {ct : Nat → ClassId} {cL : ClassId} {ad : Nat → Nat} {fr lo : Nat} {a1 : Int32} {a2 : Int32} {a3 : Int32} {a4 : Int32} {ce ce' : Nat → va_E} {fs : List Value} {v : Int64} (h0 : ce 0 = .inr (5, fs)) (hfr : fr ≤ 11) (hlo : lo ≤ 400) (hM : TMet l yX5_stall cX5_stall 5 (some .int) fr lo D ct 198 ad [.ref (ad 0), .int a1, .int a2, .int a3, .int a4] ce EA ce') : OMet l yL_stall cL_stall 7 [(0, 14, 17, 13), (0, 14, 21, 15)] D ct cL ad [.ref (ad 0), .int a1, .int a2, .int a3, .int a4, .ref (ad 198)] ce v 1 ce' v := by
  refine OMet.of (by decide +kernel) (Nat.le_of_ble_eq_true rfl) ?_
  intro p e s m args below meth c ls hx hb hr hml hown hlocks htg hK hI hP hS hl htab hE hlE
  have hl : lv_has ls 7 [(0, .ref (ad 0)), (1, .int a1), (2, .int a2), (3, .int a3), (4, .int a4), (5, .ref (ad 198))] := hl
  refine lv_aload hx hb dL_stall_0 (lv_at hl 5 rfl) ?_
  refine lv_iconst (v := 0) hx hb dL_stall_2 rfl ?_
  refine lv_aload_n hx hb dL_stall_3 rfl (lv_at hl 0 rfl) ?_
  refine lv_iload_n hx hb dL_stall_4 rfl (lv_at hl 1 rfl) ?_
  refine lv_iload_n hx hb dL_stall_5 rfl (lv_at hl 2 rfl) ?_
  refine lv_iload_n hx hb dL_stall_6 rfl (lv_at hl 3 rfl) ?_
  refine lv_iload hx hb dL_stall_7 (lv_at hl 4 rfl) ?_
  refine oc_T (As := [.int a1, .int a2, .int a3, .int a4]) (rest := [.int 0, .ref (ad 198)]) (pre := tableOf []) (x := ⟨0, 14, 17, 13⟩) (suf := tableOf [(0, 14, 21, 15)]) hx hb hml hown htg hK hI hP hS hl.1 hE htab (fun z hz => absurd hz List.not_mem_nil) (by decide) (by decide) kc_L_13 (by decide) hM cw_L_7 h0 rfl rfl ⟨Nat.succ_le_succ hfr, by show 8 + (5 + 11) + lo ≤ 480; omega⟩ (Nat.le_of_ble_eq_true rfl) dL_stall_9 ⟨Nat.le_of_ble_eq_true rfl, Nat.le_of_ble_eq_true rfl⟩ (fun q H locs hP hS => ?_)
  refine lv_astore (lv' := (6, .ref q) :: [(0, .ref (ad 0)), (1, .int a1), (2, .int a2), (3, .int a3), (4, .int a4), (5, .ref (ad 198))]) hx hb dL_stall_17 hl (by decide) rfl (fun ls hl => ?_)
  refine lv_iconst (v := 1) hx hb dL_stall_19 rfl ?_
  exact oc_ret hx hb hr hlocks hK hI hP hS ⟨Nat.le_of_ble_eq_true rfl, Nat.le_of_ble_eq_true rfl⟩ dL_stall_20
set_option maxRecDepth 100000 in
theorem mL_stall_ES {l : Launch} {D : va_G} {ct : Nat → ClassId} {cL : ClassId} {ad : Nat → Nat} {fr lo : Nat} {a1 : Int32} {a2 : Int32} {a3 : Int32} {a4 : Int32} {ce ce' : Nat → va_E} {fs : List Value} {v : Int64} (h0 : ce 0 = .inr (5, fs)) (hfr : fr ≤ 11) (hlo : lo ≤ 400) (hM : TMet l yX5_stall cX5_stall 5 (some .int) fr lo D ct 198 ad [.ref (ad 0), .int a1, .int a2, .int a3, .int a4] ce ES ce') : OMet l yL_stall cL_stall 7 [(0, 14, 17, 13), (0, 14, 21, 15)] D ct cL ad [.ref (ad 0), .int a1, .int a2, .int a3, .int a4, .ref (ad 198)] ce v 2 ce' v := by
  refine OMet.of (by decide +kernel) (Nat.le_of_ble_eq_true rfl) ?_
  intro p e s m args below meth c ls hx hb hr hml hown hlocks htg hK hI hP hS hl htab hE hlE
  have hl : lv_has ls 7 [(0, .ref (ad 0)), (1, .int a1), (2, .int a2), (3, .int a3), (4, .int a4), (5, .ref (ad 198))] := hl
  refine lv_aload hx hb dL_stall_0 (lv_at hl 5 rfl) ?_
  refine lv_iconst (v := 0) hx hb dL_stall_2 rfl ?_
  refine lv_aload_n hx hb dL_stall_3 rfl (lv_at hl 0 rfl) ?_
  refine lv_iload_n hx hb dL_stall_4 rfl (lv_at hl 1 rfl) ?_
  refine lv_iload_n hx hb dL_stall_5 rfl (lv_at hl 2 rfl) ?_
  refine lv_iload_n hx hb dL_stall_6 rfl (lv_at hl 3 rfl) ?_
  refine lv_iload hx hb dL_stall_7 (lv_at hl 4 rfl) ?_
  refine oc_T (As := [.int a1, .int a2, .int a3, .int a4]) (rest := [.int 0, .ref (ad 198)]) (pre := tableOf [(0, 14, 17, 13)]) (x := ⟨0, 14, 21, 15⟩) (suf := tableOf []) hx hb hml hown htg hK hI hP hS hl.1 hE htab (fun z hz => by cases List.mem_singleton.mp hz; exact ⟨by decide, _, kc_L_13, hlE.2.2⟩) (by decide) (by decide) kc_L_15 (by decide) hM cw_L_7 h0 rfl rfl ⟨Nat.succ_le_succ hfr, by show 8 + (5 + 11) + lo ≤ 480; omega⟩ (Nat.le_of_ble_eq_true rfl) dL_stall_9 ⟨Nat.le_of_ble_eq_true rfl, Nat.le_of_ble_eq_true rfl⟩ (fun q H locs hP hS => ?_)
  refine lv_astore (lv' := (6, .ref q) :: [(0, .ref (ad 0)), (1, .int a1), (2, .int a2), (3, .int a3), (4, .int a4), (5, .ref (ad 198))]) hx hb dL_stall_21 hl (by decide) rfl (fun ls hl => ?_)
  refine lv_iconst (v := 2) hx hb dL_stall_23 rfl ?_
  exact oc_ret hx hb hr hlocks hK hI hP hS ⟨Nat.le_of_ble_eq_true rfl, Nat.le_of_ble_eq_true rfl⟩ dL_stall_24
set_option maxRecDepth 100000 in
theorem mL_plug {l : Launch} {D : va_G} {ct : Nat → ClassId} {cL : ClassId} {ad : Nat → Nat} {fr lo : Nat} {a1 : Int32} {a2 : Int32} {ce ce' : Nat → va_E} {fs : List Value} {v : Int64} {r : Int32} (h0 : ce 0 = .inr (5, fs)) (hfr : fr ≤ 11) (hlo : lo ≤ 400) (hM : GMet l yX5_plug cX5_plug 3 (some .int) fr lo D ct 198 ad [.ref (ad 0), .int a1, .int a2] ce (some (.int r)) ce') : OMet l yL_plug cL_plug 5 [(0, 10, 13, 21), (0, 10, 17, 13), (0, 10, 21, 15)] D ct cL ad [.ref (ad 0), .int a1, .int a2, .ref (ad 198)] ce v 0 ce' r.toInt64 := by
  refine OMet.of (by decide +kernel) (Nat.le_of_ble_eq_true rfl) ?_
  intro p e s m args below meth c ls hx hb hr hml hown hlocks htg hK hI hP hS hl htab hE hlE
  have hl : lv_has ls 5 [(0, .ref (ad 0)), (1, .int a1), (2, .int a2), (3, .ref (ad 198))] := hl
  refine lv_aload_n hx hb dL_plug_0 rfl (lv_at hl 3 rfl) ?_
  refine lv_iconst (v := 0) hx hb dL_plug_1 rfl ?_
  refine lv_aload_n hx hb dL_plug_2 rfl (lv_at hl 0 rfl) ?_
  refine lv_iload_n hx hb dL_plug_3 rfl (lv_at hl 1 rfl) ?_
  refine lv_iload_n hx hb dL_plug_4 rfl (lv_at hl 2 rfl) ?_
  refine oc_V (As := [.int a1, .int a2]) (rest := [.int 0, .ref (ad 198)]) hx hb hml hown htg hK hI hP hS hl.1 hE hM cw_L_17 h0 rfl rfl ⟨Nat.succ_le_succ hfr, by show 8 + (3 + 11) + lo ≤ 480; omega⟩ (Nat.le_of_ble_eq_true rfl) dL_plug_5 ⟨Nat.le_of_ble_eq_true rfl, Nat.le_of_ble_eq_true rfl⟩ (fun H locs hP hS => ?_)
  refine lv_i2l (v := r.toInt64) hx hb dL_plug_8 rfl ?_
  refine oc_out hx hb hK hI hP hS dL_plug_9 (fun H locs hP hS => ?_)
  refine lv_goto (tgt := 25) hx hb dL_plug_10 rfl ?_
  refine lv_iconst (v := 0) hx hb dL_plug_25 rfl ?_
  exact oc_ret hx hb hr hlocks hK hI hP hS ⟨Nat.le_of_ble_eq_true rfl, Nat.le_of_ble_eq_true rfl⟩ dL_plug_26
set_option maxRecDepth 100000 in
theorem mL_plug_EI {l : Launch} {D : va_G} {ct : Nat → ClassId} {cL : ClassId} {ad : Nat → Nat} {fr lo : Nat} {a1 : Int32} {a2 : Int32} {ce ce' : Nat → va_E} {fs : List Value} {v : Int64} (h0 : ce 0 = .inr (5, fs)) (hfr : fr ≤ 11) (hlo : lo ≤ 400) (hM : TMet l yX5_plug cX5_plug 3 (some .int) fr lo D ct 198 ad [.ref (ad 0), .int a1, .int a2] ce EI ce') : OMet l yL_plug cL_plug 5 [(0, 10, 13, 21), (0, 10, 17, 13), (0, 10, 21, 15)] D ct cL ad [.ref (ad 0), .int a1, .int a2, .ref (ad 198)] ce v 1 ce' v := by
  refine OMet.of (by decide +kernel) (Nat.le_of_ble_eq_true rfl) ?_
  intro p e s m args below meth c ls hx hb hr hml hown hlocks htg hK hI hP hS hl htab hE hlE
  have hl : lv_has ls 5 [(0, .ref (ad 0)), (1, .int a1), (2, .int a2), (3, .ref (ad 198))] := hl
  refine lv_aload_n hx hb dL_plug_0 rfl (lv_at hl 3 rfl) ?_
  refine lv_iconst (v := 0) hx hb dL_plug_1 rfl ?_
  refine lv_aload_n hx hb dL_plug_2 rfl (lv_at hl 0 rfl) ?_
  refine lv_iload_n hx hb dL_plug_3 rfl (lv_at hl 1 rfl) ?_
  refine lv_iload_n hx hb dL_plug_4 rfl (lv_at hl 2 rfl) ?_
  refine oc_T (As := [.int a1, .int a2]) (rest := [.int 0, .ref (ad 198)]) (pre := tableOf []) (x := ⟨0, 10, 13, 21⟩) (suf := tableOf [(0, 10, 17, 13), (0, 10, 21, 15)]) hx hb hml hown htg hK hI hP hS hl.1 hE htab (fun z hz => absurd hz List.not_mem_nil) (by decide) (by decide) kc_L_21 (by decide) hM cw_L_17 h0 rfl rfl ⟨Nat.succ_le_succ hfr, by show 8 + (3 + 11) + lo ≤ 480; omega⟩ (Nat.le_of_ble_eq_true rfl) dL_plug_5 ⟨Nat.le_of_ble_eq_true rfl, Nat.le_of_ble_eq_true rfl⟩ (fun q H locs hP hS => ?_)
  refine lv_astore (lv' := (4, .ref q) :: [(0, .ref (ad 0)), (1, .int a1), (2, .int a2), (3, .ref (ad 198))]) hx hb dL_plug_13 hl (by decide) rfl (fun ls hl => ?_)
  refine lv_iconst (v := 1) hx hb dL_plug_15 rfl ?_
  exact oc_ret hx hb hr hlocks hK hI hP hS ⟨Nat.le_of_ble_eq_true rfl, Nat.le_of_ble_eq_true rfl⟩ dL_plug_16
set_option maxRecDepth 100000 in
theorem mL_plug_EA {l : Launch} {D : va_G} {ct : Nat → ClassId} {cL : ClassId} {ad : Nat → Nat} {fr lo : Nat} {a1 : Int32} {a2 : Int32} {ce ce' : Nat → va_E} {fs : List Value} {v : Int64} (h0 : ce 0 = .inr (5, fs)) (hfr : fr ≤ 11) (hlo : lo ≤ 400) (hM : TMet l yX5_plug cX5_plug 3 (some .int) fr lo D ct 198 ad [.ref (ad 0), .int a1, .int a2] ce EA ce') : OMet l yL_plug cL_plug 5 [(0, 10, 13, 21), (0, 10, 17, 13), (0, 10, 21, 15)] D ct cL ad [.ref (ad 0), .int a1, .int a2, .ref (ad 198)] ce v 2 ce' v := by
  refine OMet.of (by decide +kernel) (Nat.le_of_ble_eq_true rfl) ?_
  intro p e s m args below meth c ls hx hb hr hml hown hlocks htg hK hI hP hS hl htab hE hlE
  have hl : lv_has ls 5 [(0, .ref (ad 0)), (1, .int a1), (2, .int a2), (3, .ref (ad 198))] := hl
  refine lv_aload_n hx hb dL_plug_0 rfl (lv_at hl 3 rfl) ?_
  refine lv_iconst (v := 0) hx hb dL_plug_1 rfl ?_
  refine lv_aload_n hx hb dL_plug_2 rfl (lv_at hl 0 rfl) ?_
  refine lv_iload_n hx hb dL_plug_3 rfl (lv_at hl 1 rfl) ?_
  refine lv_iload_n hx hb dL_plug_4 rfl (lv_at hl 2 rfl) ?_
  refine oc_T (As := [.int a1, .int a2]) (rest := [.int 0, .ref (ad 198)]) (pre := tableOf [(0, 10, 13, 21)]) (x := ⟨0, 10, 17, 13⟩) (suf := tableOf [(0, 10, 21, 15)]) hx hb hml hown htg hK hI hP hS hl.1 hE htab (fun z hz => by cases List.mem_singleton.mp hz; exact ⟨by decide, _, kc_L_21, hlE.1⟩) (by decide) (by decide) kc_L_13 (by decide) hM cw_L_17 h0 rfl rfl ⟨Nat.succ_le_succ hfr, by show 8 + (3 + 11) + lo ≤ 480; omega⟩ (Nat.le_of_ble_eq_true rfl) dL_plug_5 ⟨Nat.le_of_ble_eq_true rfl, Nat.le_of_ble_eq_true rfl⟩ (fun q H locs hP hS => ?_)
  refine lv_astore (lv' := (4, .ref q) :: [(0, .ref (ad 0)), (1, .int a1), (2, .int a2), (3, .ref (ad 198))]) hx hb dL_plug_17 hl (by decide) rfl (fun ls hl => ?_)
  refine lv_iconst (v := 2) hx hb dL_plug_19 rfl ?_
  exact oc_ret hx hb hr hlocks hK hI hP hS ⟨Nat.le_of_ble_eq_true rfl, Nat.le_of_ble_eq_true rfl⟩ dL_plug_20
set_option maxRecDepth 100000 in
theorem mL_plug_ES {l : Launch} {D : va_G} {ct : Nat → ClassId} {cL : ClassId} {ad : Nat → Nat} {fr lo : Nat} {a1 : Int32} {a2 : Int32} {ce ce' : Nat → va_E} {fs : List Value} {v : Int64} (h0 : ce 0 = .inr (5, fs)) (hfr : fr ≤ 11) (hlo : lo ≤ 400) (hM : TMet l yX5_plug cX5_plug 3 (some .int) fr lo D ct 198 ad [.ref (ad 0), .int a1, .int a2] ce ES ce') : OMet l yL_plug cL_plug 5 [(0, 10, 13, 21), (0, 10, 17, 13), (0, 10, 21, 15)] D ct cL ad [.ref (ad 0), .int a1, .int a2, .ref (ad 198)] ce v 3 ce' v := by
  refine OMet.of (by decide +kernel) (Nat.le_of_ble_eq_true rfl) ?_
  intro p e s m args below meth c ls hx hb hr hml hown hlocks htg hK hI hP hS hl htab hE hlE
  have hl : lv_has ls 5 [(0, .ref (ad 0)), (1, .int a1), (2, .int a2), (3, .ref (ad 198))] := hl
  refine lv_aload_n hx hb dL_plug_0 rfl (lv_at hl 3 rfl) ?_
  refine lv_iconst (v := 0) hx hb dL_plug_1 rfl ?_
  refine lv_aload_n hx hb dL_plug_2 rfl (lv_at hl 0 rfl) ?_
  refine lv_iload_n hx hb dL_plug_3 rfl (lv_at hl 1 rfl) ?_
  refine lv_iload_n hx hb dL_plug_4 rfl (lv_at hl 2 rfl) ?_
  refine oc_T (As := [.int a1, .int a2]) (rest := [.int 0, .ref (ad 198)]) (pre := tableOf [(0, 10, 13, 21), (0, 10, 17, 13)]) (x := ⟨0, 10, 21, 15⟩) (suf := tableOf []) hx hb hml hown htg hK hI hP hS hl.1 hE htab (fun z hz => by rcases List.mem_cons.mp hz with rfl | hz; exact ⟨by decide, _, kc_L_21, hlE.2.1⟩; cases List.mem_singleton.mp hz; exact ⟨by decide, _, kc_L_13, hlE.2.2⟩) (by decide) (by decide) kc_L_15 (by decide) hM cw_L_17 h0 rfl rfl ⟨Nat.succ_le_succ hfr, by show 8 + (3 + 11) + lo ≤ 480; omega⟩ (Nat.le_of_ble_eq_true rfl) dL_plug_5 ⟨Nat.le_of_ble_eq_true rfl, Nat.le_of_ble_eq_true rfl⟩ (fun q H locs hP hS => ?_)
  refine lv_astore (lv' := (4, .ref q) :: [(0, .ref (ad 0)), (1, .int a1), (2, .int a2), (3, .ref (ad 198))]) hx hb dL_plug_21 hl (by decide) rfl (fun ls hl => ?_)
  refine lv_iconst (v := 3) hx hb dL_plug_23 rfl ?_
  exact oc_ret hx hb hr hlocks hK hI hP hS ⟨Nat.le_of_ble_eq_true rfl, Nat.le_of_ble_eq_true rfl⟩ dL_plug_24
set_option maxRecDepth 100000 in
theorem mL_pull {l : Launch} {D : va_G} {ct : Nat → ClassId} {cL : ClassId} {ad : Nat → Nat} {fr lo : Nat} {a1 : Int32} {ce ce' : Nat → va_E} {fs : List Value} {v : Int64} {r : Int32} (h0 : ce 0 = .inr (5, fs)) (hfr : fr ≤ 11) (hlo : lo ≤ 400) (hM : GMet l yX5_pull cX5_pull 2 (some .int) fr lo D ct 198 ad [.ref (ad 0), .int a1] ce (some (.int r)) ce') : OMet l yL_pull cL_pull 4 [(0, 9, 12, 21), (0, 9, 15, 15)] D ct cL ad [.ref (ad 0), .int a1, .ref (ad 198)] ce v 0 ce' r.toInt64 := by
  refine OMet.of (by decide +kernel) (Nat.le_of_ble_eq_true rfl) ?_
  intro p e s m args below meth c ls hx hb hr hml hown hlocks htg hK hI hP hS hl htab hE hlE
  have hl : lv_has ls 4 [(0, .ref (ad 0)), (1, .int a1), (2, .ref (ad 198))] := hl
  refine lv_aload_n hx hb dL_pull_0 rfl (lv_at hl 2 rfl) ?_
  refine lv_iconst (v := 0) hx hb dL_pull_1 rfl ?_
  refine lv_aload_n hx hb dL_pull_2 rfl (lv_at hl 0 rfl) ?_
  refine lv_iload_n hx hb dL_pull_3 rfl (lv_at hl 1 rfl) ?_
  refine oc_V (As := [.int a1]) (rest := [.int 0, .ref (ad 198)]) hx hb hml hown htg hK hI hP hS hl.1 hE hM cw_L_23 h0 rfl rfl ⟨Nat.succ_le_succ hfr, by show 8 + (2 + 11) + lo ≤ 480; omega⟩ (Nat.le_of_ble_eq_true rfl) dL_pull_4 ⟨Nat.le_of_ble_eq_true rfl, Nat.le_of_ble_eq_true rfl⟩ (fun H locs hP hS => ?_)
  refine lv_i2l (v := r.toInt64) hx hb dL_pull_7 rfl ?_
  refine oc_out hx hb hK hI hP hS dL_pull_8 (fun H locs hP hS => ?_)
  refine lv_goto (tgt := 18) hx hb dL_pull_9 rfl ?_
  refine lv_iconst (v := 0) hx hb dL_pull_18 rfl ?_
  exact oc_ret hx hb hr hlocks hK hI hP hS ⟨Nat.le_of_ble_eq_true rfl, Nat.le_of_ble_eq_true rfl⟩ dL_pull_19
set_option maxRecDepth 100000 in
theorem mL_pull_EI {l : Launch} {D : va_G} {ct : Nat → ClassId} {cL : ClassId} {ad : Nat → Nat} {fr lo : Nat} {a1 : Int32} {ce ce' : Nat → va_E} {fs : List Value} {v : Int64} (h0 : ce 0 = .inr (5, fs)) (hfr : fr ≤ 11) (hlo : lo ≤ 400) (hM : TMet l yX5_pull cX5_pull 2 (some .int) fr lo D ct 198 ad [.ref (ad 0), .int a1] ce EI ce') : OMet l yL_pull cL_pull 4 [(0, 9, 12, 21), (0, 9, 15, 15)] D ct cL ad [.ref (ad 0), .int a1, .ref (ad 198)] ce v 1 ce' v := by
  refine OMet.of (by decide +kernel) (Nat.le_of_ble_eq_true rfl) ?_
  intro p e s m args below meth c ls hx hb hr hml hown hlocks htg hK hI hP hS hl htab hE hlE
  have hl : lv_has ls 4 [(0, .ref (ad 0)), (1, .int a1), (2, .ref (ad 198))] := hl
  refine lv_aload_n hx hb dL_pull_0 rfl (lv_at hl 2 rfl) ?_
  refine lv_iconst (v := 0) hx hb dL_pull_1 rfl ?_
  refine lv_aload_n hx hb dL_pull_2 rfl (lv_at hl 0 rfl) ?_
  refine lv_iload_n hx hb dL_pull_3 rfl (lv_at hl 1 rfl) ?_
  refine oc_T (As := [.int a1]) (rest := [.int 0, .ref (ad 198)]) (pre := tableOf []) (x := ⟨0, 9, 12, 21⟩) (suf := tableOf [(0, 9, 15, 15)]) hx hb hml hown htg hK hI hP hS hl.1 hE htab (fun z hz => absurd hz List.not_mem_nil) (by decide) (by decide) kc_L_21 (by decide) hM cw_L_23 h0 rfl rfl ⟨Nat.succ_le_succ hfr, by show 8 + (2 + 11) + lo ≤ 480; omega⟩ (Nat.le_of_ble_eq_true rfl) dL_pull_4 ⟨Nat.le_of_ble_eq_true rfl, Nat.le_of_ble_eq_true rfl⟩ (fun q H locs hP hS => ?_)
  refine lv_astore_n (lv' := (3, .ref q) :: [(0, .ref (ad 0)), (1, .int a1), (2, .ref (ad 198))]) hx hb dL_pull_12 rfl hl (by decide) rfl (fun ls hl => ?_)
  refine lv_iconst (v := 1) hx hb dL_pull_13 rfl ?_
  exact oc_ret hx hb hr hlocks hK hI hP hS ⟨Nat.le_of_ble_eq_true rfl, Nat.le_of_ble_eq_true rfl⟩ dL_pull_14
set_option maxRecDepth 100000 in
theorem mL_pull_ES {l : Launch} {D : va_G} {ct : Nat → ClassId} {cL : ClassId} {ad : Nat → Nat} {fr lo : Nat} {a1 : Int32} {ce ce' : Nat → va_E} {fs : List Value} {v : Int64} (h0 : ce 0 = .inr (5, fs)) (hfr : fr ≤ 11) (hlo : lo ≤ 400) (hM : TMet l yX5_pull cX5_pull 2 (some .int) fr lo D ct 198 ad [.ref (ad 0), .int a1] ce ES ce') : OMet l yL_pull cL_pull 4 [(0, 9, 12, 21), (0, 9, 15, 15)] D ct cL ad [.ref (ad 0), .int a1, .ref (ad 198)] ce v 2 ce' v := by
  refine OMet.of (by decide +kernel) (Nat.le_of_ble_eq_true rfl) ?_
  intro p e s m args below meth c ls hx hb hr hml hown hlocks htg hK hI hP hS hl htab hE hlE
  have hl : lv_has ls 4 [(0, .ref (ad 0)), (1, .int a1), (2, .ref (ad 198))] := hl
  refine lv_aload_n hx hb dL_pull_0 rfl (lv_at hl 2 rfl) ?_
  refine lv_iconst (v := 0) hx hb dL_pull_1 rfl ?_
  refine lv_aload_n hx hb dL_pull_2 rfl (lv_at hl 0 rfl) ?_
  refine lv_iload_n hx hb dL_pull_3 rfl (lv_at hl 1 rfl) ?_
  refine oc_T (As := [.int a1]) (rest := [.int 0, .ref (ad 198)]) (pre := tableOf [(0, 9, 12, 21)]) (x := ⟨0, 9, 15, 15⟩) (suf := tableOf []) hx hb hml hown htg hK hI hP hS hl.1 hE htab (fun z hz => by cases List.mem_singleton.mp hz; exact ⟨by decide, _, kc_L_21, hlE.2.1⟩) (by decide) (by decide) kc_L_15 (by decide) hM cw_L_23 h0 rfl rfl ⟨Nat.succ_le_succ hfr, by show 8 + (2 + 11) + lo ≤ 480; omega⟩ (Nat.le_of_ble_eq_true rfl) dL_pull_4 ⟨Nat.le_of_ble_eq_true rfl, Nat.le_of_ble_eq_true rfl⟩ (fun q H locs hP hS => ?_)
  refine lv_astore_n (lv' := (3, .ref q) :: [(0, .ref (ad 0)), (1, .int a1), (2, .ref (ad 198))]) hx hb dL_pull_15 rfl hl (by decide) rfl (fun ls hl => ?_)
  refine lv_iconst (v := 2) hx hb dL_pull_16 rfl ?_
  exact oc_ret hx hb hr hlocks hK hI hP hS ⟨Nat.le_of_ble_eq_true rfl, Nat.le_of_ble_eq_true rfl⟩ dL_pull_17
set_option maxRecDepth 100000 in
theorem mL_shed {l : Launch} {D : va_G} {ct : Nat → ClassId} {cL : ClassId} {ad : Nat → Nat} {fr lo : Nat} {a1 : Int32} {ce ce' : Nat → va_E} {fs : List Value} {v : Int64} {r : Int32} (h0 : ce 0 = .inr (5, fs)) (hfr : fr ≤ 11) (hlo : lo ≤ 400) (hM : GMet l yX5_shed cX5_shed 3 (some .int) fr lo D ct 198 ad [.ref (ad 0), .int a1] ce (some (.int r)) ce') : OMet l yL_shed cL_shed 4 [(0, 9, 12, 21)] D ct cL ad [.ref (ad 0), .int a1, .ref (ad 198)] ce v 0 ce' r.toInt64 := by
  refine OMet.of (by decide +kernel) (Nat.le_of_ble_eq_true rfl) ?_
  intro p e s m args below meth c ls hx hb hr hml hown hlocks htg hK hI hP hS hl htab hE hlE
  have hl : lv_has ls 4 [(0, .ref (ad 0)), (1, .int a1), (2, .ref (ad 198))] := hl
  refine lv_aload_n hx hb dL_shed_0 rfl (lv_at hl 2 rfl) ?_
  refine lv_iconst (v := 0) hx hb dL_shed_1 rfl ?_
  refine lv_aload_n hx hb dL_shed_2 rfl (lv_at hl 0 rfl) ?_
  refine lv_iload_n hx hb dL_shed_3 rfl (lv_at hl 1 rfl) ?_
  refine oc_V (As := [.int a1]) (rest := [.int 0, .ref (ad 198)]) hx hb hml hown htg hK hI hP hS hl.1 hE hM cw_L_27 h0 rfl rfl ⟨Nat.succ_le_succ hfr, by show 8 + (3 + 11) + lo ≤ 480; omega⟩ (Nat.le_of_ble_eq_true rfl) dL_shed_4 ⟨Nat.le_of_ble_eq_true rfl, Nat.le_of_ble_eq_true rfl⟩ (fun H locs hP hS => ?_)
  refine lv_i2l (v := r.toInt64) hx hb dL_shed_7 rfl ?_
  refine oc_out hx hb hK hI hP hS dL_shed_8 (fun H locs hP hS => ?_)
  refine lv_goto (tgt := 15) hx hb dL_shed_9 rfl ?_
  refine lv_iconst (v := 0) hx hb dL_shed_15 rfl ?_
  exact oc_ret hx hb hr hlocks hK hI hP hS ⟨Nat.le_of_ble_eq_true rfl, Nat.le_of_ble_eq_true rfl⟩ dL_shed_16
set_option maxRecDepth 100000 in
theorem mL_shed_EI {l : Launch} {D : va_G} {ct : Nat → ClassId} {cL : ClassId} {ad : Nat → Nat} {fr lo : Nat} {a1 : Int32} {ce ce' : Nat → va_E} {fs : List Value} {v : Int64} (h0 : ce 0 = .inr (5, fs)) (hfr : fr ≤ 11) (hlo : lo ≤ 400) (hM : TMet l yX5_shed cX5_shed 3 (some .int) fr lo D ct 198 ad [.ref (ad 0), .int a1] ce EI ce') : OMet l yL_shed cL_shed 4 [(0, 9, 12, 21)] D ct cL ad [.ref (ad 0), .int a1, .ref (ad 198)] ce v 1 ce' v := by
  refine OMet.of (by decide +kernel) (Nat.le_of_ble_eq_true rfl) ?_
  intro p e s m args below meth c ls hx hb hr hml hown hlocks htg hK hI hP hS hl htab hE hlE
  have hl : lv_has ls 4 [(0, .ref (ad 0)), (1, .int a1), (2, .ref (ad 198))] := hl
  refine lv_aload_n hx hb dL_shed_0 rfl (lv_at hl 2 rfl) ?_
  refine lv_iconst (v := 0) hx hb dL_shed_1 rfl ?_
  refine lv_aload_n hx hb dL_shed_2 rfl (lv_at hl 0 rfl) ?_
  refine lv_iload_n hx hb dL_shed_3 rfl (lv_at hl 1 rfl) ?_
  refine oc_T (As := [.int a1]) (rest := [.int 0, .ref (ad 198)]) (pre := tableOf []) (x := ⟨0, 9, 12, 21⟩) (suf := tableOf []) hx hb hml hown htg hK hI hP hS hl.1 hE htab (fun z hz => absurd hz List.not_mem_nil) (by decide) (by decide) kc_L_21 (by decide) hM cw_L_27 h0 rfl rfl ⟨Nat.succ_le_succ hfr, by show 8 + (3 + 11) + lo ≤ 480; omega⟩ (Nat.le_of_ble_eq_true rfl) dL_shed_4 ⟨Nat.le_of_ble_eq_true rfl, Nat.le_of_ble_eq_true rfl⟩ (fun q H locs hP hS => ?_)
  refine lv_astore_n (lv' := (3, .ref q) :: [(0, .ref (ad 0)), (1, .int a1), (2, .ref (ad 198))]) hx hb dL_shed_12 rfl hl (by decide) rfl (fun ls hl => ?_)
  refine lv_iconst (v := 1) hx hb dL_shed_13 rfl ?_
  exact oc_ret hx hb hr hlocks hK hI hP hS ⟨Nat.le_of_ble_eq_true rfl, Nat.le_of_ble_eq_true rfl⟩ dL_shed_14
set_option maxRecDepth 100000 in
theorem mL_bound {l : Launch} {D : va_G} {ct : Nat → ClassId} {cL : ClassId} {ad : Nat → Nat} {fr lo : Nat} {a1 : Int32} {a2 : Int32} {ce ce' : Nat → va_E} {fs : List Value} {v : Int64} {r : Int32} (h0 : ce 0 = .inr (5, fs)) (hfr : fr ≤ 11) (hlo : lo ≤ 400) (hM : GMet l yX5_bound cX5_bound 5 (some .int) fr lo D ct 198 ad [.ref (ad 0), .int a1, .int a2] ce (some (.int r)) ce') : OMet l yL_bound cL_bound 5 [(0, 10, 13, 13)] D ct cL ad [.ref (ad 0), .int a1, .int a2, .ref (ad 198)] ce v 0 ce' r.toInt64 := by
  refine OMet.of (by decide +kernel) (Nat.le_of_ble_eq_true rfl) ?_
  intro p e s m args below meth c ls hx hb hr hml hown hlocks htg hK hI hP hS hl htab hE hlE
  have hl : lv_has ls 5 [(0, .ref (ad 0)), (1, .int a1), (2, .int a2), (3, .ref (ad 198))] := hl
  refine lv_aload_n hx hb dL_bound_0 rfl (lv_at hl 3 rfl) ?_
  refine lv_iconst (v := 0) hx hb dL_bound_1 rfl ?_
  refine lv_aload_n hx hb dL_bound_2 rfl (lv_at hl 0 rfl) ?_
  refine lv_iload_n hx hb dL_bound_3 rfl (lv_at hl 1 rfl) ?_
  refine lv_iload_n hx hb dL_bound_4 rfl (lv_at hl 2 rfl) ?_
  refine oc_V (As := [.int a1, .int a2]) (rest := [.int 0, .ref (ad 198)]) hx hb hml hown htg hK hI hP hS hl.1 hE hM cw_L_30 h0 rfl rfl ⟨Nat.succ_le_succ hfr, by show 8 + (5 + 11) + lo ≤ 480; omega⟩ (Nat.le_of_ble_eq_true rfl) dL_bound_5 ⟨Nat.le_of_ble_eq_true rfl, Nat.le_of_ble_eq_true rfl⟩ (fun H locs hP hS => ?_)
  refine lv_i2l (v := r.toInt64) hx hb dL_bound_8 rfl ?_
  refine oc_out hx hb hK hI hP hS dL_bound_9 (fun H locs hP hS => ?_)
  refine lv_goto (tgt := 17) hx hb dL_bound_10 rfl ?_
  refine lv_iconst (v := 0) hx hb dL_bound_17 rfl ?_
  exact oc_ret hx hb hr hlocks hK hI hP hS ⟨Nat.le_of_ble_eq_true rfl, Nat.le_of_ble_eq_true rfl⟩ dL_bound_18
set_option maxRecDepth 100000 in
theorem mL_bound_EA {l : Launch} {D : va_G} {ct : Nat → ClassId} {cL : ClassId} {ad : Nat → Nat} {fr lo : Nat} {a1 : Int32} {a2 : Int32} {ce ce' : Nat → va_E} {fs : List Value} {v : Int64} (h0 : ce 0 = .inr (5, fs)) (hfr : fr ≤ 11) (hlo : lo ≤ 400) (hM : TMet l yX5_bound cX5_bound 5 (some .int) fr lo D ct 198 ad [.ref (ad 0), .int a1, .int a2] ce EA ce') : OMet l yL_bound cL_bound 5 [(0, 10, 13, 13)] D ct cL ad [.ref (ad 0), .int a1, .int a2, .ref (ad 198)] ce v 1 ce' v := by
  refine OMet.of (by decide +kernel) (Nat.le_of_ble_eq_true rfl) ?_
  intro p e s m args below meth c ls hx hb hr hml hown hlocks htg hK hI hP hS hl htab hE hlE
  have hl : lv_has ls 5 [(0, .ref (ad 0)), (1, .int a1), (2, .int a2), (3, .ref (ad 198))] := hl
  refine lv_aload_n hx hb dL_bound_0 rfl (lv_at hl 3 rfl) ?_
  refine lv_iconst (v := 0) hx hb dL_bound_1 rfl ?_
  refine lv_aload_n hx hb dL_bound_2 rfl (lv_at hl 0 rfl) ?_
  refine lv_iload_n hx hb dL_bound_3 rfl (lv_at hl 1 rfl) ?_
  refine lv_iload_n hx hb dL_bound_4 rfl (lv_at hl 2 rfl) ?_
  refine oc_T (As := [.int a1, .int a2]) (rest := [.int 0, .ref (ad 198)]) (pre := tableOf []) (x := ⟨0, 10, 13, 13⟩) (suf := tableOf []) hx hb hml hown htg hK hI hP hS hl.1 hE htab (fun z hz => absurd hz List.not_mem_nil) (by decide) (by decide) kc_L_13 (by decide) hM cw_L_30 h0 rfl rfl ⟨Nat.succ_le_succ hfr, by show 8 + (5 + 11) + lo ≤ 480; omega⟩ (Nat.le_of_ble_eq_true rfl) dL_bound_5 ⟨Nat.le_of_ble_eq_true rfl, Nat.le_of_ble_eq_true rfl⟩ (fun q H locs hP hS => ?_)
  refine lv_astore (lv' := (4, .ref q) :: [(0, .ref (ad 0)), (1, .int a1), (2, .int a2), (3, .ref (ad 198))]) hx hb dL_bound_13 hl (by decide) rfl (fun ls hl => ?_)
  refine lv_iconst (v := 1) hx hb dL_bound_15 rfl ?_
  exact oc_ret hx hb hr hlocks hK hI hP hS ⟨Nat.le_of_ble_eq_true rfl, Nat.le_of_ble_eq_true rfl⟩ dL_bound_16
set_option maxRecDepth 100000 in
theorem mL_reset {l : Launch} {D : va_G} {ct : Nat → ClassId} {cL : ClassId} {ad : Nat → Nat} {fr lo : Nat} {a1 : Int32} {ce ce' : Nat → va_E} {fs : List Value} {v : Int64} {r : Int32} (h0 : ce 0 = .inr (5, fs)) (hfr : fr ≤ 11) (hlo : lo ≤ 400) (hM : GMet l yX5_reset cX5_reset 2 (some .int) fr lo D ct 198 ad [.ref (ad 0), .int a1] ce (some (.int r)) ce') : OMet l yL_reset cL_reset 4 [(0, 9, 12, 13), (0, 9, 15, 15)] D ct cL ad [.ref (ad 0), .int a1, .ref (ad 198)] ce v 0 ce' r.toInt64 := by
  refine OMet.of (by decide +kernel) (Nat.le_of_ble_eq_true rfl) ?_
  intro p e s m args below meth c ls hx hb hr hml hown hlocks htg hK hI hP hS hl htab hE hlE
  have hl : lv_has ls 4 [(0, .ref (ad 0)), (1, .int a1), (2, .ref (ad 198))] := hl
  refine lv_aload_n hx hb dL_reset_0 rfl (lv_at hl 2 rfl) ?_
  refine lv_iconst (v := 0) hx hb dL_reset_1 rfl ?_
  refine lv_aload_n hx hb dL_reset_2 rfl (lv_at hl 0 rfl) ?_
  refine lv_iload_n hx hb dL_reset_3 rfl (lv_at hl 1 rfl) ?_
  refine oc_V (As := [.int a1]) (rest := [.int 0, .ref (ad 198)]) hx hb hml hown htg hK hI hP hS hl.1 hE hM cw_L_33 h0 rfl rfl ⟨Nat.succ_le_succ hfr, by show 8 + (2 + 11) + lo ≤ 480; omega⟩ (Nat.le_of_ble_eq_true rfl) dL_reset_4 ⟨Nat.le_of_ble_eq_true rfl, Nat.le_of_ble_eq_true rfl⟩ (fun H locs hP hS => ?_)
  refine lv_i2l (v := r.toInt64) hx hb dL_reset_7 rfl ?_
  refine oc_out hx hb hK hI hP hS dL_reset_8 (fun H locs hP hS => ?_)
  refine lv_goto (tgt := 18) hx hb dL_reset_9 rfl ?_
  refine lv_iconst (v := 0) hx hb dL_reset_18 rfl ?_
  exact oc_ret hx hb hr hlocks hK hI hP hS ⟨Nat.le_of_ble_eq_true rfl, Nat.le_of_ble_eq_true rfl⟩ dL_reset_19
set_option maxRecDepth 100000 in
theorem mL_reset_EA {l : Launch} {D : va_G} {ct : Nat → ClassId} {cL : ClassId} {ad : Nat → Nat} {fr lo : Nat} {a1 : Int32} {ce ce' : Nat → va_E} {fs : List Value} {v : Int64} (h0 : ce 0 = .inr (5, fs)) (hfr : fr ≤ 11) (hlo : lo ≤ 400) (hM : TMet l yX5_reset cX5_reset 2 (some .int) fr lo D ct 198 ad [.ref (ad 0), .int a1] ce EA ce') : OMet l yL_reset cL_reset 4 [(0, 9, 12, 13), (0, 9, 15, 15)] D ct cL ad [.ref (ad 0), .int a1, .ref (ad 198)] ce v 1 ce' v := by
  refine OMet.of (by decide +kernel) (Nat.le_of_ble_eq_true rfl) ?_
  intro p e s m args below meth c ls hx hb hr hml hown hlocks htg hK hI hP hS hl htab hE hlE
  have hl : lv_has ls 4 [(0, .ref (ad 0)), (1, .int a1), (2, .ref (ad 198))] := hl
  refine lv_aload_n hx hb dL_reset_0 rfl (lv_at hl 2 rfl) ?_
  refine lv_iconst (v := 0) hx hb dL_reset_1 rfl ?_
  refine lv_aload_n hx hb dL_reset_2 rfl (lv_at hl 0 rfl) ?_
  refine lv_iload_n hx hb dL_reset_3 rfl (lv_at hl 1 rfl) ?_
  refine oc_T (As := [.int a1]) (rest := [.int 0, .ref (ad 198)]) (pre := tableOf []) (x := ⟨0, 9, 12, 13⟩) (suf := tableOf [(0, 9, 15, 15)]) hx hb hml hown htg hK hI hP hS hl.1 hE htab (fun z hz => absurd hz List.not_mem_nil) (by decide) (by decide) kc_L_13 (by decide) hM cw_L_33 h0 rfl rfl ⟨Nat.succ_le_succ hfr, by show 8 + (2 + 11) + lo ≤ 480; omega⟩ (Nat.le_of_ble_eq_true rfl) dL_reset_4 ⟨Nat.le_of_ble_eq_true rfl, Nat.le_of_ble_eq_true rfl⟩ (fun q H locs hP hS => ?_)
  refine lv_astore_n (lv' := (3, .ref q) :: [(0, .ref (ad 0)), (1, .int a1), (2, .ref (ad 198))]) hx hb dL_reset_12 rfl hl (by decide) rfl (fun ls hl => ?_)
  refine lv_iconst (v := 1) hx hb dL_reset_13 rfl ?_
  exact oc_ret hx hb hr hlocks hK hI hP hS ⟨Nat.le_of_ble_eq_true rfl, Nat.le_of_ble_eq_true rfl⟩ dL_reset_14
set_option maxRecDepth 100000 in
theorem mL_reset_ES {l : Launch} {D : va_G} {ct : Nat → ClassId} {cL : ClassId} {ad : Nat → Nat} {fr lo : Nat} {a1 : Int32} {ce ce' : Nat → va_E} {fs : List Value} {v : Int64} (h0 : ce 0 = .inr (5, fs)) (hfr : fr ≤ 11) (hlo : lo ≤ 400) (hM : TMet l yX5_reset cX5_reset 2 (some .int) fr lo D ct 198 ad [.ref (ad 0), .int a1] ce ES ce') : OMet l yL_reset cL_reset 4 [(0, 9, 12, 13), (0, 9, 15, 15)] D ct cL ad [.ref (ad 0), .int a1, .ref (ad 198)] ce v 2 ce' v := by
  refine OMet.of (by decide +kernel) (Nat.le_of_ble_eq_true rfl) ?_
  intro p e s m args below meth c ls hx hb hr hml hown hlocks htg hK hI hP hS hl htab hE hlE
  have hl : lv_has ls 4 [(0, .ref (ad 0)), (1, .int a1), (2, .ref (ad 198))] := hl
  refine lv_aload_n hx hb dL_reset_0 rfl (lv_at hl 2 rfl) ?_
  refine lv_iconst (v := 0) hx hb dL_reset_1 rfl ?_
  refine lv_aload_n hx hb dL_reset_2 rfl (lv_at hl 0 rfl) ?_
  refine lv_iload_n hx hb dL_reset_3 rfl (lv_at hl 1 rfl) ?_
  refine oc_T (As := [.int a1]) (rest := [.int 0, .ref (ad 198)]) (pre := tableOf [(0, 9, 12, 13)]) (x := ⟨0, 9, 15, 15⟩) (suf := tableOf []) hx hb hml hown htg hK hI hP hS hl.1 hE htab (fun z hz => by cases List.mem_singleton.mp hz; exact ⟨by decide, _, kc_L_13, hlE.2.2⟩) (by decide) (by decide) kc_L_15 (by decide) hM cw_L_33 h0 rfl rfl ⟨Nat.succ_le_succ hfr, by show 8 + (2 + 11) + lo ≤ 480; omega⟩ (Nat.le_of_ble_eq_true rfl) dL_reset_4 ⟨Nat.le_of_ble_eq_true rfl, Nat.le_of_ble_eq_true rfl⟩ (fun q H locs hP hS => ?_)
  refine lv_astore_n (lv' := (3, .ref q) :: [(0, .ref (ad 0)), (1, .int a1), (2, .ref (ad 198))]) hx hb dL_reset_15 rfl hl (by decide) rfl (fun ls hl => ?_)
  refine lv_iconst (v := 2) hx hb dL_reset_16 rfl ?_
  exact oc_ret hx hb hr hlocks hK hI hP hS ⟨Nat.le_of_ble_eq_true rfl, Nat.le_of_ble_eq_true rfl⟩ dL_reset_17
set_option maxRecDepth 100000 in
theorem mL_over {l : Launch} {D : va_G} {ct : Nat → ClassId} {cL : ClassId} {ad : Nat → Nat} {fr lo : Nat} {a1 : Int32} {ce ce' : Nat → va_E} {fs : List Value} {v : Int64} {r : Int32} (h0 : ce 0 = .inr (5, fs)) (hfr : fr ≤ 11) (hlo : lo ≤ 400) (hM : GMet l yX5_over cX5_over 2 (some .int) fr lo D ct 198 ad [.ref (ad 0), .int a1] ce (some (.int r)) ce') : OMet l yL_over cL_over 4 [(0, 9, 12, 13)] D ct cL ad [.ref (ad 0), .int a1, .ref (ad 198)] ce v 0 ce' r.toInt64 := by
  refine OMet.of (by decide +kernel) (Nat.le_of_ble_eq_true rfl) ?_
  intro p e s m args below meth c ls hx hb hr hml hown hlocks htg hK hI hP hS hl htab hE hlE
  have hl : lv_has ls 4 [(0, .ref (ad 0)), (1, .int a1), (2, .ref (ad 198))] := hl
  refine lv_aload_n hx hb dL_over_0 rfl (lv_at hl 2 rfl) ?_
  refine lv_iconst (v := 0) hx hb dL_over_1 rfl ?_
  refine lv_aload_n hx hb dL_over_2 rfl (lv_at hl 0 rfl) ?_
  refine lv_iload_n hx hb dL_over_3 rfl (lv_at hl 1 rfl) ?_
  refine oc_V (As := [.int a1]) (rest := [.int 0, .ref (ad 198)]) hx hb hml hown htg hK hI hP hS hl.1 hE hM cw_L_36 h0 rfl rfl ⟨Nat.succ_le_succ hfr, by show 8 + (2 + 11) + lo ≤ 480; omega⟩ (Nat.le_of_ble_eq_true rfl) dL_over_4 ⟨Nat.le_of_ble_eq_true rfl, Nat.le_of_ble_eq_true rfl⟩ (fun H locs hP hS => ?_)
  refine lv_i2l (v := r.toInt64) hx hb dL_over_7 rfl ?_
  refine oc_out hx hb hK hI hP hS dL_over_8 (fun H locs hP hS => ?_)
  refine lv_goto (tgt := 15) hx hb dL_over_9 rfl ?_
  refine lv_iconst (v := 0) hx hb dL_over_15 rfl ?_
  exact oc_ret hx hb hr hlocks hK hI hP hS ⟨Nat.le_of_ble_eq_true rfl, Nat.le_of_ble_eq_true rfl⟩ dL_over_16
set_option maxRecDepth 100000 in
theorem mL_over_EA {l : Launch} {D : va_G} {ct : Nat → ClassId} {cL : ClassId} {ad : Nat → Nat} {fr lo : Nat} {a1 : Int32} {ce ce' : Nat → va_E} {fs : List Value} {v : Int64} (h0 : ce 0 = .inr (5, fs)) (hfr : fr ≤ 11) (hlo : lo ≤ 400) (hM : TMet l yX5_over cX5_over 2 (some .int) fr lo D ct 198 ad [.ref (ad 0), .int a1] ce EA ce') : OMet l yL_over cL_over 4 [(0, 9, 12, 13)] D ct cL ad [.ref (ad 0), .int a1, .ref (ad 198)] ce v 1 ce' v := by
  refine OMet.of (by decide +kernel) (Nat.le_of_ble_eq_true rfl) ?_
  intro p e s m args below meth c ls hx hb hr hml hown hlocks htg hK hI hP hS hl htab hE hlE
  have hl : lv_has ls 4 [(0, .ref (ad 0)), (1, .int a1), (2, .ref (ad 198))] := hl
  refine lv_aload_n hx hb dL_over_0 rfl (lv_at hl 2 rfl) ?_
  refine lv_iconst (v := 0) hx hb dL_over_1 rfl ?_
  refine lv_aload_n hx hb dL_over_2 rfl (lv_at hl 0 rfl) ?_
  refine lv_iload_n hx hb dL_over_3 rfl (lv_at hl 1 rfl) ?_
  refine oc_T (As := [.int a1]) (rest := [.int 0, .ref (ad 198)]) (pre := tableOf []) (x := ⟨0, 9, 12, 13⟩) (suf := tableOf []) hx hb hml hown htg hK hI hP hS hl.1 hE htab (fun z hz => absurd hz List.not_mem_nil) (by decide) (by decide) kc_L_13 (by decide) hM cw_L_36 h0 rfl rfl ⟨Nat.succ_le_succ hfr, by show 8 + (2 + 11) + lo ≤ 480; omega⟩ (Nat.le_of_ble_eq_true rfl) dL_over_4 ⟨Nat.le_of_ble_eq_true rfl, Nat.le_of_ble_eq_true rfl⟩ (fun q H locs hP hS => ?_)
  refine lv_astore_n (lv' := (3, .ref q) :: [(0, .ref (ad 0)), (1, .int a1), (2, .ref (ad 198))]) hx hb dL_over_12 rfl hl (by decide) rfl (fun ls hl => ?_)
  refine lv_iconst (v := 1) hx hb dL_over_13 rfl ?_
  exact oc_ret hx hb hr hlocks hK hI hP hS ⟨Nat.le_of_ble_eq_true rfl, Nat.le_of_ble_eq_true rfl⟩ dL_over_14
set_option maxRecDepth 100000 in
theorem mL_pass {l : Launch} {D : va_G} {ct : Nat → ClassId} {cL : ClassId} {ad : Nat → Nat} {fr lo : Nat} {a1 : Int32} {ce ce' : Nat → va_E} {fs : List Value} {v : Int64} {r : Int32} (h0 : ce 0 = .inr (5, fs)) (hfr : fr ≤ 11) (hlo : lo ≤ 400) (hM : GMet l yX5_pass cX5_pass 3 (some .int) fr lo D ct 198 ad [.ref (ad 0), .int a1] ce (some (.int r)) ce') : OMet l yL_pass cL_pass 4 [(0, 9, 12, 13), (0, 9, 15, 15)] D ct cL ad [.ref (ad 0), .int a1, .ref (ad 198)] ce v 0 ce' r.toInt64 := by
  refine OMet.of (by decide +kernel) (Nat.le_of_ble_eq_true rfl) ?_
  intro p e s m args below meth c ls hx hb hr hml hown hlocks htg hK hI hP hS hl htab hE hlE
  have hl : lv_has ls 4 [(0, .ref (ad 0)), (1, .int a1), (2, .ref (ad 198))] := hl
  refine lv_aload_n hx hb dL_pass_0 rfl (lv_at hl 2 rfl) ?_
  refine lv_iconst (v := 0) hx hb dL_pass_1 rfl ?_
  refine lv_aload_n hx hb dL_pass_2 rfl (lv_at hl 0 rfl) ?_
  refine lv_iload_n hx hb dL_pass_3 rfl (lv_at hl 1 rfl) ?_
  refine oc_V (As := [.int a1]) (rest := [.int 0, .ref (ad 198)]) hx hb hml hown htg hK hI hP hS hl.1 hE hM cw_L_39 h0 rfl rfl ⟨Nat.succ_le_succ hfr, by show 8 + (3 + 11) + lo ≤ 480; omega⟩ (Nat.le_of_ble_eq_true rfl) dL_pass_4 ⟨Nat.le_of_ble_eq_true rfl, Nat.le_of_ble_eq_true rfl⟩ (fun H locs hP hS => ?_)
  refine lv_i2l (v := r.toInt64) hx hb dL_pass_7 rfl ?_
  refine oc_out hx hb hK hI hP hS dL_pass_8 (fun H locs hP hS => ?_)
  refine lv_goto (tgt := 18) hx hb dL_pass_9 rfl ?_
  refine lv_iconst (v := 0) hx hb dL_pass_18 rfl ?_
  exact oc_ret hx hb hr hlocks hK hI hP hS ⟨Nat.le_of_ble_eq_true rfl, Nat.le_of_ble_eq_true rfl⟩ dL_pass_19
set_option maxRecDepth 100000 in
theorem mL_pass_EA {l : Launch} {D : va_G} {ct : Nat → ClassId} {cL : ClassId} {ad : Nat → Nat} {fr lo : Nat} {a1 : Int32} {ce ce' : Nat → va_E} {fs : List Value} {v : Int64} (h0 : ce 0 = .inr (5, fs)) (hfr : fr ≤ 11) (hlo : lo ≤ 400) (hM : TMet l yX5_pass cX5_pass 3 (some .int) fr lo D ct 198 ad [.ref (ad 0), .int a1] ce EA ce') : OMet l yL_pass cL_pass 4 [(0, 9, 12, 13), (0, 9, 15, 15)] D ct cL ad [.ref (ad 0), .int a1, .ref (ad 198)] ce v 1 ce' v := by
  refine OMet.of (by decide +kernel) (Nat.le_of_ble_eq_true rfl) ?_
  intro p e s m args below meth c ls hx hb hr hml hown hlocks htg hK hI hP hS hl htab hE hlE
  have hl : lv_has ls 4 [(0, .ref (ad 0)), (1, .int a1), (2, .ref (ad 198))] := hl
  refine lv_aload_n hx hb dL_pass_0 rfl (lv_at hl 2 rfl) ?_
  refine lv_iconst (v := 0) hx hb dL_pass_1 rfl ?_
  refine lv_aload_n hx hb dL_pass_2 rfl (lv_at hl 0 rfl) ?_
  refine lv_iload_n hx hb dL_pass_3 rfl (lv_at hl 1 rfl) ?_
  refine oc_T (As := [.int a1]) (rest := [.int 0, .ref (ad 198)]) (pre := tableOf []) (x := ⟨0, 9, 12, 13⟩) (suf := tableOf [(0, 9, 15, 15)]) hx hb hml hown htg hK hI hP hS hl.1 hE htab (fun z hz => absurd hz List.not_mem_nil) (by decide) (by decide) kc_L_13 (by decide) hM cw_L_39 h0 rfl rfl ⟨Nat.succ_le_succ hfr, by show 8 + (3 + 11) + lo ≤ 480; omega⟩ (Nat.le_of_ble_eq_true rfl) dL_pass_4 ⟨Nat.le_of_ble_eq_true rfl, Nat.le_of_ble_eq_true rfl⟩ (fun q H locs hP hS => ?_)
  refine lv_astore_n (lv' := (3, .ref q) :: [(0, .ref (ad 0)), (1, .int a1), (2, .ref (ad 198))]) hx hb dL_pass_12 rfl hl (by decide) rfl (fun ls hl => ?_)
  refine lv_iconst (v := 1) hx hb dL_pass_13 rfl ?_
  exact oc_ret hx hb hr hlocks hK hI hP hS ⟨Nat.le_of_ble_eq_true rfl, Nat.le_of_ble_eq_true rfl⟩ dL_pass_14
set_option maxRecDepth 100000 in
theorem mL_pass_ES {l : Launch} {D : va_G} {ct : Nat → ClassId} {cL : ClassId} {ad : Nat → Nat} {fr lo : Nat} {a1 : Int32} {ce ce' : Nat → va_E} {fs : List Value} {v : Int64} (h0 : ce 0 = .inr (5, fs)) (hfr : fr ≤ 11) (hlo : lo ≤ 400) (hM : TMet l yX5_pass cX5_pass 3 (some .int) fr lo D ct 198 ad [.ref (ad 0), .int a1] ce ES ce') : OMet l yL_pass cL_pass 4 [(0, 9, 12, 13), (0, 9, 15, 15)] D ct cL ad [.ref (ad 0), .int a1, .ref (ad 198)] ce v 2 ce' v := by
  refine OMet.of (by decide +kernel) (Nat.le_of_ble_eq_true rfl) ?_
  intro p e s m args below meth c ls hx hb hr hml hown hlocks htg hK hI hP hS hl htab hE hlE
  have hl : lv_has ls 4 [(0, .ref (ad 0)), (1, .int a1), (2, .ref (ad 198))] := hl
  refine lv_aload_n hx hb dL_pass_0 rfl (lv_at hl 2 rfl) ?_
  refine lv_iconst (v := 0) hx hb dL_pass_1 rfl ?_
  refine lv_aload_n hx hb dL_pass_2 rfl (lv_at hl 0 rfl) ?_
  refine lv_iload_n hx hb dL_pass_3 rfl (lv_at hl 1 rfl) ?_
  refine oc_T (As := [.int a1]) (rest := [.int 0, .ref (ad 198)]) (pre := tableOf [(0, 9, 12, 13)]) (x := ⟨0, 9, 15, 15⟩) (suf := tableOf []) hx hb hml hown htg hK hI hP hS hl.1 hE htab (fun z hz => by cases List.mem_singleton.mp hz; exact ⟨by decide, _, kc_L_13, hlE.2.2⟩) (by decide) (by decide) kc_L_15 (by decide) hM cw_L_39 h0 rfl rfl ⟨Nat.succ_le_succ hfr, by show 8 + (3 + 11) + lo ≤ 480; omega⟩ (Nat.le_of_ble_eq_true rfl) dL_pass_4 ⟨Nat.le_of_ble_eq_true rfl, Nat.le_of_ble_eq_true rfl⟩ (fun q H locs hP hS => ?_)
  refine lv_astore_n (lv' := (3, .ref q) :: [(0, .ref (ad 0)), (1, .int a1), (2, .ref (ad 198))]) hx hb dL_pass_15 rfl hl (by decide) rfl (fun ls hl => ?_)
  refine lv_iconst (v := 2) hx hb dL_pass_16 rfl ?_
  exact oc_ret hx hb hr hlocks hK hI hP hS ⟨Nat.le_of_ble_eq_true rfl, Nat.le_of_ble_eq_true rfl⟩ dL_pass_17
set_option maxRecDepth 100000 in
theorem mL_set {l : Launch} {D : va_G} {ct : Nat → ClassId} {cL : ClassId} {ad : Nat → Nat} {fr lo : Nat} {a1 : Int32} {a2 : Int32} {ce ce' : Nat → va_E} {fs : List Value} {v : Int64} {r : Int32} (h0 : ce 0 = .inr (5, fs)) (hfr : fr ≤ 11) (hlo : lo ≤ 400) (hM : GMet l yX5_set cX5_set 4 (some .int) fr lo D ct 198 ad [.ref (ad 0), .int a1, .int a2] ce (some (.int r)) ce') : OMet l yL_set cL_set 5 [(0, 10, 13, 21), (0, 10, 17, 13)] D ct cL ad [.ref (ad 0), .int a1, .int a2, .ref (ad 198)] ce v 0 ce' r.toInt64 := by
  refine OMet.of (by decide +kernel) (Nat.le_of_ble_eq_true rfl) ?_
  intro p e s m args below meth c ls hx hb hr hml hown hlocks htg hK hI hP hS hl htab hE hlE
  have hl : lv_has ls 5 [(0, .ref (ad 0)), (1, .int a1), (2, .int a2), (3, .ref (ad 198))] := hl
  refine lv_aload_n hx hb dL_set_0 rfl (lv_at hl 3 rfl) ?_
  refine lv_iconst (v := 0) hx hb dL_set_1 rfl ?_
  refine lv_aload_n hx hb dL_set_2 rfl (lv_at hl 0 rfl) ?_
  refine lv_iload_n hx hb dL_set_3 rfl (lv_at hl 1 rfl) ?_
  refine lv_iload_n hx hb dL_set_4 rfl (lv_at hl 2 rfl) ?_
  refine oc_V (As := [.int a1, .int a2]) (rest := [.int 0, .ref (ad 198)]) hx hb hml hown htg hK hI hP hS hl.1 hE hM cw_L_42 h0 rfl rfl ⟨Nat.succ_le_succ hfr, by show 8 + (4 + 11) + lo ≤ 480; omega⟩ (Nat.le_of_ble_eq_true rfl) dL_set_5 ⟨Nat.le_of_ble_eq_true rfl, Nat.le_of_ble_eq_true rfl⟩ (fun H locs hP hS => ?_)
  refine lv_i2l (v := r.toInt64) hx hb dL_set_8 rfl ?_
  refine oc_out hx hb hK hI hP hS dL_set_9 (fun H locs hP hS => ?_)
  refine lv_goto (tgt := 21) hx hb dL_set_10 rfl ?_
  refine lv_iconst (v := 0) hx hb dL_set_21 rfl ?_
  exact oc_ret hx hb hr hlocks hK hI hP hS ⟨Nat.le_of_ble_eq_true rfl, Nat.le_of_ble_eq_true rfl⟩ dL_set_22
set_option maxRecDepth 100000 in
theorem mL_set_EI {l : Launch} {D : va_G} {ct : Nat → ClassId} {cL : ClassId} {ad : Nat → Nat} {fr lo : Nat} {a1 : Int32} {a2 : Int32} {ce ce' : Nat → va_E} {fs : List Value} {v : Int64} (h0 : ce 0 = .inr (5, fs)) (hfr : fr ≤ 11) (hlo : lo ≤ 400) (hM : TMet l yX5_set cX5_set 4 (some .int) fr lo D ct 198 ad [.ref (ad 0), .int a1, .int a2] ce EI ce') : OMet l yL_set cL_set 5 [(0, 10, 13, 21), (0, 10, 17, 13)] D ct cL ad [.ref (ad 0), .int a1, .int a2, .ref (ad 198)] ce v 1 ce' v := by
  refine OMet.of (by decide +kernel) (Nat.le_of_ble_eq_true rfl) ?_
  intro p e s m args below meth c ls hx hb hr hml hown hlocks htg hK hI hP hS hl htab hE hlE
  have hl : lv_has ls 5 [(0, .ref (ad 0)), (1, .int a1), (2, .int a2), (3, .ref (ad 198))] := hl
  refine lv_aload_n hx hb dL_set_0 rfl (lv_at hl 3 rfl) ?_
  refine lv_iconst (v := 0) hx hb dL_set_1 rfl ?_
  refine lv_aload_n hx hb dL_set_2 rfl (lv_at hl 0 rfl) ?_
  refine lv_iload_n hx hb dL_set_3 rfl (lv_at hl 1 rfl) ?_
  refine lv_iload_n hx hb dL_set_4 rfl (lv_at hl 2 rfl) ?_
  refine oc_T (As := [.int a1, .int a2]) (rest := [.int 0, .ref (ad 198)]) (pre := tableOf []) (x := ⟨0, 10, 13, 21⟩) (suf := tableOf [(0, 10, 17, 13)]) hx hb hml hown htg hK hI hP hS hl.1 hE htab (fun z hz => absurd hz List.not_mem_nil) (by decide) (by decide) kc_L_21 (by decide) hM cw_L_42 h0 rfl rfl ⟨Nat.succ_le_succ hfr, by show 8 + (4 + 11) + lo ≤ 480; omega⟩ (Nat.le_of_ble_eq_true rfl) dL_set_5 ⟨Nat.le_of_ble_eq_true rfl, Nat.le_of_ble_eq_true rfl⟩ (fun q H locs hP hS => ?_)
  refine lv_astore (lv' := (4, .ref q) :: [(0, .ref (ad 0)), (1, .int a1), (2, .int a2), (3, .ref (ad 198))]) hx hb dL_set_13 hl (by decide) rfl (fun ls hl => ?_)
  refine lv_iconst (v := 1) hx hb dL_set_15 rfl ?_
  exact oc_ret hx hb hr hlocks hK hI hP hS ⟨Nat.le_of_ble_eq_true rfl, Nat.le_of_ble_eq_true rfl⟩ dL_set_16
set_option maxRecDepth 100000 in
theorem mL_set_EA {l : Launch} {D : va_G} {ct : Nat → ClassId} {cL : ClassId} {ad : Nat → Nat} {fr lo : Nat} {a1 : Int32} {a2 : Int32} {ce ce' : Nat → va_E} {fs : List Value} {v : Int64} (h0 : ce 0 = .inr (5, fs)) (hfr : fr ≤ 11) (hlo : lo ≤ 400) (hM : TMet l yX5_set cX5_set 4 (some .int) fr lo D ct 198 ad [.ref (ad 0), .int a1, .int a2] ce EA ce') : OMet l yL_set cL_set 5 [(0, 10, 13, 21), (0, 10, 17, 13)] D ct cL ad [.ref (ad 0), .int a1, .int a2, .ref (ad 198)] ce v 2 ce' v := by
  refine OMet.of (by decide +kernel) (Nat.le_of_ble_eq_true rfl) ?_
  intro p e s m args below meth c ls hx hb hr hml hown hlocks htg hK hI hP hS hl htab hE hlE
  have hl : lv_has ls 5 [(0, .ref (ad 0)), (1, .int a1), (2, .int a2), (3, .ref (ad 198))] := hl
  refine lv_aload_n hx hb dL_set_0 rfl (lv_at hl 3 rfl) ?_
  refine lv_iconst (v := 0) hx hb dL_set_1 rfl ?_
  refine lv_aload_n hx hb dL_set_2 rfl (lv_at hl 0 rfl) ?_
  refine lv_iload_n hx hb dL_set_3 rfl (lv_at hl 1 rfl) ?_
  refine lv_iload_n hx hb dL_set_4 rfl (lv_at hl 2 rfl) ?_
  refine oc_T (As := [.int a1, .int a2]) (rest := [.int 0, .ref (ad 198)]) (pre := tableOf [(0, 10, 13, 21)]) (x := ⟨0, 10, 17, 13⟩) (suf := tableOf []) hx hb hml hown htg hK hI hP hS hl.1 hE htab (fun z hz => by cases List.mem_singleton.mp hz; exact ⟨by decide, _, kc_L_21, hlE.1⟩) (by decide) (by decide) kc_L_13 (by decide) hM cw_L_42 h0 rfl rfl ⟨Nat.succ_le_succ hfr, by show 8 + (4 + 11) + lo ≤ 480; omega⟩ (Nat.le_of_ble_eq_true rfl) dL_set_5 ⟨Nat.le_of_ble_eq_true rfl, Nat.le_of_ble_eq_true rfl⟩ (fun q H locs hP hS => ?_)
  refine lv_astore (lv' := (4, .ref q) :: [(0, .ref (ad 0)), (1, .int a1), (2, .int a2), (3, .ref (ad 198))]) hx hb dL_set_17 hl (by decide) rfl (fun ls hl => ?_)
  refine lv_iconst (v := 2) hx hb dL_set_19 rfl ?_
  exact oc_ret hx hb hr hlocks hK hI hP hS ⟨Nat.le_of_ble_eq_true rfl, Nat.le_of_ble_eq_true rfl⟩ dL_set_20
set_option maxRecDepth 100000 in
theorem mL_append {l : Launch} {D : va_G} {ct : Nat → ClassId} {cL : ClassId} {ad : Nat → Nat} {fr lo : Nat} {a1 : Int32} {ce ce' : Nat → va_E} {fs : List Value} {v : Int64} {r : Int32} (h0 : ce 0 = .inr (5, fs)) (hfr : fr ≤ 11) (hlo : lo ≤ 400) (hM : GMet l yX5_append cX5_append 2 (some .int) fr lo D ct 198 ad [.ref (ad 0), .int a1] ce (some (.int r)) ce') : OMet l yL_append cL_append 4 [(0, 9, 12, 13), (0, 9, 15, 15)] D ct cL ad [.ref (ad 0), .int a1, .ref (ad 198)] ce v 0 ce' r.toInt64 := by
  refine OMet.of (by decide +kernel) (Nat.le_of_ble_eq_true rfl) ?_
  intro p e s m args below meth c ls hx hb hr hml hown hlocks htg hK hI hP hS hl htab hE hlE
  have hl : lv_has ls 4 [(0, .ref (ad 0)), (1, .int a1), (2, .ref (ad 198))] := hl
  refine lv_aload_n hx hb dL_append_0 rfl (lv_at hl 2 rfl) ?_
  refine lv_iconst (v := 0) hx hb dL_append_1 rfl ?_
  refine lv_aload_n hx hb dL_append_2 rfl (lv_at hl 0 rfl) ?_
  refine lv_iload_n hx hb dL_append_3 rfl (lv_at hl 1 rfl) ?_
  refine oc_V (As := [.int a1]) (rest := [.int 0, .ref (ad 198)]) hx hb hml hown htg hK hI hP hS hl.1 hE hM cw_L_45 h0 rfl rfl ⟨Nat.succ_le_succ hfr, by show 8 + (2 + 11) + lo ≤ 480; omega⟩ (Nat.le_of_ble_eq_true rfl) dL_append_4 ⟨Nat.le_of_ble_eq_true rfl, Nat.le_of_ble_eq_true rfl⟩ (fun H locs hP hS => ?_)
  refine lv_i2l (v := r.toInt64) hx hb dL_append_7 rfl ?_
  refine oc_out hx hb hK hI hP hS dL_append_8 (fun H locs hP hS => ?_)
  refine lv_goto (tgt := 18) hx hb dL_append_9 rfl ?_
  refine lv_iconst (v := 0) hx hb dL_append_18 rfl ?_
  exact oc_ret hx hb hr hlocks hK hI hP hS ⟨Nat.le_of_ble_eq_true rfl, Nat.le_of_ble_eq_true rfl⟩ dL_append_19
set_option maxRecDepth 100000 in
theorem mL_append_EA {l : Launch} {D : va_G} {ct : Nat → ClassId} {cL : ClassId} {ad : Nat → Nat} {fr lo : Nat} {a1 : Int32} {ce ce' : Nat → va_E} {fs : List Value} {v : Int64} (h0 : ce 0 = .inr (5, fs)) (hfr : fr ≤ 11) (hlo : lo ≤ 400) (hM : TMet l yX5_append cX5_append 2 (some .int) fr lo D ct 198 ad [.ref (ad 0), .int a1] ce EA ce') : OMet l yL_append cL_append 4 [(0, 9, 12, 13), (0, 9, 15, 15)] D ct cL ad [.ref (ad 0), .int a1, .ref (ad 198)] ce v 1 ce' v := by
  refine OMet.of (by decide +kernel) (Nat.le_of_ble_eq_true rfl) ?_
  intro p e s m args below meth c ls hx hb hr hml hown hlocks htg hK hI hP hS hl htab hE hlE
  have hl : lv_has ls 4 [(0, .ref (ad 0)), (1, .int a1), (2, .ref (ad 198))] := hl
  refine lv_aload_n hx hb dL_append_0 rfl (lv_at hl 2 rfl) ?_
  refine lv_iconst (v := 0) hx hb dL_append_1 rfl ?_
  refine lv_aload_n hx hb dL_append_2 rfl (lv_at hl 0 rfl) ?_
  refine lv_iload_n hx hb dL_append_3 rfl (lv_at hl 1 rfl) ?_
  refine oc_T (As := [.int a1]) (rest := [.int 0, .ref (ad 198)]) (pre := tableOf []) (x := ⟨0, 9, 12, 13⟩) (suf := tableOf [(0, 9, 15, 15)]) hx hb hml hown htg hK hI hP hS hl.1 hE htab (fun z hz => absurd hz List.not_mem_nil) (by decide) (by decide) kc_L_13 (by decide) hM cw_L_45 h0 rfl rfl ⟨Nat.succ_le_succ hfr, by show 8 + (2 + 11) + lo ≤ 480; omega⟩ (Nat.le_of_ble_eq_true rfl) dL_append_4 ⟨Nat.le_of_ble_eq_true rfl, Nat.le_of_ble_eq_true rfl⟩ (fun q H locs hP hS => ?_)
  refine lv_astore_n (lv' := (3, .ref q) :: [(0, .ref (ad 0)), (1, .int a1), (2, .ref (ad 198))]) hx hb dL_append_12 rfl hl (by decide) rfl (fun ls hl => ?_)
  refine lv_iconst (v := 1) hx hb dL_append_13 rfl ?_
  exact oc_ret hx hb hr hlocks hK hI hP hS ⟨Nat.le_of_ble_eq_true rfl, Nat.le_of_ble_eq_true rfl⟩ dL_append_14
set_option maxRecDepth 100000 in
theorem mL_append_ES {l : Launch} {D : va_G} {ct : Nat → ClassId} {cL : ClassId} {ad : Nat → Nat} {fr lo : Nat} {a1 : Int32} {ce ce' : Nat → va_E} {fs : List Value} {v : Int64} (h0 : ce 0 = .inr (5, fs)) (hfr : fr ≤ 11) (hlo : lo ≤ 400) (hM : TMet l yX5_append cX5_append 2 (some .int) fr lo D ct 198 ad [.ref (ad 0), .int a1] ce ES ce') : OMet l yL_append cL_append 4 [(0, 9, 12, 13), (0, 9, 15, 15)] D ct cL ad [.ref (ad 0), .int a1, .ref (ad 198)] ce v 2 ce' v := by
  refine OMet.of (by decide +kernel) (Nat.le_of_ble_eq_true rfl) ?_
  intro p e s m args below meth c ls hx hb hr hml hown hlocks htg hK hI hP hS hl htab hE hlE
  have hl : lv_has ls 4 [(0, .ref (ad 0)), (1, .int a1), (2, .ref (ad 198))] := hl
  refine lv_aload_n hx hb dL_append_0 rfl (lv_at hl 2 rfl) ?_
  refine lv_iconst (v := 0) hx hb dL_append_1 rfl ?_
  refine lv_aload_n hx hb dL_append_2 rfl (lv_at hl 0 rfl) ?_
  refine lv_iload_n hx hb dL_append_3 rfl (lv_at hl 1 rfl) ?_
  refine oc_T (As := [.int a1]) (rest := [.int 0, .ref (ad 198)]) (pre := tableOf [(0, 9, 12, 13)]) (x := ⟨0, 9, 15, 15⟩) (suf := tableOf []) hx hb hml hown htg hK hI hP hS hl.1 hE htab (fun z hz => by cases List.mem_singleton.mp hz; exact ⟨by decide, _, kc_L_13, hlE.2.2⟩) (by decide) (by decide) kc_L_15 (by decide) hM cw_L_45 h0 rfl rfl ⟨Nat.succ_le_succ hfr, by show 8 + (2 + 11) + lo ≤ 480; omega⟩ (Nat.le_of_ble_eq_true rfl) dL_append_4 ⟨Nat.le_of_ble_eq_true rfl, Nat.le_of_ble_eq_true rfl⟩ (fun q H locs hP hS => ?_)
  refine lv_astore_n (lv' := (3, .ref q) :: [(0, .ref (ad 0)), (1, .int a1), (2, .ref (ad 198))]) hx hb dL_append_15 rfl hl (by decide) rfl (fun ls hl => ?_)
  refine lv_iconst (v := 2) hx hb dL_append_16 rfl ?_
  exact oc_ret hx hb hr hlocks hK hI hP hS ⟨Nat.le_of_ble_eq_true rfl, Nat.le_of_ble_eq_true rfl⟩ dL_append_17
set_option maxRecDepth 100000 in
theorem mL_open {l : Launch} {D : va_G} {ct : Nat → ClassId} {cL : ClassId} {ad : Nat → Nat} {fr lo : Nat} {ce ce' : Nat → va_E} {fs : List Value} {v : Int64} {r : Int32} (h0 : ce 0 = .inr (5, fs)) (hfr : fr ≤ 11) (hlo : lo ≤ 400) (hM : GMet l yX5_open cX5_open 2 (some .int) fr lo D ct 198 ad [.ref (ad 0)] ce (some (.int r)) ce') : OMet l yL_open cL_open 3 [(0, 8, 11, 13)] D ct cL ad [.ref (ad 0), .ref (ad 198)] ce v 0 ce' r.toInt64 := by
  refine OMet.of (by decide +kernel) (Nat.le_of_ble_eq_true rfl) ?_
  intro p e s m args below meth c ls hx hb hr hml hown hlocks htg hK hI hP hS hl htab hE hlE
  have hl : lv_has ls 3 [(0, .ref (ad 0)), (1, .ref (ad 198))] := hl
  refine lv_aload_n hx hb dL_open_0 rfl (lv_at hl 1 rfl) ?_
  refine lv_iconst (v := 0) hx hb dL_open_1 rfl ?_
  refine lv_aload_n hx hb dL_open_2 rfl (lv_at hl 0 rfl) ?_
  refine oc_V (As := []) (rest := [.int 0, .ref (ad 198)]) hx hb hml hown htg hK hI hP hS hl.1 hE hM cw_L_48 h0 rfl rfl ⟨Nat.succ_le_succ hfr, by show 8 + (2 + 11) + lo ≤ 480; omega⟩ (Nat.le_of_ble_eq_true rfl) dL_open_3 ⟨Nat.le_of_ble_eq_true rfl, Nat.le_of_ble_eq_true rfl⟩ (fun H locs hP hS => ?_)
  refine lv_i2l (v := r.toInt64) hx hb dL_open_6 rfl ?_
  refine oc_out hx hb hK hI hP hS dL_open_7 (fun H locs hP hS => ?_)
  refine lv_goto (tgt := 14) hx hb dL_open_8 rfl ?_
  refine lv_iconst (v := 0) hx hb dL_open_14 rfl ?_
  exact oc_ret hx hb hr hlocks hK hI hP hS ⟨Nat.le_of_ble_eq_true rfl, Nat.le_of_ble_eq_true rfl⟩ dL_open_15
set_option maxRecDepth 100000 in
theorem mL_open_EA {l : Launch} {D : va_G} {ct : Nat → ClassId} {cL : ClassId} {ad : Nat → Nat} {fr lo : Nat} {ce ce' : Nat → va_E} {fs : List Value} {v : Int64} (h0 : ce 0 = .inr (5, fs)) (hfr : fr ≤ 11) (hlo : lo ≤ 400) (hM : TMet l yX5_open cX5_open 2 (some .int) fr lo D ct 198 ad [.ref (ad 0)] ce EA ce') : OMet l yL_open cL_open 3 [(0, 8, 11, 13)] D ct cL ad [.ref (ad 0), .ref (ad 198)] ce v 1 ce' v := by
  refine OMet.of (by decide +kernel) (Nat.le_of_ble_eq_true rfl) ?_
  intro p e s m args below meth c ls hx hb hr hml hown hlocks htg hK hI hP hS hl htab hE hlE
  have hl : lv_has ls 3 [(0, .ref (ad 0)), (1, .ref (ad 198))] := hl
  refine lv_aload_n hx hb dL_open_0 rfl (lv_at hl 1 rfl) ?_
  refine lv_iconst (v := 0) hx hb dL_open_1 rfl ?_
  refine lv_aload_n hx hb dL_open_2 rfl (lv_at hl 0 rfl) ?_
  refine oc_T (As := []) (rest := [.int 0, .ref (ad 198)]) (pre := tableOf []) (x := ⟨0, 8, 11, 13⟩) (suf := tableOf []) hx hb hml hown htg hK hI hP hS hl.1 hE htab (fun z hz => absurd hz List.not_mem_nil) (by decide) (by decide) kc_L_13 (by decide) hM cw_L_48 h0 rfl rfl ⟨Nat.succ_le_succ hfr, by show 8 + (2 + 11) + lo ≤ 480; omega⟩ (Nat.le_of_ble_eq_true rfl) dL_open_3 ⟨Nat.le_of_ble_eq_true rfl, Nat.le_of_ble_eq_true rfl⟩ (fun q H locs hP hS => ?_)
  refine lv_astore_n (lv' := (2, .ref q) :: [(0, .ref (ad 0)), (1, .ref (ad 198))]) hx hb dL_open_11 rfl hl (by decide) rfl (fun ls hl => ?_)
  refine lv_iconst (v := 1) hx hb dL_open_12 rfl ?_
  exact oc_ret hx hb hr hlocks hK hI hP hS ⟨Nat.le_of_ble_eq_true rfl, Nat.le_of_ble_eq_true rfl⟩ dL_open_13
set_option maxRecDepth 100000 in
theorem mL_keep {l : Launch} {D : va_G} {ct : Nat → ClassId} {cL : ClassId} {ad : Nat → Nat} {fr lo : Nat} {a1 : Int32} {ce ce' : Nat → va_E} {fs : List Value} {v : Int64} {r : Int32} (h0 : ce 0 = .inr (5, fs)) (hfr : fr ≤ 11) (hlo : lo ≤ 400) (hM : GMet l yX5_keep cX5_keep 2 (some .int) fr lo D ct 198 ad [.ref (ad 0), .int a1] ce (some (.int r)) ce') : OMet l yL_keep cL_keep 4 [(0, 9, 12, 13)] D ct cL ad [.ref (ad 0), .int a1, .ref (ad 198)] ce v 0 ce' r.toInt64 := by
  refine OMet.of (by decide +kernel) (Nat.le_of_ble_eq_true rfl) ?_
  intro p e s m args below meth c ls hx hb hr hml hown hlocks htg hK hI hP hS hl htab hE hlE
  have hl : lv_has ls 4 [(0, .ref (ad 0)), (1, .int a1), (2, .ref (ad 198))] := hl
  refine lv_aload_n hx hb dL_keep_0 rfl (lv_at hl 2 rfl) ?_
  refine lv_iconst (v := 0) hx hb dL_keep_1 rfl ?_
  refine lv_aload_n hx hb dL_keep_2 rfl (lv_at hl 0 rfl) ?_
  refine lv_iload_n hx hb dL_keep_3 rfl (lv_at hl 1 rfl) ?_
  refine oc_V (As := [.int a1]) (rest := [.int 0, .ref (ad 198)]) hx hb hml hown htg hK hI hP hS hl.1 hE hM cw_L_52 h0 rfl rfl ⟨Nat.succ_le_succ hfr, by show 8 + (2 + 11) + lo ≤ 480; omega⟩ (Nat.le_of_ble_eq_true rfl) dL_keep_4 ⟨Nat.le_of_ble_eq_true rfl, Nat.le_of_ble_eq_true rfl⟩ (fun H locs hP hS => ?_)
  refine lv_i2l (v := r.toInt64) hx hb dL_keep_7 rfl ?_
  refine oc_out hx hb hK hI hP hS dL_keep_8 (fun H locs hP hS => ?_)
  refine lv_goto (tgt := 15) hx hb dL_keep_9 rfl ?_
  refine lv_iconst (v := 0) hx hb dL_keep_15 rfl ?_
  exact oc_ret hx hb hr hlocks hK hI hP hS ⟨Nat.le_of_ble_eq_true rfl, Nat.le_of_ble_eq_true rfl⟩ dL_keep_16
set_option maxRecDepth 100000 in
theorem mL_keep_EA {l : Launch} {D : va_G} {ct : Nat → ClassId} {cL : ClassId} {ad : Nat → Nat} {fr lo : Nat} {a1 : Int32} {ce ce' : Nat → va_E} {fs : List Value} {v : Int64} (h0 : ce 0 = .inr (5, fs)) (hfr : fr ≤ 11) (hlo : lo ≤ 400) (hM : TMet l yX5_keep cX5_keep 2 (some .int) fr lo D ct 198 ad [.ref (ad 0), .int a1] ce EA ce') : OMet l yL_keep cL_keep 4 [(0, 9, 12, 13)] D ct cL ad [.ref (ad 0), .int a1, .ref (ad 198)] ce v 1 ce' v := by
  refine OMet.of (by decide +kernel) (Nat.le_of_ble_eq_true rfl) ?_
  intro p e s m args below meth c ls hx hb hr hml hown hlocks htg hK hI hP hS hl htab hE hlE
  have hl : lv_has ls 4 [(0, .ref (ad 0)), (1, .int a1), (2, .ref (ad 198))] := hl
  refine lv_aload_n hx hb dL_keep_0 rfl (lv_at hl 2 rfl) ?_
  refine lv_iconst (v := 0) hx hb dL_keep_1 rfl ?_
  refine lv_aload_n hx hb dL_keep_2 rfl (lv_at hl 0 rfl) ?_
  refine lv_iload_n hx hb dL_keep_3 rfl (lv_at hl 1 rfl) ?_
  refine oc_T (As := [.int a1]) (rest := [.int 0, .ref (ad 198)]) (pre := tableOf []) (x := ⟨0, 9, 12, 13⟩) (suf := tableOf []) hx hb hml hown htg hK hI hP hS hl.1 hE htab (fun z hz => absurd hz List.not_mem_nil) (by decide) (by decide) kc_L_13 (by decide) hM cw_L_52 h0 rfl rfl ⟨Nat.succ_le_succ hfr, by show 8 + (2 + 11) + lo ≤ 480; omega⟩ (Nat.le_of_ble_eq_true rfl) dL_keep_4 ⟨Nat.le_of_ble_eq_true rfl, Nat.le_of_ble_eq_true rfl⟩ (fun q H locs hP hS => ?_)
  refine lv_astore_n (lv' := (3, .ref q) :: [(0, .ref (ad 0)), (1, .int a1), (2, .ref (ad 198))]) hx hb dL_keep_12 rfl hl (by decide) rfl (fun ls hl => ?_)
  refine lv_iconst (v := 1) hx hb dL_keep_13 rfl ?_
  exact oc_ret hx hb hr hlocks hK hI hP hS ⟨Nat.le_of_ble_eq_true rfl, Nat.le_of_ble_eq_true rfl⟩ dL_keep_14
set_option maxRecDepth 100000 in
theorem mL_goBack {l : Launch} {D : va_G} {ct : Nat → ClassId} {cL : ClassId} {ad : Nat → Nat} {fr lo : Nat} {a1 : Int32} {ce ce' : Nat → va_E} {fs : List Value} {v : Int64} {r : Int32} (h0 : ce 0 = .inr (5, fs)) (hfr : fr ≤ 11) (hlo : lo ≤ 400) (hM : GMet l yX5_goBack cX5_goBack 2 (some .int) fr lo D ct 198 ad [.ref (ad 0), .int a1] ce (some (.int r)) ce') : OMet l yL_goBack cL_goBack 4 [(0, 9, 12, 13), (0, 9, 15, 15)] D ct cL ad [.ref (ad 0), .int a1, .ref (ad 198)] ce v 0 ce' r.toInt64 := by
  refine OMet.of (by decide +kernel) (Nat.le_of_ble_eq_true rfl) ?_
  intro p e s m args below meth c ls hx hb hr hml hown hlocks htg hK hI hP hS hl htab hE hlE
  have hl : lv_has ls 4 [(0, .ref (ad 0)), (1, .int a1), (2, .ref (ad 198))] := hl
  refine lv_aload_n hx hb dL_goBack_0 rfl (lv_at hl 2 rfl) ?_
  refine lv_iconst (v := 0) hx hb dL_goBack_1 rfl ?_
  refine lv_aload_n hx hb dL_goBack_2 rfl (lv_at hl 0 rfl) ?_
  refine lv_iload_n hx hb dL_goBack_3 rfl (lv_at hl 1 rfl) ?_
  refine oc_V (As := [.int a1]) (rest := [.int 0, .ref (ad 198)]) hx hb hml hown htg hK hI hP hS hl.1 hE hM cw_L_55 h0 rfl rfl ⟨Nat.succ_le_succ hfr, by show 8 + (2 + 11) + lo ≤ 480; omega⟩ (Nat.le_of_ble_eq_true rfl) dL_goBack_4 ⟨Nat.le_of_ble_eq_true rfl, Nat.le_of_ble_eq_true rfl⟩ (fun H locs hP hS => ?_)
  refine lv_i2l (v := r.toInt64) hx hb dL_goBack_7 rfl ?_
  refine oc_out hx hb hK hI hP hS dL_goBack_8 (fun H locs hP hS => ?_)
  refine lv_goto (tgt := 18) hx hb dL_goBack_9 rfl ?_
  refine lv_iconst (v := 0) hx hb dL_goBack_18 rfl ?_
  exact oc_ret hx hb hr hlocks hK hI hP hS ⟨Nat.le_of_ble_eq_true rfl, Nat.le_of_ble_eq_true rfl⟩ dL_goBack_19
set_option maxRecDepth 100000 in
theorem mL_goBack_EA {l : Launch} {D : va_G} {ct : Nat → ClassId} {cL : ClassId} {ad : Nat → Nat} {fr lo : Nat} {a1 : Int32} {ce ce' : Nat → va_E} {fs : List Value} {v : Int64} (h0 : ce 0 = .inr (5, fs)) (hfr : fr ≤ 11) (hlo : lo ≤ 400) (hM : TMet l yX5_goBack cX5_goBack 2 (some .int) fr lo D ct 198 ad [.ref (ad 0), .int a1] ce EA ce') : OMet l yL_goBack cL_goBack 4 [(0, 9, 12, 13), (0, 9, 15, 15)] D ct cL ad [.ref (ad 0), .int a1, .ref (ad 198)] ce v 1 ce' v := by
  refine OMet.of (by decide +kernel) (Nat.le_of_ble_eq_true rfl) ?_
  intro p e s m args below meth c ls hx hb hr hml hown hlocks htg hK hI hP hS hl htab hE hlE
  have hl : lv_has ls 4 [(0, .ref (ad 0)), (1, .int a1), (2, .ref (ad 198))] := hl
  refine lv_aload_n hx hb dL_goBack_0 rfl (lv_at hl 2 rfl) ?_
  refine lv_iconst (v := 0) hx hb dL_goBack_1 rfl ?_
  refine lv_aload_n hx hb dL_goBack_2 rfl (lv_at hl 0 rfl) ?_
  refine lv_iload_n hx hb dL_goBack_3 rfl (lv_at hl 1 rfl) ?_
  refine oc_T (As := [.int a1]) (rest := [.int 0, .ref (ad 198)]) (pre := tableOf []) (x := ⟨0, 9, 12, 13⟩) (suf := tableOf [(0, 9, 15, 15)]) hx hb hml hown htg hK hI hP hS hl.1 hE htab (fun z hz => absurd hz List.not_mem_nil) (by decide) (by decide) kc_L_13 (by decide) hM cw_L_55 h0 rfl rfl ⟨Nat.succ_le_succ hfr, by show 8 + (2 + 11) + lo ≤ 480; omega⟩ (Nat.le_of_ble_eq_true rfl) dL_goBack_4 ⟨Nat.le_of_ble_eq_true rfl, Nat.le_of_ble_eq_true rfl⟩ (fun q H locs hP hS => ?_)
  refine lv_astore_n (lv' := (3, .ref q) :: [(0, .ref (ad 0)), (1, .int a1), (2, .ref (ad 198))]) hx hb dL_goBack_12 rfl hl (by decide) rfl (fun ls hl => ?_)
  refine lv_iconst (v := 1) hx hb dL_goBack_13 rfl ?_
  exact oc_ret hx hb hr hlocks hK hI hP hS ⟨Nat.le_of_ble_eq_true rfl, Nat.le_of_ble_eq_true rfl⟩ dL_goBack_14
set_option maxRecDepth 100000 in
theorem mL_goBack_ES {l : Launch} {D : va_G} {ct : Nat → ClassId} {cL : ClassId} {ad : Nat → Nat} {fr lo : Nat} {a1 : Int32} {ce ce' : Nat → va_E} {fs : List Value} {v : Int64} (h0 : ce 0 = .inr (5, fs)) (hfr : fr ≤ 11) (hlo : lo ≤ 400) (hM : TMet l yX5_goBack cX5_goBack 2 (some .int) fr lo D ct 198 ad [.ref (ad 0), .int a1] ce ES ce') : OMet l yL_goBack cL_goBack 4 [(0, 9, 12, 13), (0, 9, 15, 15)] D ct cL ad [.ref (ad 0), .int a1, .ref (ad 198)] ce v 2 ce' v := by
  refine OMet.of (by decide +kernel) (Nat.le_of_ble_eq_true rfl) ?_
  intro p e s m args below meth c ls hx hb hr hml hown hlocks htg hK hI hP hS hl htab hE hlE
  have hl : lv_has ls 4 [(0, .ref (ad 0)), (1, .int a1), (2, .ref (ad 198))] := hl
  refine lv_aload_n hx hb dL_goBack_0 rfl (lv_at hl 2 rfl) ?_
  refine lv_iconst (v := 0) hx hb dL_goBack_1 rfl ?_
  refine lv_aload_n hx hb dL_goBack_2 rfl (lv_at hl 0 rfl) ?_
  refine lv_iload_n hx hb dL_goBack_3 rfl (lv_at hl 1 rfl) ?_
  refine oc_T (As := [.int a1]) (rest := [.int 0, .ref (ad 198)]) (pre := tableOf [(0, 9, 12, 13)]) (x := ⟨0, 9, 15, 15⟩) (suf := tableOf []) hx hb hml hown htg hK hI hP hS hl.1 hE htab (fun z hz => by cases List.mem_singleton.mp hz; exact ⟨by decide, _, kc_L_13, hlE.2.2⟩) (by decide) (by decide) kc_L_15 (by decide) hM cw_L_55 h0 rfl rfl ⟨Nat.succ_le_succ hfr, by show 8 + (2 + 11) + lo ≤ 480; omega⟩ (Nat.le_of_ble_eq_true rfl) dL_goBack_4 ⟨Nat.le_of_ble_eq_true rfl, Nat.le_of_ble_eq_true rfl⟩ (fun q H locs hP hS => ?_)
  refine lv_astore_n (lv' := (3, .ref q) :: [(0, .ref (ad 0)), (1, .int a1), (2, .ref (ad 198))]) hx hb dL_goBack_15 rfl hl (by decide) rfl (fun ls hl => ?_)
  refine lv_iconst (v := 2) hx hb dL_goBack_16 rfl ?_
  exact oc_ret hx hb hr hlocks hK hI hP hS ⟨Nat.le_of_ble_eq_true rfl, Nat.le_of_ble_eq_true rfl⟩ dL_goBack_17
set_option maxRecDepth 100000 in
theorem mL_undo {l : Launch} {D : va_G} {ct : Nat → ClassId} {cL : ClassId} {ad : Nat → Nat} {fr lo : Nat} {ce ce' : Nat → va_E} {fs : List Value} {v : Int64} {r : Int32} (h0 : ce 0 = .inr (5, fs)) (hfr : fr ≤ 11) (hlo : lo ≤ 400) (hM : GMet l yX5_undo cX5_undo 1 (some .int) fr lo D ct 198 ad [.ref (ad 0)] ce (some (.int r)) ce') : OMet l yL_undo cL_undo 3 [(0, 8, 11, 15)] D ct cL ad [.ref (ad 0), .ref (ad 198)] ce v 0 ce' r.toInt64 := by
  refine OMet.of (by decide +kernel) (Nat.le_of_ble_eq_true rfl) ?_
  intro p e s m args below meth c ls hx hb hr hml hown hlocks htg hK hI hP hS hl htab hE hlE
  have hl : lv_has ls 3 [(0, .ref (ad 0)), (1, .ref (ad 198))] := hl
  refine lv_aload_n hx hb dL_undo_0 rfl (lv_at hl 1 rfl) ?_
  refine lv_iconst (v := 0) hx hb dL_undo_1 rfl ?_
  refine lv_aload_n hx hb dL_undo_2 rfl (lv_at hl 0 rfl) ?_
  refine oc_V (As := []) (rest := [.int 0, .ref (ad 198)]) hx hb hml hown htg hK hI hP hS hl.1 hE hM cw_L_58 h0 rfl rfl ⟨Nat.succ_le_succ hfr, by show 8 + (1 + 11) + lo ≤ 480; omega⟩ (Nat.le_of_ble_eq_true rfl) dL_undo_3 ⟨Nat.le_of_ble_eq_true rfl, Nat.le_of_ble_eq_true rfl⟩ (fun H locs hP hS => ?_)
  refine lv_i2l (v := r.toInt64) hx hb dL_undo_6 rfl ?_
  refine oc_out hx hb hK hI hP hS dL_undo_7 (fun H locs hP hS => ?_)
  refine lv_goto (tgt := 14) hx hb dL_undo_8 rfl ?_
  refine lv_iconst (v := 0) hx hb dL_undo_14 rfl ?_
  exact oc_ret hx hb hr hlocks hK hI hP hS ⟨Nat.le_of_ble_eq_true rfl, Nat.le_of_ble_eq_true rfl⟩ dL_undo_15
set_option maxRecDepth 100000 in
theorem mL_undo_ES {l : Launch} {D : va_G} {ct : Nat → ClassId} {cL : ClassId} {ad : Nat → Nat} {fr lo : Nat} {ce ce' : Nat → va_E} {fs : List Value} {v : Int64} (h0 : ce 0 = .inr (5, fs)) (hfr : fr ≤ 11) (hlo : lo ≤ 400) (hM : TMet l yX5_undo cX5_undo 1 (some .int) fr lo D ct 198 ad [.ref (ad 0)] ce ES ce') : OMet l yL_undo cL_undo 3 [(0, 8, 11, 15)] D ct cL ad [.ref (ad 0), .ref (ad 198)] ce v 1 ce' v := by
  refine OMet.of (by decide +kernel) (Nat.le_of_ble_eq_true rfl) ?_
  intro p e s m args below meth c ls hx hb hr hml hown hlocks htg hK hI hP hS hl htab hE hlE
  have hl : lv_has ls 3 [(0, .ref (ad 0)), (1, .ref (ad 198))] := hl
  refine lv_aload_n hx hb dL_undo_0 rfl (lv_at hl 1 rfl) ?_
  refine lv_iconst (v := 0) hx hb dL_undo_1 rfl ?_
  refine lv_aload_n hx hb dL_undo_2 rfl (lv_at hl 0 rfl) ?_
  refine oc_T (As := []) (rest := [.int 0, .ref (ad 198)]) (pre := tableOf []) (x := ⟨0, 8, 11, 15⟩) (suf := tableOf []) hx hb hml hown htg hK hI hP hS hl.1 hE htab (fun z hz => absurd hz List.not_mem_nil) (by decide) (by decide) kc_L_15 (by decide) hM cw_L_58 h0 rfl rfl ⟨Nat.succ_le_succ hfr, by show 8 + (1 + 11) + lo ≤ 480; omega⟩ (Nat.le_of_ble_eq_true rfl) dL_undo_3 ⟨Nat.le_of_ble_eq_true rfl, Nat.le_of_ble_eq_true rfl⟩ (fun q H locs hP hS => ?_)
  refine lv_astore_n (lv' := (2, .ref q) :: [(0, .ref (ad 0)), (1, .ref (ad 198))]) hx hb dL_undo_11 rfl hl (by decide) rfl (fun ls hl => ?_)
  refine lv_iconst (v := 1) hx hb dL_undo_12 rfl ?_
  exact oc_ret hx hb hr hlocks hK hI hP hS ⟨Nat.le_of_ble_eq_true rfl, Nat.le_of_ble_eq_true rfl⟩ dL_undo_13
set_option maxRecDepth 100000 in
theorem mL_stallOf {l : Launch} {D : va_G} {ct : Nat → ClassId} {cL : ClassId} {ad : Nat → Nat} {fr lo : Nat} {a1 : Int32} {a2 : Int32} {ce ce' : Nat → va_E} {fs : List Value} {v : Int64} {r : Int32} (h0 : ce 0 = .inr (5, fs)) (hfr : fr ≤ 11) (hlo : lo ≤ 400) (hM : GMet l yX5_stallOf cX5_stallOf 4 (some .int) fr lo D ct 198 ad [.ref (ad 0), .int a1, .int a2] ce (some (.int r)) ce') : OMet l yL_stallOf cL_stallOf 5 [(0, 10, 13, 21), (0, 10, 17, 13)] D ct cL ad [.ref (ad 0), .int a1, .int a2, .ref (ad 198)] ce v 0 ce' r.toInt64 := by
  refine OMet.of (by decide +kernel) (Nat.le_of_ble_eq_true rfl) ?_
  intro p e s m args below meth c ls hx hb hr hml hown hlocks htg hK hI hP hS hl htab hE hlE
  have hl : lv_has ls 5 [(0, .ref (ad 0)), (1, .int a1), (2, .int a2), (3, .ref (ad 198))] := hl
  refine lv_aload_n hx hb dL_stallOf_0 rfl (lv_at hl 3 rfl) ?_
  refine lv_iconst (v := 0) hx hb dL_stallOf_1 rfl ?_
  refine lv_aload_n hx hb dL_stallOf_2 rfl (lv_at hl 0 rfl) ?_
  refine lv_iload_n hx hb dL_stallOf_3 rfl (lv_at hl 1 rfl) ?_
  refine lv_iload_n hx hb dL_stallOf_4 rfl (lv_at hl 2 rfl) ?_
  refine oc_V (As := [.int a1, .int a2]) (rest := [.int 0, .ref (ad 198)]) hx hb hml hown htg hK hI hP hS hl.1 hE hM cw_L_61 h0 rfl rfl ⟨Nat.succ_le_succ hfr, by show 8 + (4 + 11) + lo ≤ 480; omega⟩ (Nat.le_of_ble_eq_true rfl) dL_stallOf_5 ⟨Nat.le_of_ble_eq_true rfl, Nat.le_of_ble_eq_true rfl⟩ (fun H locs hP hS => ?_)
  refine lv_i2l (v := r.toInt64) hx hb dL_stallOf_8 rfl ?_
  refine oc_out hx hb hK hI hP hS dL_stallOf_9 (fun H locs hP hS => ?_)
  refine lv_goto (tgt := 21) hx hb dL_stallOf_10 rfl ?_
  refine lv_iconst (v := 0) hx hb dL_stallOf_21 rfl ?_
  exact oc_ret hx hb hr hlocks hK hI hP hS ⟨Nat.le_of_ble_eq_true rfl, Nat.le_of_ble_eq_true rfl⟩ dL_stallOf_22
set_option maxRecDepth 100000 in
theorem mL_stallOf_EI {l : Launch} {D : va_G} {ct : Nat → ClassId} {cL : ClassId} {ad : Nat → Nat} {fr lo : Nat} {a1 : Int32} {a2 : Int32} {ce ce' : Nat → va_E} {fs : List Value} {v : Int64} (h0 : ce 0 = .inr (5, fs)) (hfr : fr ≤ 11) (hlo : lo ≤ 400) (hM : TMet l yX5_stallOf cX5_stallOf 4 (some .int) fr lo D ct 198 ad [.ref (ad 0), .int a1, .int a2] ce EI ce') : OMet l yL_stallOf cL_stallOf 5 [(0, 10, 13, 21), (0, 10, 17, 13)] D ct cL ad [.ref (ad 0), .int a1, .int a2, .ref (ad 198)] ce v 1 ce' v := by
  refine OMet.of (by decide +kernel) (Nat.le_of_ble_eq_true rfl) ?_
  intro p e s m args below meth c ls hx hb hr hml hown hlocks htg hK hI hP hS hl htab hE hlE
  have hl : lv_has ls 5 [(0, .ref (ad 0)), (1, .int a1), (2, .int a2), (3, .ref (ad 198))] := hl
  refine lv_aload_n hx hb dL_stallOf_0 rfl (lv_at hl 3 rfl) ?_
  refine lv_iconst (v := 0) hx hb dL_stallOf_1 rfl ?_
  refine lv_aload_n hx hb dL_stallOf_2 rfl (lv_at hl 0 rfl) ?_
  refine lv_iload_n hx hb dL_stallOf_3 rfl (lv_at hl 1 rfl) ?_
  refine lv_iload_n hx hb dL_stallOf_4 rfl (lv_at hl 2 rfl) ?_
  refine oc_T (As := [.int a1, .int a2]) (rest := [.int 0, .ref (ad 198)]) (pre := tableOf []) (x := ⟨0, 10, 13, 21⟩) (suf := tableOf [(0, 10, 17, 13)]) hx hb hml hown htg hK hI hP hS hl.1 hE htab (fun z hz => absurd hz List.not_mem_nil) (by decide) (by decide) kc_L_21 (by decide) hM cw_L_61 h0 rfl rfl ⟨Nat.succ_le_succ hfr, by show 8 + (4 + 11) + lo ≤ 480; omega⟩ (Nat.le_of_ble_eq_true rfl) dL_stallOf_5 ⟨Nat.le_of_ble_eq_true rfl, Nat.le_of_ble_eq_true rfl⟩ (fun q H locs hP hS => ?_)
  refine lv_astore (lv' := (4, .ref q) :: [(0, .ref (ad 0)), (1, .int a1), (2, .int a2), (3, .ref (ad 198))]) hx hb dL_stallOf_13 hl (by decide) rfl (fun ls hl => ?_)
  refine lv_iconst (v := 1) hx hb dL_stallOf_15 rfl ?_
  exact oc_ret hx hb hr hlocks hK hI hP hS ⟨Nat.le_of_ble_eq_true rfl, Nat.le_of_ble_eq_true rfl⟩ dL_stallOf_16
set_option maxRecDepth 100000 in
theorem mL_stallOf_EA {l : Launch} {D : va_G} {ct : Nat → ClassId} {cL : ClassId} {ad : Nat → Nat} {fr lo : Nat} {a1 : Int32} {a2 : Int32} {ce ce' : Nat → va_E} {fs : List Value} {v : Int64} (h0 : ce 0 = .inr (5, fs)) (hfr : fr ≤ 11) (hlo : lo ≤ 400) (hM : TMet l yX5_stallOf cX5_stallOf 4 (some .int) fr lo D ct 198 ad [.ref (ad 0), .int a1, .int a2] ce EA ce') : OMet l yL_stallOf cL_stallOf 5 [(0, 10, 13, 21), (0, 10, 17, 13)] D ct cL ad [.ref (ad 0), .int a1, .int a2, .ref (ad 198)] ce v 2 ce' v := by
  refine OMet.of (by decide +kernel) (Nat.le_of_ble_eq_true rfl) ?_
  intro p e s m args below meth c ls hx hb hr hml hown hlocks htg hK hI hP hS hl htab hE hlE
  have hl : lv_has ls 5 [(0, .ref (ad 0)), (1, .int a1), (2, .int a2), (3, .ref (ad 198))] := hl
  refine lv_aload_n hx hb dL_stallOf_0 rfl (lv_at hl 3 rfl) ?_
  refine lv_iconst (v := 0) hx hb dL_stallOf_1 rfl ?_
  refine lv_aload_n hx hb dL_stallOf_2 rfl (lv_at hl 0 rfl) ?_
  refine lv_iload_n hx hb dL_stallOf_3 rfl (lv_at hl 1 rfl) ?_
  refine lv_iload_n hx hb dL_stallOf_4 rfl (lv_at hl 2 rfl) ?_
  refine oc_T (As := [.int a1, .int a2]) (rest := [.int 0, .ref (ad 198)]) (pre := tableOf [(0, 10, 13, 21)]) (x := ⟨0, 10, 17, 13⟩) (suf := tableOf []) hx hb hml hown htg hK hI hP hS hl.1 hE htab (fun z hz => by cases List.mem_singleton.mp hz; exact ⟨by decide, _, kc_L_21, hlE.1⟩) (by decide) (by decide) kc_L_13 (by decide) hM cw_L_61 h0 rfl rfl ⟨Nat.succ_le_succ hfr, by show 8 + (4 + 11) + lo ≤ 480; omega⟩ (Nat.le_of_ble_eq_true rfl) dL_stallOf_5 ⟨Nat.le_of_ble_eq_true rfl, Nat.le_of_ble_eq_true rfl⟩ (fun q H locs hP hS => ?_)
  refine lv_astore (lv' := (4, .ref q) :: [(0, .ref (ad 0)), (1, .int a1), (2, .int a2), (3, .ref (ad 198))]) hx hb dL_stallOf_17 hl (by decide) rfl (fun ls hl => ?_)
  refine lv_iconst (v := 2) hx hb dL_stallOf_19 rfl ?_
  exact oc_ret hx hb hr hlocks hK hI hP hS ⟨Nat.le_of_ble_eq_true rfl, Nat.le_of_ble_eq_true rfl⟩ dL_stallOf_20
set_option maxRecDepth 100000 in
theorem mL_breaker {l : Launch} {D : va_G} {ct : Nat → ClassId} {cL : ClassId} {ad : Nat → Nat} {fr lo : Nat} {a1 : Int32} {a2 : Int32} {ce ce' : Nat → va_E} {fs : List Value} {v : Int64} {r : Int32} (h0 : ce 0 = .inr (5, fs)) (hfr : fr ≤ 11) (hlo : lo ≤ 400) (hM : GMet l yX5_breaker cX5_breaker 4 (some .int) fr lo D ct 198 ad [.ref (ad 0), .int a1, .int a2] ce (some (.int r)) ce') : OMet l yL_breaker cL_breaker 5 [(0, 10, 13, 13)] D ct cL ad [.ref (ad 0), .int a1, .int a2, .ref (ad 198)] ce v 0 ce' r.toInt64 := by
  refine OMet.of (by decide +kernel) (Nat.le_of_ble_eq_true rfl) ?_
  intro p e s m args below meth c ls hx hb hr hml hown hlocks htg hK hI hP hS hl htab hE hlE
  have hl : lv_has ls 5 [(0, .ref (ad 0)), (1, .int a1), (2, .int a2), (3, .ref (ad 198))] := hl
  refine lv_aload_n hx hb dL_breaker_0 rfl (lv_at hl 3 rfl) ?_
  refine lv_iconst (v := 0) hx hb dL_breaker_1 rfl ?_
  refine lv_aload_n hx hb dL_breaker_2 rfl (lv_at hl 0 rfl) ?_
  refine lv_iload_n hx hb dL_breaker_3 rfl (lv_at hl 1 rfl) ?_
  refine lv_iload_n hx hb dL_breaker_4 rfl (lv_at hl 2 rfl) ?_
  refine oc_V (As := [.int a1, .int a2]) (rest := [.int 0, .ref (ad 198)]) hx hb hml hown htg hK hI hP hS hl.1 hE hM cw_L_64 h0 rfl rfl ⟨Nat.succ_le_succ hfr, by show 8 + (4 + 11) + lo ≤ 480; omega⟩ (Nat.le_of_ble_eq_true rfl) dL_breaker_5 ⟨Nat.le_of_ble_eq_true rfl, Nat.le_of_ble_eq_true rfl⟩ (fun H locs hP hS => ?_)
  refine lv_i2l (v := r.toInt64) hx hb dL_breaker_8 rfl ?_
  refine oc_out hx hb hK hI hP hS dL_breaker_9 (fun H locs hP hS => ?_)
  refine lv_goto (tgt := 17) hx hb dL_breaker_10 rfl ?_
  refine lv_iconst (v := 0) hx hb dL_breaker_17 rfl ?_
  exact oc_ret hx hb hr hlocks hK hI hP hS ⟨Nat.le_of_ble_eq_true rfl, Nat.le_of_ble_eq_true rfl⟩ dL_breaker_18
set_option maxRecDepth 100000 in
theorem mL_breaker_EA {l : Launch} {D : va_G} {ct : Nat → ClassId} {cL : ClassId} {ad : Nat → Nat} {fr lo : Nat} {a1 : Int32} {a2 : Int32} {ce ce' : Nat → va_E} {fs : List Value} {v : Int64} (h0 : ce 0 = .inr (5, fs)) (hfr : fr ≤ 11) (hlo : lo ≤ 400) (hM : TMet l yX5_breaker cX5_breaker 4 (some .int) fr lo D ct 198 ad [.ref (ad 0), .int a1, .int a2] ce EA ce') : OMet l yL_breaker cL_breaker 5 [(0, 10, 13, 13)] D ct cL ad [.ref (ad 0), .int a1, .int a2, .ref (ad 198)] ce v 1 ce' v := by
  refine OMet.of (by decide +kernel) (Nat.le_of_ble_eq_true rfl) ?_
  intro p e s m args below meth c ls hx hb hr hml hown hlocks htg hK hI hP hS hl htab hE hlE
  have hl : lv_has ls 5 [(0, .ref (ad 0)), (1, .int a1), (2, .int a2), (3, .ref (ad 198))] := hl
  refine lv_aload_n hx hb dL_breaker_0 rfl (lv_at hl 3 rfl) ?_
  refine lv_iconst (v := 0) hx hb dL_breaker_1 rfl ?_
  refine lv_aload_n hx hb dL_breaker_2 rfl (lv_at hl 0 rfl) ?_
  refine lv_iload_n hx hb dL_breaker_3 rfl (lv_at hl 1 rfl) ?_
  refine lv_iload_n hx hb dL_breaker_4 rfl (lv_at hl 2 rfl) ?_
  refine oc_T (As := [.int a1, .int a2]) (rest := [.int 0, .ref (ad 198)]) (pre := tableOf []) (x := ⟨0, 10, 13, 13⟩) (suf := tableOf []) hx hb hml hown htg hK hI hP hS hl.1 hE htab (fun z hz => absurd hz List.not_mem_nil) (by decide) (by decide) kc_L_13 (by decide) hM cw_L_64 h0 rfl rfl ⟨Nat.succ_le_succ hfr, by show 8 + (4 + 11) + lo ≤ 480; omega⟩ (Nat.le_of_ble_eq_true rfl) dL_breaker_5 ⟨Nat.le_of_ble_eq_true rfl, Nat.le_of_ble_eq_true rfl⟩ (fun q H locs hP hS => ?_)
  refine lv_astore (lv' := (4, .ref q) :: [(0, .ref (ad 0)), (1, .int a1), (2, .int a2), (3, .ref (ad 198))]) hx hb dL_breaker_13 hl (by decide) rfl (fun ls hl => ?_)
  refine lv_iconst (v := 1) hx hb dL_breaker_15 rfl ?_
  exact oc_ret hx hb hr hlocks hK hI hP hS ⟨Nat.le_of_ble_eq_true rfl, Nat.le_of_ble_eq_true rfl⟩ dL_breaker_16
set_option maxRecDepth 100000 in
theorem mL_socket {l : Launch} {D : va_G} {ct : Nat → ClassId} {cL : ClassId} {ad : Nat → Nat} {fr lo : Nat} {a1 : Int32} {a2 : Int32} {ce ce' : Nat → va_E} {fs : List Value} {v : Int64} {r : Int32} (h0 : ce 0 = .inr (5, fs)) (hfr : fr ≤ 11) (hlo : lo ≤ 400) (hM : GMet l yX5_socket cX5_socket 3 (some .int) fr lo D ct 198 ad [.ref (ad 0), .int a1, .int a2] ce (some (.int r)) ce') : OMet l yL_socket cL_socket 5 [(0, 10, 13, 13)] D ct cL ad [.ref (ad 0), .int a1, .int a2, .ref (ad 198)] ce v 0 ce' r.toInt64 := by
  refine OMet.of (by decide +kernel) (Nat.le_of_ble_eq_true rfl) ?_
  intro p e s m args below meth c ls hx hb hr hml hown hlocks htg hK hI hP hS hl htab hE hlE
  have hl : lv_has ls 5 [(0, .ref (ad 0)), (1, .int a1), (2, .int a2), (3, .ref (ad 198))] := hl
  refine lv_aload_n hx hb dL_socket_0 rfl (lv_at hl 3 rfl) ?_
  refine lv_iconst (v := 0) hx hb dL_socket_1 rfl ?_
  refine lv_aload_n hx hb dL_socket_2 rfl (lv_at hl 0 rfl) ?_
  refine lv_iload_n hx hb dL_socket_3 rfl (lv_at hl 1 rfl) ?_
  refine lv_iload_n hx hb dL_socket_4 rfl (lv_at hl 2 rfl) ?_
  refine oc_V (As := [.int a1, .int a2]) (rest := [.int 0, .ref (ad 198)]) hx hb hml hown htg hK hI hP hS hl.1 hE hM cw_L_67 h0 rfl rfl ⟨Nat.succ_le_succ hfr, by show 8 + (3 + 11) + lo ≤ 480; omega⟩ (Nat.le_of_ble_eq_true rfl) dL_socket_5 ⟨Nat.le_of_ble_eq_true rfl, Nat.le_of_ble_eq_true rfl⟩ (fun H locs hP hS => ?_)
  refine lv_i2l (v := r.toInt64) hx hb dL_socket_8 rfl ?_
  refine oc_out hx hb hK hI hP hS dL_socket_9 (fun H locs hP hS => ?_)
  refine lv_goto (tgt := 17) hx hb dL_socket_10 rfl ?_
  refine lv_iconst (v := 0) hx hb dL_socket_17 rfl ?_
  exact oc_ret hx hb hr hlocks hK hI hP hS ⟨Nat.le_of_ble_eq_true rfl, Nat.le_of_ble_eq_true rfl⟩ dL_socket_18
set_option maxRecDepth 100000 in
theorem mL_socket_EA {l : Launch} {D : va_G} {ct : Nat → ClassId} {cL : ClassId} {ad : Nat → Nat} {fr lo : Nat} {a1 : Int32} {a2 : Int32} {ce ce' : Nat → va_E} {fs : List Value} {v : Int64} (h0 : ce 0 = .inr (5, fs)) (hfr : fr ≤ 11) (hlo : lo ≤ 400) (hM : TMet l yX5_socket cX5_socket 3 (some .int) fr lo D ct 198 ad [.ref (ad 0), .int a1, .int a2] ce EA ce') : OMet l yL_socket cL_socket 5 [(0, 10, 13, 13)] D ct cL ad [.ref (ad 0), .int a1, .int a2, .ref (ad 198)] ce v 1 ce' v := by
  refine OMet.of (by decide +kernel) (Nat.le_of_ble_eq_true rfl) ?_
  intro p e s m args below meth c ls hx hb hr hml hown hlocks htg hK hI hP hS hl htab hE hlE
  have hl : lv_has ls 5 [(0, .ref (ad 0)), (1, .int a1), (2, .int a2), (3, .ref (ad 198))] := hl
  refine lv_aload_n hx hb dL_socket_0 rfl (lv_at hl 3 rfl) ?_
  refine lv_iconst (v := 0) hx hb dL_socket_1 rfl ?_
  refine lv_aload_n hx hb dL_socket_2 rfl (lv_at hl 0 rfl) ?_
  refine lv_iload_n hx hb dL_socket_3 rfl (lv_at hl 1 rfl) ?_
  refine lv_iload_n hx hb dL_socket_4 rfl (lv_at hl 2 rfl) ?_
  refine oc_T (As := [.int a1, .int a2]) (rest := [.int 0, .ref (ad 198)]) (pre := tableOf []) (x := ⟨0, 10, 13, 13⟩) (suf := tableOf []) hx hb hml hown htg hK hI hP hS hl.1 hE htab (fun z hz => absurd hz List.not_mem_nil) (by decide) (by decide) kc_L_13 (by decide) hM cw_L_67 h0 rfl rfl ⟨Nat.succ_le_succ hfr, by show 8 + (3 + 11) + lo ≤ 480; omega⟩ (Nat.le_of_ble_eq_true rfl) dL_socket_5 ⟨Nat.le_of_ble_eq_true rfl, Nat.le_of_ble_eq_true rfl⟩ (fun q H locs hP hS => ?_)
  refine lv_astore (lv' := (4, .ref q) :: [(0, .ref (ad 0)), (1, .int a1), (2, .int a2), (3, .ref (ad 198))]) hx hb dL_socket_13 hl (by decide) rfl (fun ls hl => ?_)
  refine lv_iconst (v := 1) hx hb dL_socket_15 rfl ?_
  exact oc_ret hx hb hr hlocks hK hI hP hS ⟨Nat.le_of_ble_eq_true rfl, Nat.le_of_ble_eq_true rfl⟩ dL_socket_16
set_option maxRecDepth 100000 in
theorem mL_count {l : Launch} {D : va_G} {ct : Nat → ClassId} {cL : ClassId} {ad : Nat → Nat} {fr lo : Nat} {a1 : Int32} {ce ce' : Nat → va_E} {fs : List Value} {v : Int64} {r : Int32} (h0 : ce 0 = .inr (5, fs)) (hfr : fr ≤ 11) (hlo : lo ≤ 400) (hM : GMet l yX5_count cX5_count 2 (some .int) fr lo D ct 198 ad [.ref (ad 0), .int a1] ce (some (.int r)) ce') : OMet l yL_count cL_count 4 [(0, 9, 12, 13)] D ct cL ad [.ref (ad 0), .int a1, .ref (ad 198)] ce v 0 ce' r.toInt64 := by
  refine OMet.of (by decide +kernel) (Nat.le_of_ble_eq_true rfl) ?_
  intro p e s m args below meth c ls hx hb hr hml hown hlocks htg hK hI hP hS hl htab hE hlE
  have hl : lv_has ls 4 [(0, .ref (ad 0)), (1, .int a1), (2, .ref (ad 198))] := hl
  refine lv_aload_n hx hb dL_count_0 rfl (lv_at hl 2 rfl) ?_
  refine lv_iconst (v := 0) hx hb dL_count_1 rfl ?_
  refine lv_aload_n hx hb dL_count_2 rfl (lv_at hl 0 rfl) ?_
  refine lv_iload_n hx hb dL_count_3 rfl (lv_at hl 1 rfl) ?_
  refine oc_V (As := [.int a1]) (rest := [.int 0, .ref (ad 198)]) hx hb hml hown htg hK hI hP hS hl.1 hE hM cw_L_70 h0 rfl rfl ⟨Nat.succ_le_succ hfr, by show 8 + (2 + 11) + lo ≤ 480; omega⟩ (Nat.le_of_ble_eq_true rfl) dL_count_4 ⟨Nat.le_of_ble_eq_true rfl, Nat.le_of_ble_eq_true rfl⟩ (fun H locs hP hS => ?_)
  refine lv_i2l (v := r.toInt64) hx hb dL_count_7 rfl ?_
  refine oc_out hx hb hK hI hP hS dL_count_8 (fun H locs hP hS => ?_)
  refine lv_goto (tgt := 15) hx hb dL_count_9 rfl ?_
  refine lv_iconst (v := 0) hx hb dL_count_15 rfl ?_
  exact oc_ret hx hb hr hlocks hK hI hP hS ⟨Nat.le_of_ble_eq_true rfl, Nat.le_of_ble_eq_true rfl⟩ dL_count_16
set_option maxRecDepth 100000 in
theorem mL_count_EA {l : Launch} {D : va_G} {ct : Nat → ClassId} {cL : ClassId} {ad : Nat → Nat} {fr lo : Nat} {a1 : Int32} {ce ce' : Nat → va_E} {fs : List Value} {v : Int64} (h0 : ce 0 = .inr (5, fs)) (hfr : fr ≤ 11) (hlo : lo ≤ 400) (hM : TMet l yX5_count cX5_count 2 (some .int) fr lo D ct 198 ad [.ref (ad 0), .int a1] ce EA ce') : OMet l yL_count cL_count 4 [(0, 9, 12, 13)] D ct cL ad [.ref (ad 0), .int a1, .ref (ad 198)] ce v 1 ce' v := by
  refine OMet.of (by decide +kernel) (Nat.le_of_ble_eq_true rfl) ?_
  intro p e s m args below meth c ls hx hb hr hml hown hlocks htg hK hI hP hS hl htab hE hlE
  have hl : lv_has ls 4 [(0, .ref (ad 0)), (1, .int a1), (2, .ref (ad 198))] := hl
  refine lv_aload_n hx hb dL_count_0 rfl (lv_at hl 2 rfl) ?_
  refine lv_iconst (v := 0) hx hb dL_count_1 rfl ?_
  refine lv_aload_n hx hb dL_count_2 rfl (lv_at hl 0 rfl) ?_
  refine lv_iload_n hx hb dL_count_3 rfl (lv_at hl 1 rfl) ?_
  refine oc_T (As := [.int a1]) (rest := [.int 0, .ref (ad 198)]) (pre := tableOf []) (x := ⟨0, 9, 12, 13⟩) (suf := tableOf []) hx hb hml hown htg hK hI hP hS hl.1 hE htab (fun z hz => absurd hz List.not_mem_nil) (by decide) (by decide) kc_L_13 (by decide) hM cw_L_70 h0 rfl rfl ⟨Nat.succ_le_succ hfr, by show 8 + (2 + 11) + lo ≤ 480; omega⟩ (Nat.le_of_ble_eq_true rfl) dL_count_4 ⟨Nat.le_of_ble_eq_true rfl, Nat.le_of_ble_eq_true rfl⟩ (fun q H locs hP hS => ?_)
  refine lv_astore_n (lv' := (3, .ref q) :: [(0, .ref (ad 0)), (1, .int a1), (2, .ref (ad 198))]) hx hb dL_count_12 rfl hl (by decide) rfl (fun ls hl => ?_)
  refine lv_iconst (v := 1) hx hb dL_count_13 rfl ?_
  exact oc_ret hx hb hr hlocks hK hI hP hS ⟨Nat.le_of_ble_eq_true rfl, Nat.le_of_ble_eq_true rfl⟩ dL_count_14
set_option maxRecDepth 100000 in
theorem mL_setting {l : Launch} {D : va_G} {ct : Nat → ClassId} {cL : ClassId} {ad : Nat → Nat} {fr lo : Nat} {a1 : Int32} {ce ce' : Nat → va_E} {fs : List Value} {v : Int64} {r : Int32} (h0 : ce 0 = .inr (5, fs)) (hfr : fr ≤ 11) (hlo : lo ≤ 400) (hM : GMet l yX5_setting cX5_setting 2 (some .int) fr lo D ct 198 ad [.ref (ad 0), .int a1] ce (some (.int r)) ce') : OMet l yL_setting cL_setting 4 [(0, 9, 12, 21)] D ct cL ad [.ref (ad 0), .int a1, .ref (ad 198)] ce v 0 ce' r.toInt64 := by
  refine OMet.of (by decide +kernel) (Nat.le_of_ble_eq_true rfl) ?_
  intro p e s m args below meth c ls hx hb hr hml hown hlocks htg hK hI hP hS hl htab hE hlE
  have hl : lv_has ls 4 [(0, .ref (ad 0)), (1, .int a1), (2, .ref (ad 198))] := hl
  refine lv_aload_n hx hb dL_setting_0 rfl (lv_at hl 2 rfl) ?_
  refine lv_iconst (v := 0) hx hb dL_setting_1 rfl ?_
  refine lv_aload_n hx hb dL_setting_2 rfl (lv_at hl 0 rfl) ?_
  refine lv_iload_n hx hb dL_setting_3 rfl (lv_at hl 1 rfl) ?_
  refine oc_V (As := [.int a1]) (rest := [.int 0, .ref (ad 198)]) hx hb hml hown htg hK hI hP hS hl.1 hE hM cw_L_73 h0 rfl rfl ⟨Nat.succ_le_succ hfr, by show 8 + (2 + 11) + lo ≤ 480; omega⟩ (Nat.le_of_ble_eq_true rfl) dL_setting_4 ⟨Nat.le_of_ble_eq_true rfl, Nat.le_of_ble_eq_true rfl⟩ (fun H locs hP hS => ?_)
  refine lv_i2l (v := r.toInt64) hx hb dL_setting_7 rfl ?_
  refine oc_out hx hb hK hI hP hS dL_setting_8 (fun H locs hP hS => ?_)
  refine lv_goto (tgt := 15) hx hb dL_setting_9 rfl ?_
  refine lv_iconst (v := 0) hx hb dL_setting_15 rfl ?_
  exact oc_ret hx hb hr hlocks hK hI hP hS ⟨Nat.le_of_ble_eq_true rfl, Nat.le_of_ble_eq_true rfl⟩ dL_setting_16
set_option maxRecDepth 100000 in
theorem mL_setting_EI {l : Launch} {D : va_G} {ct : Nat → ClassId} {cL : ClassId} {ad : Nat → Nat} {fr lo : Nat} {a1 : Int32} {ce ce' : Nat → va_E} {fs : List Value} {v : Int64} (h0 : ce 0 = .inr (5, fs)) (hfr : fr ≤ 11) (hlo : lo ≤ 400) (hM : TMet l yX5_setting cX5_setting 2 (some .int) fr lo D ct 198 ad [.ref (ad 0), .int a1] ce EI ce') : OMet l yL_setting cL_setting 4 [(0, 9, 12, 21)] D ct cL ad [.ref (ad 0), .int a1, .ref (ad 198)] ce v 1 ce' v := by
  refine OMet.of (by decide +kernel) (Nat.le_of_ble_eq_true rfl) ?_
  intro p e s m args below meth c ls hx hb hr hml hown hlocks htg hK hI hP hS hl htab hE hlE
  have hl : lv_has ls 4 [(0, .ref (ad 0)), (1, .int a1), (2, .ref (ad 198))] := hl
  refine lv_aload_n hx hb dL_setting_0 rfl (lv_at hl 2 rfl) ?_
  refine lv_iconst (v := 0) hx hb dL_setting_1 rfl ?_
  refine lv_aload_n hx hb dL_setting_2 rfl (lv_at hl 0 rfl) ?_
  refine lv_iload_n hx hb dL_setting_3 rfl (lv_at hl 1 rfl) ?_
  refine oc_T (As := [.int a1]) (rest := [.int 0, .ref (ad 198)]) (pre := tableOf []) (x := ⟨0, 9, 12, 21⟩) (suf := tableOf []) hx hb hml hown htg hK hI hP hS hl.1 hE htab (fun z hz => absurd hz List.not_mem_nil) (by decide) (by decide) kc_L_21 (by decide) hM cw_L_73 h0 rfl rfl ⟨Nat.succ_le_succ hfr, by show 8 + (2 + 11) + lo ≤ 480; omega⟩ (Nat.le_of_ble_eq_true rfl) dL_setting_4 ⟨Nat.le_of_ble_eq_true rfl, Nat.le_of_ble_eq_true rfl⟩ (fun q H locs hP hS => ?_)
  refine lv_astore_n (lv' := (3, .ref q) :: [(0, .ref (ad 0)), (1, .int a1), (2, .ref (ad 198))]) hx hb dL_setting_12 rfl hl (by decide) rfl (fun ls hl => ?_)
  refine lv_iconst (v := 1) hx hb dL_setting_13 rfl ?_
  exact oc_ret hx hb hr hlocks hK hI hP hS ⟨Nat.le_of_ble_eq_true rfl, Nat.le_of_ble_eq_true rfl⟩ dL_setting_14
set_option maxRecDepth 100000 in
theorem mL_ifPlugged {l : Launch} {D : va_G} {ct : Nat → ClassId} {cL : ClassId} {ad : Nat → Nat} {fr lo : Nat} {a1 : Int32} {a2 : Int32} {a3 : Int32} {a4 : Int32} {ce ce' : Nat → va_E} {fs : List Value} {v : Int64} {r : Int32} (h0 : ce 0 = .inr (5, fs)) (hfr : fr ≤ 11) (hlo : lo ≤ 400) (hM : GMet l yX5_ifPlugged cX5_ifPlugged 5 (some .int) fr lo D ct 198 ad [.ref (ad 0), .int a1, .int a2, .int a3, .int a4] ce (some (.int r)) ce') : OMet l yL_ifPlugged cL_ifPlugged 7 [(0, 14, 17, 21), (0, 14, 21, 13)] D ct cL ad [.ref (ad 0), .int a1, .int a2, .int a3, .int a4, .ref (ad 198)] ce v 0 ce' r.toInt64 := by
  refine OMet.of (by decide +kernel) (Nat.le_of_ble_eq_true rfl) ?_
  intro p e s m args below meth c ls hx hb hr hml hown hlocks htg hK hI hP hS hl htab hE hlE
  have hl : lv_has ls 7 [(0, .ref (ad 0)), (1, .int a1), (2, .int a2), (3, .int a3), (4, .int a4), (5, .ref (ad 198))] := hl
  refine lv_aload hx hb dL_ifPlugged_0 (lv_at hl 5 rfl) ?_
  refine lv_iconst (v := 0) hx hb dL_ifPlugged_2 rfl ?_
  refine lv_aload_n hx hb dL_ifPlugged_3 rfl (lv_at hl 0 rfl) ?_
  refine lv_iload_n hx hb dL_ifPlugged_4 rfl (lv_at hl 1 rfl) ?_
  refine lv_iload_n hx hb dL_ifPlugged_5 rfl (lv_at hl 2 rfl) ?_
  refine lv_iload_n hx hb dL_ifPlugged_6 rfl (lv_at hl 3 rfl) ?_
  refine lv_iload hx hb dL_ifPlugged_7 (lv_at hl 4 rfl) ?_
  refine oc_V (As := [.int a1, .int a2, .int a3, .int a4]) (rest := [.int 0, .ref (ad 198)]) hx hb hml hown htg hK hI hP hS hl.1 hE hM cw_L_76 h0 rfl rfl ⟨Nat.succ_le_succ hfr, by show 8 + (5 + 11) + lo ≤ 480; omega⟩ (Nat.le_of_ble_eq_true rfl) dL_ifPlugged_9 ⟨Nat.le_of_ble_eq_true rfl, Nat.le_of_ble_eq_true rfl⟩ (fun H locs hP hS => ?_)
  refine lv_i2l (v := r.toInt64) hx hb dL_ifPlugged_12 rfl ?_
  refine oc_out hx hb hK hI hP hS dL_ifPlugged_13 (fun H locs hP hS => ?_)
  refine lv_goto (tgt := 25) hx hb dL_ifPlugged_14 rfl ?_
  refine lv_iconst (v := 0) hx hb dL_ifPlugged_25 rfl ?_
  exact oc_ret hx hb hr hlocks hK hI hP hS ⟨Nat.le_of_ble_eq_true rfl, Nat.le_of_ble_eq_true rfl⟩ dL_ifPlugged_26
set_option maxRecDepth 100000 in
theorem mL_ifPlugged_EI {l : Launch} {D : va_G} {ct : Nat → ClassId} {cL : ClassId} {ad : Nat → Nat} {fr lo : Nat} {a1 : Int32} {a2 : Int32} {a3 : Int32} {a4 : Int32} {ce ce' : Nat → va_E} {fs : List Value} {v : Int64} (h0 : ce 0 = .inr (5, fs)) (hfr : fr ≤ 11) (hlo : lo ≤ 400) (hM : TMet l yX5_ifPlugged cX5_ifPlugged 5 (some .int) fr lo D ct 198 ad [.ref (ad 0), .int a1, .int a2, .int a3, .int a4] ce EI ce') : OMet l yL_ifPlugged cL_ifPlugged 7 [(0, 14, 17, 21), (0, 14, 21, 13)] D ct cL ad [.ref (ad 0), .int a1, .int a2, .int a3, .int a4, .ref (ad 198)] ce v 1 ce' v := by
  refine OMet.of (by decide +kernel) (Nat.le_of_ble_eq_true rfl) ?_
  intro p e s m args below meth c ls hx hb hr hml hown hlocks htg hK hI hP hS hl htab hE hlE
  have hl : lv_has ls 7 [(0, .ref (ad 0)), (1, .int a1), (2, .int a2), (3, .int a3), (4, .int a4), (5, .ref (ad 198))] := hl
  refine lv_aload hx hb dL_ifPlugged_0 (lv_at hl 5 rfl) ?_
  refine lv_iconst (v := 0) hx hb dL_ifPlugged_2 rfl ?_
  refine lv_aload_n hx hb dL_ifPlugged_3 rfl (lv_at hl 0 rfl) ?_
  refine lv_iload_n hx hb dL_ifPlugged_4 rfl (lv_at hl 1 rfl) ?_
  refine lv_iload_n hx hb dL_ifPlugged_5 rfl (lv_at hl 2 rfl) ?_
  refine lv_iload_n hx hb dL_ifPlugged_6 rfl (lv_at hl 3 rfl) ?_
  refine lv_iload hx hb dL_ifPlugged_7 (lv_at hl 4 rfl) ?_
  refine oc_T (As := [.int a1, .int a2, .int a3, .int a4]) (rest := [.int 0, .ref (ad 198)]) (pre := tableOf []) (x := ⟨0, 14, 17, 21⟩) (suf := tableOf [(0, 14, 21, 13)]) hx hb hml hown htg hK hI hP hS hl.1 hE htab (fun z hz => absurd hz List.not_mem_nil) (by decide) (by decide) kc_L_21 (by decide) hM cw_L_76 h0 rfl rfl ⟨Nat.succ_le_succ hfr, by show 8 + (5 + 11) + lo ≤ 480; omega⟩ (Nat.le_of_ble_eq_true rfl) dL_ifPlugged_9 ⟨Nat.le_of_ble_eq_true rfl, Nat.le_of_ble_eq_true rfl⟩ (fun q H locs hP hS => ?_)
  refine lv_astore (lv' := (6, .ref q) :: [(0, .ref (ad 0)), (1, .int a1), (2, .int a2), (3, .int a3), (4, .int a4), (5, .ref (ad 198))]) hx hb dL_ifPlugged_17 hl (by decide) rfl (fun ls hl => ?_)
  refine lv_iconst (v := 1) hx hb dL_ifPlugged_19 rfl ?_
  exact oc_ret hx hb hr hlocks hK hI hP hS ⟨Nat.le_of_ble_eq_true rfl, Nat.le_of_ble_eq_true rfl⟩ dL_ifPlugged_20
set_option maxRecDepth 100000 in
theorem mL_ifPlugged_EA {l : Launch} {D : va_G} {ct : Nat → ClassId} {cL : ClassId} {ad : Nat → Nat} {fr lo : Nat} {a1 : Int32} {a2 : Int32} {a3 : Int32} {a4 : Int32} {ce ce' : Nat → va_E} {fs : List Value} {v : Int64} (h0 : ce 0 = .inr (5, fs)) (hfr : fr ≤ 11) (hlo : lo ≤ 400) (hM : TMet l yX5_ifPlugged cX5_ifPlugged 5 (some .int) fr lo D ct 198 ad [.ref (ad 0), .int a1, .int a2, .int a3, .int a4] ce EA ce') : OMet l yL_ifPlugged cL_ifPlugged 7 [(0, 14, 17, 21), (0, 14, 21, 13)] D ct cL ad [.ref (ad 0), .int a1, .int a2, .int a3, .int a4, .ref (ad 198)] ce v 2 ce' v := by
  refine OMet.of (by decide +kernel) (Nat.le_of_ble_eq_true rfl) ?_
  intro p e s m args below meth c ls hx hb hr hml hown hlocks htg hK hI hP hS hl htab hE hlE
  have hl : lv_has ls 7 [(0, .ref (ad 0)), (1, .int a1), (2, .int a2), (3, .int a3), (4, .int a4), (5, .ref (ad 198))] := hl
  refine lv_aload hx hb dL_ifPlugged_0 (lv_at hl 5 rfl) ?_
  refine lv_iconst (v := 0) hx hb dL_ifPlugged_2 rfl ?_
  refine lv_aload_n hx hb dL_ifPlugged_3 rfl (lv_at hl 0 rfl) ?_
  refine lv_iload_n hx hb dL_ifPlugged_4 rfl (lv_at hl 1 rfl) ?_
  refine lv_iload_n hx hb dL_ifPlugged_5 rfl (lv_at hl 2 rfl) ?_
  refine lv_iload_n hx hb dL_ifPlugged_6 rfl (lv_at hl 3 rfl) ?_
  refine lv_iload hx hb dL_ifPlugged_7 (lv_at hl 4 rfl) ?_
  refine oc_T (As := [.int a1, .int a2, .int a3, .int a4]) (rest := [.int 0, .ref (ad 198)]) (pre := tableOf [(0, 14, 17, 21)]) (x := ⟨0, 14, 21, 13⟩) (suf := tableOf []) hx hb hml hown htg hK hI hP hS hl.1 hE htab (fun z hz => by cases List.mem_singleton.mp hz; exact ⟨by decide, _, kc_L_21, hlE.1⟩) (by decide) (by decide) kc_L_13 (by decide) hM cw_L_76 h0 rfl rfl ⟨Nat.succ_le_succ hfr, by show 8 + (5 + 11) + lo ≤ 480; omega⟩ (Nat.le_of_ble_eq_true rfl) dL_ifPlugged_9 ⟨Nat.le_of_ble_eq_true rfl, Nat.le_of_ble_eq_true rfl⟩ (fun q H locs hP hS => ?_)
  refine lv_astore (lv' := (6, .ref q) :: [(0, .ref (ad 0)), (1, .int a1), (2, .int a2), (3, .int a3), (4, .int a4), (5, .ref (ad 198))]) hx hb dL_ifPlugged_21 hl (by decide) rfl (fun ls hl => ?_)
  refine lv_iconst (v := 2) hx hb dL_ifPlugged_23 rfl ?_
  exact oc_ret hx hb hr hlocks hK hI hP hS ⟨Nat.le_of_ble_eq_true rfl, Nat.le_of_ble_eq_true rfl⟩ dL_ifPlugged_24
set_option maxRecDepth 100000 in
theorem mL_tripsIn {l : Launch} {D : va_G} {ct : Nat → ClassId} {cL : ClassId} {ad : Nat → Nat} {fr lo : Nat} {a1 : Int32} {ce ce' : Nat → va_E} {fs : List Value} {v : Int64} {r : Int32} (h0 : ce 0 = .inr (5, fs)) (hfr : fr ≤ 11) (hlo : lo ≤ 400) (hM : GMet l yX5_tripsIn cX5_tripsIn 3 (some .int) fr lo D ct 198 ad [.ref (ad 0), .int a1] ce (some (.int r)) ce') : OMet l yL_tripsIn cL_tripsIn 4 [(0, 9, 12, 13)] D ct cL ad [.ref (ad 0), .int a1, .ref (ad 198)] ce v 0 ce' r.toInt64 := by
  refine OMet.of (by decide +kernel) (Nat.le_of_ble_eq_true rfl) ?_
  intro p e s m args below meth c ls hx hb hr hml hown hlocks htg hK hI hP hS hl htab hE hlE
  have hl : lv_has ls 4 [(0, .ref (ad 0)), (1, .int a1), (2, .ref (ad 198))] := hl
  refine lv_aload_n hx hb dL_tripsIn_0 rfl (lv_at hl 2 rfl) ?_
  refine lv_iconst (v := 0) hx hb dL_tripsIn_1 rfl ?_
  refine lv_aload_n hx hb dL_tripsIn_2 rfl (lv_at hl 0 rfl) ?_
  refine lv_iload_n hx hb dL_tripsIn_3 rfl (lv_at hl 1 rfl) ?_
  refine oc_V (As := [.int a1]) (rest := [.int 0, .ref (ad 198)]) hx hb hml hown htg hK hI hP hS hl.1 hE hM cw_L_79 h0 rfl rfl ⟨Nat.succ_le_succ hfr, by show 8 + (3 + 11) + lo ≤ 480; omega⟩ (Nat.le_of_ble_eq_true rfl) dL_tripsIn_4 ⟨Nat.le_of_ble_eq_true rfl, Nat.le_of_ble_eq_true rfl⟩ (fun H locs hP hS => ?_)
  refine lv_i2l (v := r.toInt64) hx hb dL_tripsIn_7 rfl ?_
  refine oc_out hx hb hK hI hP hS dL_tripsIn_8 (fun H locs hP hS => ?_)
  refine lv_goto (tgt := 15) hx hb dL_tripsIn_9 rfl ?_
  refine lv_iconst (v := 0) hx hb dL_tripsIn_15 rfl ?_
  exact oc_ret hx hb hr hlocks hK hI hP hS ⟨Nat.le_of_ble_eq_true rfl, Nat.le_of_ble_eq_true rfl⟩ dL_tripsIn_16
set_option maxRecDepth 100000 in
theorem mL_tripsIn_EA {l : Launch} {D : va_G} {ct : Nat → ClassId} {cL : ClassId} {ad : Nat → Nat} {fr lo : Nat} {a1 : Int32} {ce ce' : Nat → va_E} {fs : List Value} {v : Int64} (h0 : ce 0 = .inr (5, fs)) (hfr : fr ≤ 11) (hlo : lo ≤ 400) (hM : TMet l yX5_tripsIn cX5_tripsIn 3 (some .int) fr lo D ct 198 ad [.ref (ad 0), .int a1] ce EA ce') : OMet l yL_tripsIn cL_tripsIn 4 [(0, 9, 12, 13)] D ct cL ad [.ref (ad 0), .int a1, .ref (ad 198)] ce v 1 ce' v := by
  refine OMet.of (by decide +kernel) (Nat.le_of_ble_eq_true rfl) ?_
  intro p e s m args below meth c ls hx hb hr hml hown hlocks htg hK hI hP hS hl htab hE hlE
  have hl : lv_has ls 4 [(0, .ref (ad 0)), (1, .int a1), (2, .ref (ad 198))] := hl
  refine lv_aload_n hx hb dL_tripsIn_0 rfl (lv_at hl 2 rfl) ?_
  refine lv_iconst (v := 0) hx hb dL_tripsIn_1 rfl ?_
  refine lv_aload_n hx hb dL_tripsIn_2 rfl (lv_at hl 0 rfl) ?_
  refine lv_iload_n hx hb dL_tripsIn_3 rfl (lv_at hl 1 rfl) ?_
  refine oc_T (As := [.int a1]) (rest := [.int 0, .ref (ad 198)]) (pre := tableOf []) (x := ⟨0, 9, 12, 13⟩) (suf := tableOf []) hx hb hml hown htg hK hI hP hS hl.1 hE htab (fun z hz => absurd hz List.not_mem_nil) (by decide) (by decide) kc_L_13 (by decide) hM cw_L_79 h0 rfl rfl ⟨Nat.succ_le_succ hfr, by show 8 + (3 + 11) + lo ≤ 480; omega⟩ (Nat.le_of_ble_eq_true rfl) dL_tripsIn_4 ⟨Nat.le_of_ble_eq_true rfl, Nat.le_of_ble_eq_true rfl⟩ (fun q H locs hP hS => ?_)
  refine lv_astore_n (lv' := (3, .ref q) :: [(0, .ref (ad 0)), (1, .int a1), (2, .ref (ad 198))]) hx hb dL_tripsIn_12 rfl hl (by decide) rfl (fun ls hl => ?_)
  refine lv_iconst (v := 1) hx hb dL_tripsIn_13 rfl ?_
  exact oc_ret hx hb hr hlocks hK hI hP hS ⟨Nat.le_of_ble_eq_true rfl, Nat.le_of_ble_eq_true rfl⟩ dL_tripsIn_14
set_option maxRecDepth 100000 in
theorem mL_bestSocket {l : Launch} {D : va_G} {ct : Nat → ClassId} {cL : ClassId} {ad : Nat → Nat} {fr lo : Nat} {a1 : Int32} {ce ce' : Nat → va_E} {fs : List Value} {v : Int64} {r : Int32} (h0 : ce 0 = .inr (5, fs)) (hfr : fr ≤ 11) (hlo : lo ≤ 400) (hM : GMet l yX5_bestSocket cX5_bestSocket 10 (some .int) fr lo D ct 198 ad [.ref (ad 0), .int a1] ce (some (.int r)) ce') : OMet l yL_bestSocket cL_bestSocket 4 [(0, 9, 12, 21)] D ct cL ad [.ref (ad 0), .int a1, .ref (ad 198)] ce v 0 ce' r.toInt64 := by
  refine OMet.of (by decide +kernel) (Nat.le_of_ble_eq_true rfl) ?_
  intro p e s m args below meth c ls hx hb hr hml hown hlocks htg hK hI hP hS hl htab hE hlE
  have hl : lv_has ls 4 [(0, .ref (ad 0)), (1, .int a1), (2, .ref (ad 198))] := hl
  refine lv_aload_n hx hb dL_bestSocket_0 rfl (lv_at hl 2 rfl) ?_
  refine lv_iconst (v := 0) hx hb dL_bestSocket_1 rfl ?_
  refine lv_aload_n hx hb dL_bestSocket_2 rfl (lv_at hl 0 rfl) ?_
  refine lv_iload_n hx hb dL_bestSocket_3 rfl (lv_at hl 1 rfl) ?_
  refine oc_V (As := [.int a1]) (rest := [.int 0, .ref (ad 198)]) hx hb hml hown htg hK hI hP hS hl.1 hE hM cw_L_82 h0 rfl rfl ⟨Nat.succ_le_succ hfr, by show 8 + (10 + 11) + lo ≤ 480; omega⟩ (Nat.le_of_ble_eq_true rfl) dL_bestSocket_4 ⟨Nat.le_of_ble_eq_true rfl, Nat.le_of_ble_eq_true rfl⟩ (fun H locs hP hS => ?_)
  refine lv_i2l (v := r.toInt64) hx hb dL_bestSocket_7 rfl ?_
  refine oc_out hx hb hK hI hP hS dL_bestSocket_8 (fun H locs hP hS => ?_)
  refine lv_goto (tgt := 15) hx hb dL_bestSocket_9 rfl ?_
  refine lv_iconst (v := 0) hx hb dL_bestSocket_15 rfl ?_
  exact oc_ret hx hb hr hlocks hK hI hP hS ⟨Nat.le_of_ble_eq_true rfl, Nat.le_of_ble_eq_true rfl⟩ dL_bestSocket_16
set_option maxRecDepth 100000 in
theorem mL_bestSocket_EI {l : Launch} {D : va_G} {ct : Nat → ClassId} {cL : ClassId} {ad : Nat → Nat} {fr lo : Nat} {a1 : Int32} {ce ce' : Nat → va_E} {fs : List Value} {v : Int64} (h0 : ce 0 = .inr (5, fs)) (hfr : fr ≤ 11) (hlo : lo ≤ 400) (hM : TMet l yX5_bestSocket cX5_bestSocket 10 (some .int) fr lo D ct 198 ad [.ref (ad 0), .int a1] ce EI ce') : OMet l yL_bestSocket cL_bestSocket 4 [(0, 9, 12, 21)] D ct cL ad [.ref (ad 0), .int a1, .ref (ad 198)] ce v 1 ce' v := by
  refine OMet.of (by decide +kernel) (Nat.le_of_ble_eq_true rfl) ?_
  intro p e s m args below meth c ls hx hb hr hml hown hlocks htg hK hI hP hS hl htab hE hlE
  have hl : lv_has ls 4 [(0, .ref (ad 0)), (1, .int a1), (2, .ref (ad 198))] := hl
  refine lv_aload_n hx hb dL_bestSocket_0 rfl (lv_at hl 2 rfl) ?_
  refine lv_iconst (v := 0) hx hb dL_bestSocket_1 rfl ?_
  refine lv_aload_n hx hb dL_bestSocket_2 rfl (lv_at hl 0 rfl) ?_
  refine lv_iload_n hx hb dL_bestSocket_3 rfl (lv_at hl 1 rfl) ?_
  refine oc_T (As := [.int a1]) (rest := [.int 0, .ref (ad 198)]) (pre := tableOf []) (x := ⟨0, 9, 12, 21⟩) (suf := tableOf []) hx hb hml hown htg hK hI hP hS hl.1 hE htab (fun z hz => absurd hz List.not_mem_nil) (by decide) (by decide) kc_L_21 (by decide) hM cw_L_82 h0 rfl rfl ⟨Nat.succ_le_succ hfr, by show 8 + (10 + 11) + lo ≤ 480; omega⟩ (Nat.le_of_ble_eq_true rfl) dL_bestSocket_4 ⟨Nat.le_of_ble_eq_true rfl, Nat.le_of_ble_eq_true rfl⟩ (fun q H locs hP hS => ?_)
  refine lv_astore_n (lv' := (3, .ref q) :: [(0, .ref (ad 0)), (1, .int a1), (2, .ref (ad 198))]) hx hb dL_bestSocket_12 rfl hl (by decide) rfl (fun ls hl => ?_)
  refine lv_iconst (v := 1) hx hb dL_bestSocket_13 rfl ?_
  exact oc_ret hx hb hr hlocks hK hI hP hS ⟨Nat.le_of_ble_eq_true rfl, Nat.le_of_ble_eq_true rfl⟩ dL_bestSocket_14
set_option maxRecDepth 100000 in
theorem mL_leastBound {l : Launch} {D : va_G} {ct : Nat → ClassId} {cL : ClassId} {ad : Nat → Nat} {fr lo : Nat} {a1 : Int32} {ce ce' : Nat → va_E} {fs : List Value} {v : Int64} {r : Int32} (h0 : ce 0 = .inr (5, fs)) (hfr : fr ≤ 11) (hlo : lo ≤ 400) (hM : GMet l yX5_leastBound cX5_leastBound 4 (some .int) fr lo D ct 198 ad [.ref (ad 0), .int a1] ce (some (.int r)) ce') : OMet l yL_leastBound cL_leastBound 4 [(0, 9, 12, 13)] D ct cL ad [.ref (ad 0), .int a1, .ref (ad 198)] ce v 0 ce' r.toInt64 := by
  refine OMet.of (by decide +kernel) (Nat.le_of_ble_eq_true rfl) ?_
  intro p e s m args below meth c ls hx hb hr hml hown hlocks htg hK hI hP hS hl htab hE hlE
  have hl : lv_has ls 4 [(0, .ref (ad 0)), (1, .int a1), (2, .ref (ad 198))] := hl
  refine lv_aload_n hx hb dL_leastBound_0 rfl (lv_at hl 2 rfl) ?_
  refine lv_iconst (v := 0) hx hb dL_leastBound_1 rfl ?_
  refine lv_aload_n hx hb dL_leastBound_2 rfl (lv_at hl 0 rfl) ?_
  refine lv_iload_n hx hb dL_leastBound_3 rfl (lv_at hl 1 rfl) ?_
  refine oc_V (As := [.int a1]) (rest := [.int 0, .ref (ad 198)]) hx hb hml hown htg hK hI hP hS hl.1 hE hM cw_L_85 h0 rfl rfl ⟨Nat.succ_le_succ hfr, by show 8 + (4 + 11) + lo ≤ 480; omega⟩ (Nat.le_of_ble_eq_true rfl) dL_leastBound_4 ⟨Nat.le_of_ble_eq_true rfl, Nat.le_of_ble_eq_true rfl⟩ (fun H locs hP hS => ?_)
  refine lv_i2l (v := r.toInt64) hx hb dL_leastBound_7 rfl ?_
  refine oc_out hx hb hK hI hP hS dL_leastBound_8 (fun H locs hP hS => ?_)
  refine lv_goto (tgt := 15) hx hb dL_leastBound_9 rfl ?_
  refine lv_iconst (v := 0) hx hb dL_leastBound_15 rfl ?_
  exact oc_ret hx hb hr hlocks hK hI hP hS ⟨Nat.le_of_ble_eq_true rfl, Nat.le_of_ble_eq_true rfl⟩ dL_leastBound_16
set_option maxRecDepth 100000 in
theorem mL_leastBound_EA {l : Launch} {D : va_G} {ct : Nat → ClassId} {cL : ClassId} {ad : Nat → Nat} {fr lo : Nat} {a1 : Int32} {ce ce' : Nat → va_E} {fs : List Value} {v : Int64} (h0 : ce 0 = .inr (5, fs)) (hfr : fr ≤ 11) (hlo : lo ≤ 400) (hM : TMet l yX5_leastBound cX5_leastBound 4 (some .int) fr lo D ct 198 ad [.ref (ad 0), .int a1] ce EA ce') : OMet l yL_leastBound cL_leastBound 4 [(0, 9, 12, 13)] D ct cL ad [.ref (ad 0), .int a1, .ref (ad 198)] ce v 1 ce' v := by
  refine OMet.of (by decide +kernel) (Nat.le_of_ble_eq_true rfl) ?_
  intro p e s m args below meth c ls hx hb hr hml hown hlocks htg hK hI hP hS hl htab hE hlE
  have hl : lv_has ls 4 [(0, .ref (ad 0)), (1, .int a1), (2, .ref (ad 198))] := hl
  refine lv_aload_n hx hb dL_leastBound_0 rfl (lv_at hl 2 rfl) ?_
  refine lv_iconst (v := 0) hx hb dL_leastBound_1 rfl ?_
  refine lv_aload_n hx hb dL_leastBound_2 rfl (lv_at hl 0 rfl) ?_
  refine lv_iload_n hx hb dL_leastBound_3 rfl (lv_at hl 1 rfl) ?_
  refine oc_T (As := [.int a1]) (rest := [.int 0, .ref (ad 198)]) (pre := tableOf []) (x := ⟨0, 9, 12, 13⟩) (suf := tableOf []) hx hb hml hown htg hK hI hP hS hl.1 hE htab (fun z hz => absurd hz List.not_mem_nil) (by decide) (by decide) kc_L_13 (by decide) hM cw_L_85 h0 rfl rfl ⟨Nat.succ_le_succ hfr, by show 8 + (4 + 11) + lo ≤ 480; omega⟩ (Nat.le_of_ble_eq_true rfl) dL_leastBound_4 ⟨Nat.le_of_ble_eq_true rfl, Nat.le_of_ble_eq_true rfl⟩ (fun q H locs hP hS => ?_)
  refine lv_astore_n (lv' := (3, .ref q) :: [(0, .ref (ad 0)), (1, .int a1), (2, .ref (ad 198))]) hx hb dL_leastBound_12 rfl hl (by decide) rfl (fun ls hl => ?_)
  refine lv_iconst (v := 1) hx hb dL_leastBound_13 rfl ?_
  exact oc_ret hx hb hr hlocks hK hI hP hS ⟨Nat.le_of_ble_eq_true rfl, Nat.le_of_ble_eq_true rfl⟩ dL_leastBound_14
