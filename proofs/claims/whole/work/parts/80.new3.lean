/-! WHAT IS MADE: the constructors of stalls, breakers, the plan, the reference -/
theorem ac_i : Cond.arrayClass (newarray.typeOf .int) ∈ wB := xb (by decide +kernel) (by decide +kernel)
theorem ac_z : Cond.arrayClass (newarray.typeOf .boolean) ∈ wB := xb (by decide +kernel) (by decide +kernel)
theorem ac_c : Cond.arrayClass (newarray.typeOf .char) ∈ wB := xb (by decide +kernel) (by decide +kernel)
set_option maxRecDepth 100000 in
set_option maxHeartbeats 4000000 in
theorem mX4_init (l : Launch) (D : va_G) (ct : Nat → ClassId) (q sz : Nat) : CMet l yX4_init cX4_init 1 1 14 0 0 D ct q sz 4 [.int 0, .int 0, .int 0, .int 0, .int 0, .int 0, .int 0, .int 0, .int 0] 1 (fun _ _ => .inr (4, [.int 0, .int 0, .int 0, .int 0, .int (-1), .int 0, .int 0, .int 0, .int (-1)])) := by
  refine CMet.of (by decide +kernel) rfl (Nat.le_of_ble_eq_true rfl) ?_
  intro p e s m args below meth c ls hx hb hr hml hown hlocks hin htg hK hsz hq hP hS hl hE
  have hI : fI 1 (fun _ : Nat => q) := fun i j hi hj _ => by omega
  have hA0 : ∀ k, k < 1 → nZ q sz ((fun _ : Nat => q) k) := fun _ _ => Or.inl rfl
  have hA : ∀ x, s.heap.size ≤ x → nZ q sz x := fun x h => Or.inr (by rw [← hsz]; exact h)
  refine lv_aload_n hx hb dX4_init_0 rfl (lv_at hl 0 rfl) ?_
  refine W.objInit hx hb hown (htg _ ko_X4) (htg _ ko_2) (htg _ ko_3) rfl (by rw [hml]; exact hl.1) rfl dX4_init_1 (Nat.le_of_ble_eq_true rfl) (Nat.le_of_ble_eq_true rfl) ?_
  refine W.eq (g2 := F0 m 4 ls []) rfl ?_
  refine lv_aload_n hx hb dX4_init_4 rfl (lv_at hl 0 rfl) ?_
  refine lv_iconst (v := -1) hx hb dX4_init_5 (by decide) ?_
  refine fr_put (k := 0) (ad := fun _ => q) (ci := 4) (fs := [.int 0, .int 0, .int 0, .int 0, .int 0, .int 0, .int 0, .int 0, .int 0]) (ty := .int) (v := .int (-1)) hx hb hown htg hK hI hP hS hA0 (by decide) rfl rfl inB_X4 tyX4 tyX4_ok nmX4 (j := 4) (by decide) fl_X4_9 rfl rfl rfl rfl rfl (Nat.le_of_ble_eq_true rfl) dX4_init_6 (fun _ _ => rfl) (fun H locs hP hS => ?_)
  refine lv_aload_n hx hb dX4_init_9 rfl (lv_at hl 0 rfl) ?_
  refine lv_iconst (v := -1) hx hb dX4_init_10 (by decide) ?_
  refine fr_put (k := 0) (ad := fun _ => q) (ci := 4) (fs := [.int 0, .int 0, .int 0, .int 0, .int (-1), .int 0, .int 0, .int 0, .int 0]) (ty := .int) (v := .int (-1)) hx hb hown htg hK hI hP hS hA0 (by decide) rfl rfl inB_X4 tyX4 tyX4_ok nmX4 (j := 8) (by decide) fl_X4_15 rfl rfl rfl rfl rfl (Nat.le_of_ble_eq_true rfl) dX4_init_11 (fun _ _ => rfl) (fun H locs hP hS => ?_)
  exact rn_ret (ad := fun _ => q) hx hb hr hlocks hsz rfl hI hA0 hS dX4_init_14 (hP.ext (fun i hi => by rcases i with _ | i <;> first | rfl | exact absurd hi (by show ¬ i + 1 < 1; omega))) rfl rfl
set_option maxRecDepth 100000 in
set_option maxHeartbeats 4000000 in
theorem mX0_init (l : Launch) (D : va_G) (ct : Nat → ClassId) (q sz : Nat) : CMet l yX0_init cX0_init 1 1 14 0 0 D ct q sz 0 [.int 0, .int 0, .int 0, .int 0, .int 0, .int 0] 1 (fun _ _ => .inr (0, [.int (nI 200), .int (nI 1), .int 0, .int 0, .int 0, .int 0])) := by
  refine CMet.of (by decide +kernel) rfl (Nat.le_of_ble_eq_true rfl) ?_
  intro p e s m args below meth c ls hx hb hr hml hown hlocks hin htg hK hsz hq hP hS hl hE
  have hI : fI 1 (fun _ : Nat => q) := fun i j hi hj _ => by omega
  have hA0 : ∀ k, k < 1 → nZ q sz ((fun _ : Nat => q) k) := fun _ _ => Or.inl rfl
  have hA : ∀ x, s.heap.size ≤ x → nZ q sz x := fun x h => Or.inr (by rw [← hsz]; exact h)
  refine lv_aload_n hx hb dX0_init_0 rfl (lv_at hl 0 rfl) ?_
  refine W.objInit hx hb hown (htg _ ko_X0) (htg _ ko_2) (htg _ ko_3) rfl (by rw [hml]; exact hl.1) rfl dX0_init_1 (Nat.le_of_ble_eq_true rfl) (Nat.le_of_ble_eq_true rfl) ?_
  refine W.eq (g2 := F0 m 4 ls []) rfl ?_
  refine lv_aload_n hx hb dX0_init_4 rfl (lv_at hl 0 rfl) ?_
  refine lv_sipush (v := nI 200) hx hb dX0_init_5 (by decide) ?_
  refine fr_put (k := 0) (ad := fun _ => q) (ci := 0) (fs := [.int 0, .int 0, .int 0, .int 0, .int 0, .int 0]) (ty := .int) (v := .int (nI 200)) hx hb hown htg hK hI hP hS hA0 (by decide) rfl rfl inB_X0 tyX0 tyX0_ok nmX0 (j := 0) (by decide) fl_X0_9 rfl rfl rfl rfl rfl (Nat.le_of_ble_eq_true rfl) dX0_init_8 (fun _ _ => rfl) (fun H locs hP hS => ?_)
  refine lv_aload_n hx hb dX0_init_11 rfl (lv_at hl 0 rfl) ?_
  refine lv_iconst (v := nI 1) hx hb dX0_init_12 (by decide) ?_
  refine fr_put (k := 0) (ad := fun _ => q) (ci := 0) (fs := [.int (nI 200), .int 0, .int 0, .int 0, .int 0, .int 0]) (ty := .boolean) (v := .int (nI 1)) hx hb hown htg hK hI hP hS hA0 (by decide) rfl rfl inB_X0 tyX0 tyX0_ok nmX0 (j := 1) (by decide) fl_X0_15 rfl rfl rfl rfl rfl (Nat.le_of_ble_eq_true rfl) dX0_init_13 (fun _ _ => rfl) (fun H locs hP hS => ?_)
  exact rn_ret (ad := fun _ => q) hx hb hr hlocks hsz rfl hI hA0 hS dX0_init_16 (hP.ext (fun i hi => by rcases i with _ | i <;> first | rfl | exact absurd hi (by show ¬ i + 1 < 1; omega))) rfl rfl
set_option maxRecDepth 100000 in
set_option maxHeartbeats 4000000 in
theorem mX3_init (l : Launch) (D : va_G) (ct : Nat → ClassId) (q sz : Nat) : CMet l yX3_init cX3_init 1 1 14 2 64 D ct q sz 3 [.null, .int 0, .int 0, .int 0, .null] 3 (fun ad => ptc ct ad (fun _ => 0) (fun _ => 0) 0 0 0) := by
  refine CMet.of (by decide +kernel) rfl (Nat.le_of_ble_eq_true rfl) ?_
  intro p e s m args below meth c ls hx hb hr hml hown hlocks hin htg hK hsz hq hP hS hl hE
  have hI : fI 1 (fun _ : Nat => q) := fun i j hi hj _ => by omega
  have hA0 : ∀ k, k < 1 → nZ q sz ((fun _ : Nat => q) k) := fun _ _ => Or.inl rfl
  have hA : ∀ x, s.heap.size ≤ x → nZ q sz x := fun x h => Or.inr (by rw [← hsz]; exact h)
  refine lv_aload_n hx hb dX3_init_0 rfl (lv_at hl 0 rfl) ?_
  refine W.objInit hx hb hown (htg _ ko_X3) (htg _ ko_2) (htg _ ko_3) rfl (by rw [hml]; exact hl.1) rfl dX3_init_1 (Nat.le_of_ble_eq_true rfl) (Nat.le_of_ble_eq_true rfl) ?_
  refine W.eq (g2 := F0 m 4 ls []) rfl ?_
  refine lv_aload_n hx hb dX3_init_4 rfl (lv_at hl 0 rfl) ?_
  refine lv_bipush (v := nI 60) hx hb dX3_init_5 (by decide) ?_
  refine rn_newa (atype := .char) (ty := .char) (k0 := 2) (n := 60) (a0 := (60, .inl (fun _ => 0))) hx hb htg hK hI hP hA0 hS hA ac_c rfl rfl (fun _ => rfl) (by decide) (Nat.le_of_ble_eq_true rfl) ⟨Nat.le_of_ble_eq_true rfl, Nat.le_of_ble_eq_true rfl⟩ dX3_init_7 (fun q1 H hP hI hA0 hS => ?_)
  refine rn_putF (k := 0) (N := 2) (ad := (adS (fun _ => q) 1 q1)) (ci := 3) (fs := [.null, .int 0, .int 0, .int 0, .null]) (ty := .array .char) (v := .ref q1) hx hb hown htg hK hI hP hS hA0 hin (by decide) rfl rfl inB_X3 tyX3 tyX3_ok nmX3 (j := 0) (by decide) fl_X3_9 rfl rfl rfl rfl rfl rfl (Nat.le_of_ble_eq_true rfl) dX3_init_9 (fun H locs hP hS => ?_)
  refine lv_aload_n hx hb dX3_init_12 rfl (lv_at hl 0 rfl) ?_
  refine lv_iconst (v := nI 4) hx hb dX3_init_13 (by decide) ?_
  refine rn_newa (atype := .int) (ty := .int) (k0 := 0) (n := 4) (a0 := (4, .inl (fun _ => 0))) hx hb htg hK hI hP hA0 hS hA ac_i rfl rfl (fun _ => rfl) (by decide) (Nat.le_of_ble_eq_true rfl) ⟨Nat.le_of_ble_eq_true rfl, Nat.le_of_ble_eq_true rfl⟩ dX3_init_14 (fun q2 H hP hI hA0 hS => ?_)
  refine rn_putF (k := 0) (N := 3) (ad := (adS (adS (fun _ => q) 1 q1) 2 q2)) (ci := 3) (fs := [.ref q1, .int 0, .int 0, .int 0, .null]) (ty := .array .int) (v := .ref q2) hx hb hown htg hK hI hP hS hA0 hin (by decide) rfl rfl inB_X3 tyX3 tyX3_ok nmX3 (j := 4) (by decide) fl_X3_15 rfl rfl rfl rfl rfl rfl (Nat.le_of_ble_eq_true rfl) dX3_init_16 (fun H locs hP hS => ?_)
  exact rn_ret (ad := (adS (adS (fun _ => q) 1 q1) 2 q2)) hx hb hr hlocks hsz rfl hI (fun k hk => hA0 k hk) hS dX3_init_19 (hP.ext (fun i hi => by rcases i with _ | _ | _ | i <;> first | rfl | omega)) rfl rfl
/-- the reference's first row of numbers -/
def iZ : Nat → Int32 := upd (upd (upd (upd (upd (upd (upd (upd (upd (upd (fun _ => 0) 0 (nI 2)) 2 (nI 3)) (7 + 5 * 0 + 0) (nI 200)) (7 + 5 * 0 + 1) (nI 1)) (7 + 5 * 1 + 0) (nI 200)) (7 + 5 * 1 + 1) (nI 1)) (7 + 5 * 2 + 0) (nI 200)) (7 + 5 * 2 + 1) (nI 1)) (7 + 5 * 3 + 0) (nI 200)) (7 + 5 * 3 + 1) (nI 1)
set_option maxRecDepth 100000 in
set_option maxHeartbeats 4000000 in
theorem mX6_init (l : Launch) (D : va_G) (ct : Nat → ClassId) (q sz : Nat) : CMet l yX6_init cX6_init 2 2 60 7 1362 D ct q sz 6 [.int 0, .null, .null, .int 0, .null, .null, .null, .null, .int 0, .null, .int 0, .int 0, .int 0, .long 0] 8 (fun ad => mdc ct ad iZ (fun _ => 0) 0 (fun _ _ => 0)) := by
  refine CMet.of (by decide +kernel) rfl (Nat.le_of_ble_eq_true rfl) ?_
  intro p e s m args below meth c ls hx hb hr hml hown hlocks hin htg hK hsz hq hP hS hl hE
  have hI : fI 1 (fun _ : Nat => q) := fun i j hi hj _ => by omega
  have hA0 : ∀ k, k < 1 → nZ q sz ((fun _ : Nat => q) k) := fun _ _ => Or.inl rfl
  have hA : ∀ x, s.heap.size ≤ x → nZ q sz x := fun x h => Or.inr (by rw [← hsz]; exact h)
  refine lv_aload_n hx hb dX6_init_0 rfl (lv_at hl 0 rfl) ?_
  refine W.objInit hx hb hown (htg _ ko_X6) (htg _ ko_2) (htg _ ko_3) rfl (by rw [hml]; exact hl.1) rfl dX6_init_1 (Nat.le_of_ble_eq_true rfl) (Nat.le_of_ble_eq_true rfl) ?_
  refine W.eq (g2 := F0 m 4 ls []) rfl ?_
  refine lv_aload_n hx hb dX6_init_4 rfl (lv_at hl 0 rfl) ?_
  refine lv_bipush (v := nI 119) hx hb dX6_init_5 (by decide) ?_
  refine rn_newa (atype := .int) (ty := .int) (k0 := 0) (n := 119) (a0 := (119, .inl (fun _ => 0))) hx hb htg hK hI hP hA0 hS hA ac_i rfl rfl (fun _ => rfl) (by decide) (Nat.le_of_ble_eq_true rfl) ⟨Nat.le_of_ble_eq_true rfl, Nat.le_of_ble_eq_true rfl⟩ dX6_init_7 (fun q1 H hP hI hA0 hS => ?_)
  refine rn_putF (k := 0) (N := 2) (ad := (adS (fun _ => q) 1 q1)) (ci := 6) (fs := [.int 0, .null, .null, .int 0, .null, .null, .null, .null, .int 0, .null, .int 0, .int 0, .int 0, .long 0]) (ty := .array .int) (v := .ref q1) hx hb hown htg hK hI hP hS hA0 hin (by decide) rfl rfl inB_X6 tyX6 tyX6_ok nmX6 (j := 1) (by decide) fl_X6_7 rfl rfl rfl rfl rfl rfl (Nat.le_of_ble_eq_true rfl) dX6_init_9 (fun H locs hP hS => ?_)
  refine lv_aload_n hx hb dX6_init_12 rfl (lv_at hl 0 rfl) ?_
  refine lv_sipush (v := nI 714) hx hb dX6_init_13 (by decide) ?_
  refine rn_newa (atype := .int) (ty := .int) (k0 := 0) (n := 714) (a0 := (714, .inl (fun _ => 0))) hx hb htg hK hI hP hA0 hS hA ac_i rfl rfl (fun _ => rfl) (by decide) (Nat.le_of_ble_eq_true rfl) ⟨Nat.le_of_ble_eq_true rfl, Nat.le_of_ble_eq_true rfl⟩ dX6_init_16 (fun q2 H hP hI hA0 hS => ?_)
  refine rn_putF (k := 0) (N := 3) (ad := (adS (adS (fun _ => q) 1 q1) 2 q2)) (ci := 6) (fs := [.int 0, .ref q1, .null, .int 0, .null, .null, .null, .null, .int 0, .null, .int 0, .int 0, .int 0, .long 0]) (ty := .array .int) (v := .ref q2) hx hb hown htg hK hI hP hS hA0 hin (by decide) rfl rfl inB_X6 tyX6 tyX6_ok nmX6 (j := 2) (by decide) fl_X6_13 rfl rfl rfl rfl rfl rfl (Nat.le_of_ble_eq_true rfl) dX6_init_18 (fun H locs hP hS => ?_)
  refine lv_aload_n hx hb dX6_init_21 rfl (lv_at hl 0 rfl) ?_
  refine lv_sipush (v := nI 238) hx hb dX6_init_22 (by decide) ?_
  refine rn_newa (atype := .int) (ty := .int) (k0 := 0) (n := 238) (a0 := (238, .inl (fun _ => 0))) hx hb htg hK hI hP hA0 hS hA ac_i rfl rfl (fun _ => rfl) (by decide) (Nat.le_of_ble_eq_true rfl) ⟨Nat.le_of_ble_eq_true rfl, Nat.le_of_ble_eq_true rfl⟩ dX6_init_25 (fun q3 H hP hI hA0 hS => ?_)
  refine rn_putF (k := 0) (N := 4) (ad := (adS (adS (adS (fun _ => q) 1 q1) 2 q2) 3 q3)) (ci := 6) (fs := [.int 0, .ref q1, .ref q2, .int 0, .null, .null, .null, .null, .int 0, .null, .int 0, .int 0, .int 0, .long 0]) (ty := .array .int) (v := .ref q3) hx hb hown htg hK hI hP hS hA0 hin (by decide) rfl rfl inB_X6 tyX6 tyX6_ok nmX6 (j := 4) (by decide) fl_X6_16 rfl rfl rfl rfl rfl rfl (Nat.le_of_ble_eq_true rfl) dX6_init_27 (fun H locs hP hS => ?_)
  refine lv_aload_n hx hb dX6_init_30 rfl (lv_at hl 0 rfl) ?_
  refine lv_iconst (v := nI 2) hx hb dX6_init_31 (by decide) ?_
  refine rn_newa (atype := .boolean) (ty := .boolean) (k0 := 1) (n := 2) (a0 := (2, .inl (fun _ => 0))) hx hb htg hK hI hP hA0 hS hA ac_z rfl rfl (fun _ => rfl) (by decide) (Nat.le_of_ble_eq_true rfl) ⟨Nat.le_of_ble_eq_true rfl, Nat.le_of_ble_eq_true rfl⟩ dX6_init_32 (fun q4 H hP hI hA0 hS => ?_)
  refine rn_putF (k := 0) (N := 5) (ad := (adS (adS (adS (adS (fun _ => q) 1 q1) 2 q2) 3 q3) 4 q4)) (ci := 6) (fs := [.int 0, .ref q1, .ref q2, .int 0, .ref q3, .null, .null, .null, .int 0, .null, .int 0, .int 0, .int 0, .long 0]) (ty := .array .boolean) (v := .ref q4) hx hb hown htg hK hI hP hS hA0 hin (by decide) rfl rfl inB_X6 tyX6 tyX6_ok nmX6 (j := 5) (by decide) fl_X6_19 rfl rfl rfl rfl rfl rfl (Nat.le_of_ble_eq_true rfl) dX6_init_34 (fun H locs hP hS => ?_)
  refine lv_aload_n hx hb dX6_init_37 rfl (lv_at hl 0 rfl) ?_
  refine lv_bipush (v := nI 119) hx hb dX6_init_38 (by decide) ?_
  refine rn_newa (atype := .int) (ty := .int) (k0 := 0) (n := 119) (a0 := (119, .inl (fun _ => 0))) hx hb htg hK hI hP hA0 hS hA ac_i rfl rfl (fun _ => rfl) (by decide) (Nat.le_of_ble_eq_true rfl) ⟨Nat.le_of_ble_eq_true rfl, Nat.le_of_ble_eq_true rfl⟩ dX6_init_40 (fun q5 H hP hI hA0 hS => ?_)
  refine rn_putF (k := 0) (N := 6) (ad := (adS (adS (adS (adS (adS (fun _ => q) 1 q1) 2 q2) 3 q3) 4 q4) 5 q5)) (ci := 6) (fs := [.int 0, .ref q1, .ref q2, .int 0, .ref q3, .ref q4, .null, .null, .int 0, .null, .int 0, .int 0, .int 0, .long 0]) (ty := .array .int) (v := .ref q5) hx hb hown htg hK hI hP hS hA0 hin (by decide) rfl rfl inB_X6 tyX6 tyX6_ok nmX6 (j := 6) (by decide) fl_X6_23 rfl rfl rfl rfl rfl rfl (Nat.le_of_ble_eq_true rfl) dX6_init_42 (fun H locs hP hS => ?_)
  refine lv_aload_n hx hb dX6_init_45 rfl (lv_at hl 0 rfl) ?_
  refine lv_bipush (v := nI 60) hx hb dX6_init_46 (by decide) ?_
  refine rn_newa (atype := .int) (ty := .int) (k0 := 0) (n := 60) (a0 := (60, .inl (fun _ => 0))) hx hb htg hK hI hP hA0 hS hA ac_i rfl rfl (fun _ => rfl) (by decide) (Nat.le_of_ble_eq_true rfl) ⟨Nat.le_of_ble_eq_true rfl, Nat.le_of_ble_eq_true rfl⟩ dX6_init_48 (fun q6 H hP hI hA0 hS => ?_)
  refine rn_putF (k := 0) (N := 7) (ad := (adS (adS (adS (adS (adS (adS (fun _ => q) 1 q1) 2 q2) 3 q3) 4 q4) 5 q5) 6 q6)) (ci := 6) (fs := [.int 0, .ref q1, .ref q2, .int 0, .ref q3, .ref q4, .ref q5, .null, .int 0, .null, .int 0, .int 0, .int 0, .long 0]) (ty := .array .int) (v := .ref q6) hx hb hown htg hK hI hP hS hA0 hin (by decide) rfl rfl inB_X6 tyX6 tyX6_ok nmX6 (j := 7) (by decide) fl_X6_26 rfl rfl rfl rfl rfl rfl (Nat.le_of_ble_eq_true rfl) dX6_init_50 (fun H locs hP hS => ?_)
  refine lv_aload_n hx hb dX6_init_53 rfl (lv_at hl 0 rfl) ?_
  refine lv_bipush (v := nI 110) hx hb dX6_init_54 (by decide) ?_
  refine rn_newa (atype := .int) (ty := .int) (k0 := 0) (n := 110) (a0 := (110, .inl (fun _ => 0))) hx hb htg hK hI hP hA0 hS hA ac_i rfl rfl (fun _ => rfl) (by decide) (Nat.le_of_ble_eq_true rfl) ⟨Nat.le_of_ble_eq_true rfl, Nat.le_of_ble_eq_true rfl⟩ dX6_init_56 (fun q7 H hP hI hA0 hS => ?_)
  refine rn_putF (k := 0) (N := 8) (ad := (adS (adS (adS (adS (adS (adS (adS (fun _ => q) 1 q1) 2 q2) 3 q3) 4 q4) 5 q5) 6 q6) 7 q7)) (ci := 6) (fs := [.int 0, .ref q1, .ref q2, .int 0, .ref q3, .ref q4, .ref q5, .ref q6, .int 0, .null, .int 0, .int 0, .int 0, .long 0]) (ty := .array .int) (v := .ref q7) hx hb hown htg hK hI hP hS hA0 hin (by decide) rfl rfl inB_X6 tyX6 tyX6_ok nmX6 (j := 9) (by decide) fl_X6_29 rfl rfl rfl rfl rfl rfl (Nat.le_of_ble_eq_true rfl) dX6_init_58 (fun H locs hP hS => ?_)
  have hP : fP D 8 (adS (adS (adS (adS (adS (adS (adS (fun _ => q) 1 q1) 2 q2) 3 q3) 4 q4) 5 q5) 6 q6) 7 q7) (mdc ct (adS (adS (adS (adS (adS (adS (adS (fun _ => q) 1 q1) 2 q2) 3 q3) 4 q4) 5 q5) 6 q6) 7 q7) (fun _ => 0) (fun _ => 0) 0 (fun _ _ => 0)) H := hP.ext (fun i hi => by rcases i with _ | _ | _ | _ | _ | _ | _ | _ | i <;> first | rfl | omega)
  have had0 : (adS (adS (adS (adS (adS (adS (adS (fun _ => q) 1 q1) 2 q2) 3 q3) 4 q4) 5 q5) 6 q6) 7 q7) 0 = q := rfl
  generalize (adS (adS (adS (adS (adS (adS (adS (fun _ => q) 1 q1) 2 q2) 3 q3) 4 q4) 5 q5) 6 q6) 7 q7) = ad at hP hI hA0 had0
  have hA1 : ∀ x, fA 8 ad x → nZ q sz x := fun x hx1 => by obtain ⟨k, hk, rfl⟩ := hx1; exact hA0 k hk
  have hl : lv_has ls 2 [(0, .ref (ad 0))] := by rw [had0]; exact hl
  refine lv_aload_n hx hb dX6_init_61 rfl (lv_at hl 0 rfl) ?_
  refine fr_get (k := 0) (ci := 6) (fs := mdF ad (fun _ => 0) 0) hx hb hown htg hK hP (by decide) rfl rfl inB_X6 (j := 1) (by decide) fl_X6_7 rfl rfl dX6_init_62 ?_
  refine lv_iconst (v := nI 0) hx hb dX6_init_65 (by decide) ?_
  refine lv_iconst (v := nI 2) hx hb dX6_init_66 (by decide) ?_
  refine fr_iast (k := 1) (i := 0) (len := 119) (f := (fun _ => 0)) (ce' := mdc ct ad (upd (fun _ => 0) 0 (nI 2)) (fun _ => 0) 0 (fun _ _ => 0)) hx hb hK hI hP hS hA0 (by decide) rfl (by decide) (by decide) dX6_init_67 (fun j hj => by rcases j with _ | _ | _ | _ | _ | _ | _ | _ | j <;> first | rfl | omega) (fun H locs hP hS => ?_)
  refine lv_aload_n hx hb dX6_init_68 rfl (lv_at hl 0 rfl) ?_
  refine fr_get (k := 0) (ci := 6) (fs := mdF ad (fun _ => 0) 0) hx hb hown htg hK hP (by decide) rfl rfl inB_X6 (j := 1) (by decide) fl_X6_7 rfl rfl dX6_init_69 ?_
  refine lv_iconst (v := nI 2) hx hb dX6_init_72 (by decide) ?_
  refine lv_iconst (v := nI 3) hx hb dX6_init_73 (by decide) ?_
  refine fr_iast (k := 1) (i := 2) (len := 119) (f := (upd (fun _ => 0) 0 (nI 2))) (ce' := mdc ct ad (upd (upd (fun _ => 0) 0 (nI 2)) 2 (nI 3)) (fun _ => 0) 0 (fun _ _ => 0)) hx hb hK hI hP hS hA0 (by decide) rfl (by decide) (by decide) dX6_init_74 (fun j hj => by rcases j with _ | _ | _ | _ | _ | _ | _ | _ | j <;> first | rfl | omega) (fun H locs hP hS => ?_)
  refine lv_iconst (v := nI 0) hx hb dX6_init_75 (by decide) ?_
  refine lv_istore_n (lv' := [(1, .int (nI 0)), (0, .ref (ad 0))]) hx hb dX6_init_76 rfl hl (by decide) rfl (fun ls hl => ?_)
  refine lv_iload_n hx hb dX6_init_77 rfl (lv_at hl 0 rfl) ?_
  refine lv_iconst (v := nI 4) hx hb dX6_init_78 (by decide) ?_
  refine lv_icmp_ge (tgt := 104) hx hb dX6_init_79 (by decide) (fun h => absurd h (by decide)) (fun _ => ?_)
  refine lv_aload_n hx hb dX6_init_82 rfl (lv_at hl 1 rfl) ?_
  refine lv_iload_n hx hb dX6_init_83 rfl (lv_at hl 0 rfl) ?_
  refine lv_iconst (v := nI 0) hx hb dX6_init_84 (by decide) ?_
  refine lv_sipush (v := nI 200) hx hb dX6_init_85 (by decide) ?_
  refine fc_V (ad1 := ad) (N1 := 8) (k0 := 0) (As := [.int (nI 0), .int (nI 0), .int (nI 200)]) (rest := []) hx hb hml hown htg hK hS hl.1 hI hP hA1 (m6_put l D ct ad (upd (upd (fun _ => 0) 0 (nI 2)) 2 (nI 3)) (fun _ => 0) 0 (fun _ _ => 0) 0 0 (nI 200) (by decide) (by decide)) cw_X6_32 (by decide) rfl (ci := 6) rfl rfl rfl rfl ⟨Nat.le_of_ble_eq_true rfl, Nat.le_of_ble_eq_true rfl⟩ (Nat.le_of_ble_eq_true rfl) dX6_init_88 ⟨Nat.le_of_ble_eq_true rfl, Nat.le_of_ble_eq_true rfl⟩ (fun H locs hP _ _ hS => ?_)
  refine lv_aload_n hx hb dX6_init_91 rfl (lv_at hl 1 rfl) ?_
  refine lv_iload_n hx hb dX6_init_92 rfl (lv_at hl 0 rfl) ?_
  refine lv_iconst (v := nI 1) hx hb dX6_init_93 (by decide) ?_
  refine lv_iconst (v := nI 1) hx hb dX6_init_94 (by decide) ?_
  refine fc_V (ad1 := ad) (N1 := 8) (k0 := 0) (As := [.int (nI 0), .int (nI 1), .int (nI 1)]) (rest := []) hx hb hml hown htg hK hS hl.1 hI hP hA1 (m6_put l D ct ad (upd (upd (upd (fun _ => 0) 0 (nI 2)) 2 (nI 3)) (7 + 5 * 0 + 0) (nI 200)) (fun _ => 0) 0 (fun _ _ => 0) 0 1 (nI 1) (by decide) (by decide)) cw_X6_32 (by decide) rfl (ci := 6) rfl rfl rfl rfl ⟨Nat.le_of_ble_eq_true rfl, Nat.le_of_ble_eq_true rfl⟩ (Nat.le_of_ble_eq_true rfl) dX6_init_95 ⟨Nat.le_of_ble_eq_true rfl, Nat.le_of_ble_eq_true rfl⟩ (fun H locs hP _ _ hS => ?_)
  refine lv_iinc (v := nI 1) (lv' := [(1, .int (nI 1)), (0, .ref (ad 0))]) hx hb dX6_init_98 hl (k := 0) rfl (nI_add 0 1) (by decide) rfl (fun ls hl => ?_)
  refine lv_goto (tgt := 77) hx hb dX6_init_101 (by decide) ?_
  refine lv_iload_n hx hb dX6_init_77 rfl (lv_at hl 0 rfl) ?_
  refine lv_iconst (v := nI 4) hx hb dX6_init_78 (by decide) ?_
  refine lv_icmp_ge (tgt := 104) hx hb dX6_init_79 (by decide) (fun h => absurd h (by decide)) (fun _ => ?_)
  refine lv_aload_n hx hb dX6_init_82 rfl (lv_at hl 1 rfl) ?_
  refine lv_iload_n hx hb dX6_init_83 rfl (lv_at hl 0 rfl) ?_
  refine lv_iconst (v := nI 0) hx hb dX6_init_84 (by decide) ?_
  refine lv_sipush (v := nI 200) hx hb dX6_init_85 (by decide) ?_
  refine fc_V (ad1 := ad) (N1 := 8) (k0 := 0) (As := [.int (nI 1), .int (nI 0), .int (nI 200)]) (rest := []) hx hb hml hown htg hK hS hl.1 hI hP hA1 (m6_put l D ct ad (upd (upd (upd (upd (fun _ => 0) 0 (nI 2)) 2 (nI 3)) (7 + 5 * 0 + 0) (nI 200)) (7 + 5 * 0 + 1) (nI 1)) (fun _ => 0) 0 (fun _ _ => 0) 1 0 (nI 200) (by decide) (by decide)) cw_X6_32 (by decide) rfl (ci := 6) rfl rfl rfl rfl ⟨Nat.le_of_ble_eq_true rfl, Nat.le_of_ble_eq_true rfl⟩ (Nat.le_of_ble_eq_true rfl) dX6_init_88 ⟨Nat.le_of_ble_eq_true rfl, Nat.le_of_ble_eq_true rfl⟩ (fun H locs hP _ _ hS => ?_)
  refine lv_aload_n hx hb dX6_init_91 rfl (lv_at hl 1 rfl) ?_
  refine lv_iload_n hx hb dX6_init_92 rfl (lv_at hl 0 rfl) ?_
  refine lv_iconst (v := nI 1) hx hb dX6_init_93 (by decide) ?_
  refine lv_iconst (v := nI 1) hx hb dX6_init_94 (by decide) ?_
  refine fc_V (ad1 := ad) (N1 := 8) (k0 := 0) (As := [.int (nI 1), .int (nI 1), .int (nI 1)]) (rest := []) hx hb hml hown htg hK hS hl.1 hI hP hA1 (m6_put l D ct ad (upd (upd (upd (upd (upd (fun _ => 0) 0 (nI 2)) 2 (nI 3)) (7 + 5 * 0 + 0) (nI 200)) (7 + 5 * 0 + 1) (nI 1)) (7 + 5 * 1 + 0) (nI 200)) (fun _ => 0) 0 (fun _ _ => 0) 1 1 (nI 1) (by decide) (by decide)) cw_X6_32 (by decide) rfl (ci := 6) rfl rfl rfl rfl ⟨Nat.le_of_ble_eq_true rfl, Nat.le_of_ble_eq_true rfl⟩ (Nat.le_of_ble_eq_true rfl) dX6_init_95 ⟨Nat.le_of_ble_eq_true rfl, Nat.le_of_ble_eq_true rfl⟩ (fun H locs hP _ _ hS => ?_)
  refine lv_iinc (v := nI 2) (lv' := [(1, .int (nI 2)), (0, .ref (ad 0))]) hx hb dX6_init_98 hl (k := 0) rfl (nI_add 1 1) (by decide) rfl (fun ls hl => ?_)
  refine lv_goto (tgt := 77) hx hb dX6_init_101 (by decide) ?_
  refine lv_iload_n hx hb dX6_init_77 rfl (lv_at hl 0 rfl) ?_
  refine lv_iconst (v := nI 4) hx hb dX6_init_78 (by decide) ?_
  refine lv_icmp_ge (tgt := 104) hx hb dX6_init_79 (by decide) (fun h => absurd h (by decide)) (fun _ => ?_)
  refine lv_aload_n hx hb dX6_init_82 rfl (lv_at hl 1 rfl) ?_
  refine lv_iload_n hx hb dX6_init_83 rfl (lv_at hl 0 rfl) ?_
  refine lv_iconst (v := nI 0) hx hb dX6_init_84 (by decide) ?_
  refine lv_sipush (v := nI 200) hx hb dX6_init_85 (by decide) ?_
  refine fc_V (ad1 := ad) (N1 := 8) (k0 := 0) (As := [.int (nI 2), .int (nI 0), .int (nI 200)]) (rest := []) hx hb hml hown htg hK hS hl.1 hI hP hA1 (m6_put l D ct ad (upd (upd (upd (upd (upd (upd (fun _ => 0) 0 (nI 2)) 2 (nI 3)) (7 + 5 * 0 + 0) (nI 200)) (7 + 5 * 0 + 1) (nI 1)) (7 + 5 * 1 + 0) (nI 200)) (7 + 5 * 1 + 1) (nI 1)) (fun _ => 0) 0 (fun _ _ => 0) 2 0 (nI 200) (by decide) (by decide)) cw_X6_32 (by decide) rfl (ci := 6) rfl rfl rfl rfl ⟨Nat.le_of_ble_eq_true rfl, Nat.le_of_ble_eq_true rfl⟩ (Nat.le_of_ble_eq_true rfl) dX6_init_88 ⟨Nat.le_of_ble_eq_true rfl, Nat.le_of_ble_eq_true rfl⟩ (fun H locs hP _ _ hS => ?_)
  refine lv_aload_n hx hb dX6_init_91 rfl (lv_at hl 1 rfl) ?_
  refine lv_iload_n hx hb dX6_init_92 rfl (lv_at hl 0 rfl) ?_
  refine lv_iconst (v := nI 1) hx hb dX6_init_93 (by decide) ?_
  refine lv_iconst (v := nI 1) hx hb dX6_init_94 (by decide) ?_
  refine fc_V (ad1 := ad) (N1 := 8) (k0 := 0) (As := [.int (nI 2), .int (nI 1), .int (nI 1)]) (rest := []) hx hb hml hown htg hK hS hl.1 hI hP hA1 (m6_put l D ct ad (upd (upd (upd (upd (upd (upd (upd (fun _ => 0) 0 (nI 2)) 2 (nI 3)) (7 + 5 * 0 + 0) (nI 200)) (7 + 5 * 0 + 1) (nI 1)) (7 + 5 * 1 + 0) (nI 200)) (7 + 5 * 1 + 1) (nI 1)) (7 + 5 * 2 + 0) (nI 200)) (fun _ => 0) 0 (fun _ _ => 0) 2 1 (nI 1) (by decide) (by decide)) cw_X6_32 (by decide) rfl (ci := 6) rfl rfl rfl rfl ⟨Nat.le_of_ble_eq_true rfl, Nat.le_of_ble_eq_true rfl⟩ (Nat.le_of_ble_eq_true rfl) dX6_init_95 ⟨Nat.le_of_ble_eq_true rfl, Nat.le_of_ble_eq_true rfl⟩ (fun H locs hP _ _ hS => ?_)
  refine lv_iinc (v := nI 3) (lv' := [(1, .int (nI 3)), (0, .ref (ad 0))]) hx hb dX6_init_98 hl (k := 0) rfl (nI_add 2 1) (by decide) rfl (fun ls hl => ?_)
  refine lv_goto (tgt := 77) hx hb dX6_init_101 (by decide) ?_
  refine lv_iload_n hx hb dX6_init_77 rfl (lv_at hl 0 rfl) ?_
  refine lv_iconst (v := nI 4) hx hb dX6_init_78 (by decide) ?_
  refine lv_icmp_ge (tgt := 104) hx hb dX6_init_79 (by decide) (fun h => absurd h (by decide)) (fun _ => ?_)
  refine lv_aload_n hx hb dX6_init_82 rfl (lv_at hl 1 rfl) ?_
  refine lv_iload_n hx hb dX6_init_83 rfl (lv_at hl 0 rfl) ?_
  refine lv_iconst (v := nI 0) hx hb dX6_init_84 (by decide) ?_
  refine lv_sipush (v := nI 200) hx hb dX6_init_85 (by decide) ?_
  refine fc_V (ad1 := ad) (N1 := 8) (k0 := 0) (As := [.int (nI 3), .int (nI 0), .int (nI 200)]) (rest := []) hx hb hml hown htg hK hS hl.1 hI hP hA1 (m6_put l D ct ad (upd (upd (upd (upd (upd (upd (upd (upd (fun _ => 0) 0 (nI 2)) 2 (nI 3)) (7 + 5 * 0 + 0) (nI 200)) (7 + 5 * 0 + 1) (nI 1)) (7 + 5 * 1 + 0) (nI 200)) (7 + 5 * 1 + 1) (nI 1)) (7 + 5 * 2 + 0) (nI 200)) (7 + 5 * 2 + 1) (nI 1)) (fun _ => 0) 0 (fun _ _ => 0) 3 0 (nI 200) (by decide) (by decide)) cw_X6_32 (by decide) rfl (ci := 6) rfl rfl rfl rfl ⟨Nat.le_of_ble_eq_true rfl, Nat.le_of_ble_eq_true rfl⟩ (Nat.le_of_ble_eq_true rfl) dX6_init_88 ⟨Nat.le_of_ble_eq_true rfl, Nat.le_of_ble_eq_true rfl⟩ (fun H locs hP _ _ hS => ?_)
  refine lv_aload_n hx hb dX6_init_91 rfl (lv_at hl 1 rfl) ?_
  refine lv_iload_n hx hb dX6_init_92 rfl (lv_at hl 0 rfl) ?_
  refine lv_iconst (v := nI 1) hx hb dX6_init_93 (by decide) ?_
  refine lv_iconst (v := nI 1) hx hb dX6_init_94 (by decide) ?_
  refine fc_V (ad1 := ad) (N1 := 8) (k0 := 0) (As := [.int (nI 3), .int (nI 1), .int (nI 1)]) (rest := []) hx hb hml hown htg hK hS hl.1 hI hP hA1 (m6_put l D ct ad (upd (upd (upd (upd (upd (upd (upd (upd (upd (fun _ => 0) 0 (nI 2)) 2 (nI 3)) (7 + 5 * 0 + 0) (nI 200)) (7 + 5 * 0 + 1) (nI 1)) (7 + 5 * 1 + 0) (nI 200)) (7 + 5 * 1 + 1) (nI 1)) (7 + 5 * 2 + 0) (nI 200)) (7 + 5 * 2 + 1) (nI 1)) (7 + 5 * 3 + 0) (nI 200)) (fun _ => 0) 0 (fun _ _ => 0) 3 1 (nI 1) (by decide) (by decide)) cw_X6_32 (by decide) rfl (ci := 6) rfl rfl rfl rfl ⟨Nat.le_of_ble_eq_true rfl, Nat.le_of_ble_eq_true rfl⟩ (Nat.le_of_ble_eq_true rfl) dX6_init_95 ⟨Nat.le_of_ble_eq_true rfl, Nat.le_of_ble_eq_true rfl⟩ (fun H locs hP _ _ hS => ?_)
  refine lv_iinc (v := nI 4) (lv' := [(1, .int (nI 4)), (0, .ref (ad 0))]) hx hb dX6_init_98 hl (k := 0) rfl (nI_add 3 1) (by decide) rfl (fun ls hl => ?_)
  refine lv_goto (tgt := 77) hx hb dX6_init_101 (by decide) ?_
  refine lv_iload_n hx hb dX6_init_77 rfl (lv_at hl 0 rfl) ?_
  refine lv_iconst (v := nI 4) hx hb dX6_init_78 (by decide) ?_
  refine lv_icmp_ge (tgt := 104) hx hb dX6_init_79 (by decide) (fun _ => ?_) (fun h => absurd (by decide) h)
  exact rn_ret (ad := ad) hx hb hr hlocks hsz had0 hI hA0 hS dX6_init_104 hP rfl rfl
