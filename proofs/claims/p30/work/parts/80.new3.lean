/-! WHAT IS MADE: the constructors of stalls, breakers, the plan, the reference -/
theorem ac_i : Cond.arrayClass (newarray.typeOf .int) ∈ wB := xb (by decide +kernel) (by decide +kernel)
theorem ac_z : Cond.arrayClass (newarray.typeOf .boolean) ∈ wB := xb (by decide +kernel) (by decide +kernel)
theorem ac_c : Cond.arrayClass (newarray.typeOf .char) ∈ wB := xb (by decide +kernel) (by decide +kernel)
set_option maxRecDepth 100000 in
set_option maxHeartbeats 4000000 in
theorem mX4_init (l : Launch) (D : va_G) (ct : Nat → ClassId) (q sz : Nat) : CMet l yX4_init cX4_init 1 1 14 0 0 D ct q sz 4 [.int 0, .int 0, .int 0, .int 0, .int 0, .int 0, .int 0, .int 0, .int 0] 1 (fun _ _ => .inr (4, [.int 0, .int 0, .int 0, .int 0, .int (-1), .int 0, .int 0, .int 0, .int (-1)])) := by
  refine CMet.of (by decide +kernel) rfl (Nat.le_of_ble_eq_true rfl) ?_
  intro p e s m args below meth c ls hx hb hr hml hown hlocks hin htg hK hsz hq hP hS hl hE
  have hI : fI 1 (fun _ : Nat => q) := fun i j hi hj _ => by omega
  have hA0 : ∀ k, k < 1 → nZ q sz ((fun _ : Nat => q) k) := fun _ _ => Or.inl rfl
  have hA : ∀ x, s.heap.size ≤ x → nZ q sz x := fun x h => Or.inr (by rw [← hsz]; exact h)
  refine lv_aload_n hx hb dX4_init_0 rfl (lv_at hl 0 rfl) ?_
  refine W.objInit hx hb hown (htg _ ko_X4) (htg _ ko_2) (htg _ ko_3) rfl (by rw [hml]; exact hl.1) rfl dX4_init_1 (Nat.le_of_ble_eq_true rfl) (Nat.le_of_ble_eq_true rfl) ?_
  refine W.eq (g2 := F0 m 4 ls []) rfl ?_
  refine lv_aload_n hx hb dX4_init_4 rfl (lv_at hl 0 rfl) ?_
  refine lv_iconst (v := -1) hx hb dX4_init_5 (by decide) ?_
  refine fr_put (k := 0) (ad := fun _ => q) (ci := 4) (fs := [.int 0, .int 0, .int 0, .int 0, .int 0, .int 0, .int 0, .int 0, .int 0]) (ty := .int) (v := .int (-1)) hx hb hown htg hK hI hP hS hA0 (by decide) rfl rfl inB_X4 tyX4 tyX4_ok nmX4 (j := 4) (by decide) fl_X4_9 rfl rfl rfl rfl rfl (Nat.le_of_ble_eq_true rfl) dX4_init_6 (fun _ _ => rfl) (fun H locs hP hS => ?_)
  refine lv_aload_n hx hb dX4_init_9 rfl (lv_at hl 0 rfl) ?_
  refine lv_iconst (v := -1) hx hb dX4_init_10 (by decide) ?_
  refine fr_put (k := 0) (ad := fun _ => q) (ci := 4) (fs := [.int 0, .int 0, .int 0, .int 0, .int (-1), .int 0, .int 0, .int 0, .int 0]) (ty := .int) (v := .int (-1)) hx hb hown htg hK hI hP hS hA0 (by decide) rfl rfl inB_X4 tyX4 tyX4_ok nmX4 (j := 8) (by decide) fl_X4_15 rfl rfl rfl rfl rfl (Nat.le_of_ble_eq_true rfl) dX4_init_11 (fun _ _ => rfl) (fun H locs hP hS => ?_)
  exact rn_ret (ad := fun _ => q) hx hb hr hlocks hsz rfl hI hA0 hS dX4_init_14 (hP.ext (fun i hi => by rcases i with _ | i <;> first | rfl | exact absurd hi (by show ¬ i + 1 < 1; omega))) rfl rfl
set_option maxRecDepth 100000 in
set_option maxHeartbeats 4000000 in
theorem mX0_init (l : Launch) (D : va_G) (ct : Nat → ClassId) (q sz : Nat) : CMet l yX0_init cX0_init 1 1 14 0 0 D ct q sz 0 [.int 0, .int 0, .int 0, .int 0, .int 0, .int 0] 1 (fun _ _ => .inr (0, [.int (nI 200), .int (nI 1), .int 0, .int 0, .int 0, .int 0])) := by
  refine CMet.of (by decide +kernel) rfl (Nat.le_of_ble_eq_true rfl) ?_
  intro p e s m args below meth c ls hx hb hr hml hown hlocks hin htg hK hsz hq hP hS hl hE
  have hI : fI 1 (fun _ : Nat => q) := fun i j hi hj _ => by omega
  have hA0 : ∀ k, k < 1 → nZ q sz ((fun _ : Nat => q) k) := fun _ _ => Or.inl rfl
  have hA : ∀ x, s.heap.size ≤ x → nZ q sz x := fun x h => Or.inr (by rw [← hsz]; exact h)
  refine lv_aload_n hx hb dX0_init_0 rfl (lv_at hl 0 rfl) ?_
  refine W.objInit hx hb hown (htg _ ko_X0) (htg _ ko_2) (htg _ ko_3) rfl (by rw [hml]; exact hl.1) rfl dX0_init_1 (Nat.le_of_ble_eq_true rfl) (Nat.le_of_ble_eq_true rfl) ?_
  refine W.eq (g2 := F0 m 4 ls []) rfl ?_
  refine lv_aload_n hx hb dX0_init_4 rfl (lv_at hl 0 rfl) ?_
  refine lv_sipush (v := nI 200) hx hb dX0_init_5 (by decide) ?_
  refine fr_put (k := 0) (ad := fun _ => q) (ci := 0) (fs := [.int 0, .int 0, .int 0, .int 0, .int 0, .int 0]) (ty := .int) (v := .int (nI 200)) hx hb hown htg hK hI hP hS hA0 (by decide) rfl rfl inB_X0 tyX0 tyX0_ok nmX0 (j := 0) (by decide) fl_X0_9 rfl rfl rfl rfl rfl (Nat.le_of_ble_eq_true rfl) dX0_init_8 (fun _ _ => rfl) (fun H locs hP hS => ?_)
  refine lv_aload_n hx hb dX0_init_11 rfl (lv_at hl 0 rfl) ?_
  refine lv_iconst (v := nI 1) hx hb dX0_init_12 (by decide) ?_
  refine fr_put (k := 0) (ad := fun _ => q) (ci := 0) (fs := [.int (nI 200), .int 0, .int 0, .int 0, .int 0, .int 0]) (ty := .boolean) (v := .int (nI 1)) hx hb hown htg hK hI hP hS hA0 (by decide) rfl rfl inB_X0 tyX0 tyX0_ok nmX0 (j := 1) (by decide) fl_X0_15 rfl rfl rfl rfl rfl (Nat.le_of_ble_eq_true rfl) dX0_init_13 (fun _ _ => rfl) (fun H locs hP hS => ?_)
  exact rn_ret (ad := fun _ => q) hx hb hr hlocks hsz rfl hI hA0 hS dX0_init_16 (hP.ext (fun i hi => by rcases i with _ | i <;> first | rfl | exact absurd hi (by show ¬ i + 1 < 1; omega))) rfl rfl
set_option maxRecDepth 100000 in
set_option maxHeartbeats 4000000 in
theorem mX3_init (l : Launch) (D : va_G) (ct : Nat → ClassId) (q sz : Nat) : CMet l yX3_init cX3_init 1 1 14 2 64 D ct q sz 3 [.null, .int 0, .int 0, .int 0, .null] 3 (fun ad => ptc ct ad (fun _ => 0) (fun _ => 0) 0 0 0) := by
  refine CMet.of (by decide +kernel) rfl (Nat.le_of_ble_eq_true rfl) ?_
  intro p e s m args below meth c ls hx hb hr hml hown hlocks hin htg hK hsz hq hP hS hl hE
  have hI : fI 1 (fun _ : Nat => q) := fun i j hi hj _ => by omega
  have hA0 : ∀ k, k < 1 → nZ q sz ((fun _ : Nat => q) k) := fun _ _ => Or.inl rfl
  have hA : ∀ x, s.heap.size ≤ x → nZ q sz x := fun x h => Or.inr (by rw [← hsz]; exact h)
  refine lv_aload_n hx hb dX3_init_0 rfl (lv_at hl 0 rfl) ?_
  refine W.objInit hx hb hown (htg _ ko_X3) (htg _ ko_2) (htg _ ko_3) rfl (by rw [hml]; exact hl.1) rfl dX3_init_1 (Nat.le_of_ble_eq_true rfl) (Nat.le_of_ble_eq_true rfl) ?_
  refine W.eq (g2 := F0 m 4 ls []) rfl ?_
  refine lv_aload_n hx hb dX3_init_4 rfl (lv_at hl 0 rfl) ?_
  refine lv_bipush (v := nI 60) hx hb dX3_init_5 (by decide) ?_
  refine rn_newa (atype := .char) (ty := .char) (k0 := 2) (n := 60) (a0 := (60, .inl (fun _ => 0))) hx hb htg hK hI hP hA0 hS hA ac_c rfl rfl (fun _ => rfl) (by decide) (Nat.le_of_ble_eq_true rfl) ⟨Nat.le_of_ble_eq_true rfl, Nat.le_of_ble_eq_true rfl⟩ dX3_init_7 (fun q1 H hP hI hA0 hS => ?_)
  refine rn_putF (k := 0) (N := 2) (ad := (adS (fun _ => q) 1 q1)) (ci := 3) (fs := [.null, .int 0, .int 0, .int 0, .null]) (ty := .array .char) (v := .ref q1) hx hb hown htg hK hI hP hS hA0 hin (by decide) rfl rfl inB_X3 tyX3 tyX3_ok nmX3 (j := 0) (by decide) fl_X3_9 rfl rfl rfl rfl rfl rfl (Nat.le_of_ble_eq_true rfl) dX3_init_9 (fun H locs hP hS => ?_)
  refine lv_aload_n hx hb dX3_init_12 rfl (lv_at hl 0 rfl) ?_
  refine lv_iconst (v := nI 4) hx hb dX3_init_13 (by decide) ?_
  refine rn_newa (atype := .int) (ty := .int) (k0 := 0) (n := 4) (a0 := (4, .inl (fun _ => 0))) hx hb htg hK hI hP hA0 hS hA ac_i rfl rfl (fun _ => rfl) (by decide) (Nat.le_of_ble_eq_true rfl) ⟨Nat.le_of_ble_eq_true rfl, Nat.le_of_ble_eq_true rfl⟩ dX3_init_14 (fun q2 H hP hI hA0 hS => ?_)
  refine rn_putF (k := 0) (N := 3) (ad := (adS (adS (fun _ => q) 1 q1) 2 q2)) (ci := 3) (fs := [.ref q1, .int 0, .int 0, .int 0, .null]) (ty := .array .int) (v := .ref q2) hx hb hown htg hK hI hP hS hA0 hin (by decide) rfl rfl inB_X3 tyX3 tyX3_ok nmX3 (j := 4) (by decide) fl_X3_15 rfl rfl rfl rfl rfl rfl (Nat.le_of_ble_eq_true rfl) dX3_init_16 (fun H locs hP hS => ?_)
  exact rn_ret (ad := (adS (adS (fun _ => q) 1 q1) 2 q2)) hx hb hr hlocks hsz rfl hI (fun k hk => hA0 k hk) hS dX3_init_19 (hP.ext (fun i hi => by rcases i with _ | _ | _ | i <;> first | rfl | omega)) rfl rfl
/-- the reference's first row of numbers -/
def iZ : Nat → Int32 := upd (upd (upd (upd (upd (upd (upd (upd (upd (upd (fun _ => 0) 0 (nI 2)) 2 (nI 3)) (7 + 5 * 0 + 0) (nI 200)) (7 + 5 * 0 + 1) (nI 1)) (7 + 5 * 1 + 0) (nI 200)) (7 + 5 * 1 + 1) (nI 1)) (7 + 5 * 2 + 0) (nI 200)) (7 + 5 * 2 + 1) (nI 1)) (7 + 5 * 3 + 0) (nI 200)) (7 + 5 * 3 + 1) (nI 1)
