/-! WHAT IS MADE: a market's constructor -/
theorem ki_X4 : Cond.initialized RX4 ∈ wB ∧ Cond.initialized RX4 ∈ wB ∧ Cond.instanceMethod yX4_init ∈ wB ∧ Cond.code yX4_init cX4_init 1 none ∈ wB ∧ Cond.instantiable RX4 9 ∈ wB := ⟨xb (by decide +kernel) rfl, xb (by decide +kernel) rfl, xb (by decide +kernel) rfl, xb (by decide +kernel) (by decide +kernel), xb (by decide +kernel) rfl⟩
theorem ki_X0 : Cond.initialized RX0 ∈ wB ∧ Cond.initialized RX0 ∈ wB ∧ Cond.instanceMethod yX0_init ∈ wB ∧ Cond.code yX0_init cX0_init 1 none ∈ wB ∧ Cond.instantiable RX0 6 ∈ wB := ⟨xb (by decide +kernel) rfl, xb (by decide +kernel) rfl, xb (by decide +kernel) rfl, xb (by decide +kernel) (by decide +kernel), xb (by decide +kernel) rfl⟩
theorem mkp_s1 {ct : Nat → ClassId} {ad ad2 : Nat → Nat} {k : Nat} {x : va_E} (hk : k < 10) (h : ∀ j, j < 5 + k → ad2 j = ad j) : ∀ i, i < 5 + k + 1 → va_up (ceJ (va_up (mkp ct ad k 0) (5 + k) x) (fun _ _ => .inr (4, stN)) ad2 (5 + k)) 1 (.inl (ct 3, 10, .inr (.inr (.inr (.inr (va_up (fun j => if j < k then some (ad (5 + j)) else none) k (some (ad2 (5 + k))))))))) i = mkp ct ad2 (k + 1) 0 i := by
  intro i hi
  by_cases c1 : i = 1
  · subst c1
    rw [show ∀ f : Nat → va_E, ∀ y, va_up f 1 y 1 = y from fun f y => by unfold va_up; exact if_pos rfl, mkp_1]
    have e : (va_up (fun j => if j < k then some (ad (5 + j)) else none) k (some (ad2 (5 + k)))) = fun j => if j < k + 1 then some (ad2 (5 + j)) else none := by
      funext j
      by_cases c : j = k
      · subst c; unfold va_up; rw [if_pos rfl, if_pos (Nat.lt_succ_self j)]
      · rw [va_up_ne _ _ c]
        by_cases c2 : j < k
        · show (if j < k then some (ad (5 + j)) else none) = _
          rw [if_pos c2, if_pos (by omega), h _ (by omega)]
        · show (if j < k then some (ad (5 + j)) else none) = _
          rw [if_neg c2, if_neg (by omega)]
    rw [e]
  · rw [va_up_ne _ _ c1]
    unfold ceJ
    by_cases c2 : i < 5 + k
    · rw [if_pos c2, va_up_ne _ _ (show i ≠ 5 + k by omega)]
      rw [← mkp_ad (k := k) (b := 0) (N := 5 + k) h (by omega) (Or.inl rfl)]
      unfold mkp
      rw [if_neg c1, if_neg c1]
    · rw [if_neg c2, mkp_st (by omega) (by omega)]
theorem mkp_s2 {ct : Nat → ClassId} {ad ad2 : Nat → Nat} {b : Nat} {x : va_E} (hk : b < 4) (h : ∀ j, j < 15 + b → ad2 j = ad j) : ∀ i, i < 15 + b + 1 → va_up (ceJ (va_up (mkp ct ad 10 b) (15 + b) x) (fun _ _ => .inr (0, brN)) ad2 (15 + b)) 2 (.inl (ct 4, 4, .inr (.inr (.inr (.inr (va_up (fun j => if j < b then some (ad (15 + j)) else none) b (some (ad2 (15 + b))))))))) i = mkp ct ad2 10 (b + 1) i := by
  intro i hi
  by_cases c1 : i = 2
  · subst c1
    rw [show ∀ f : Nat → va_E, ∀ y, va_up f 2 y 2 = y from fun f y => by unfold va_up; exact if_pos rfl, mkp_2]
    have e : (va_up (fun j => if j < b then some (ad (15 + j)) else none) b (some (ad2 (15 + b)))) = fun j => if j < b + 1 then some (ad2 (15 + j)) else none := by
      funext j
      by_cases c : j = b
      · subst c; unfold va_up; rw [if_pos rfl, if_pos (Nat.lt_succ_self j)]
      · rw [va_up_ne _ _ c]
        by_cases c2 : j < b
        · show (if j < b then some (ad (15 + j)) else none) = _
          rw [if_pos c2, if_pos (by omega), h _ (by omega)]
        · show (if j < b then some (ad (15 + j)) else none) = _
          rw [if_neg c2, if_neg (by omega)]
    rw [e]
  · rw [va_up_ne _ _ c1]
    unfold ceJ
    by_cases c2 : i < 15 + b
    · rw [if_pos c2, va_up_ne _ _ (show i ≠ 15 + b by omega)]
      rw [← mkp_ad (k := 10) (b := b) (N := 15 + b) h (by omega) (Or.inr (by omega))]
      unfold mkp
      by_cases c0 : i = 0
      · rw [if_pos c0, if_pos c0]
      · by_cases c11 : i = 1
        · rw [if_neg c0, if_pos c11, if_neg c0, if_pos c11]
        · rw [if_neg c0, if_neg c11, if_neg c1, if_neg c0, if_neg c11, if_neg c1]
    · rw [if_neg c2, mkp_br (by omega)]
set_option maxRecDepth 100000 in
set_option maxHeartbeats 4000000 in
theorem mX2_init (l : Launch) (D : va_G) (ct : Nat → ClassId) (q sz : Nat) : CMet l yX2_init cX2_init 2 2 40 18 143 D ct q sz 2 [.null, .int 0, .null, .null, .null, .int 0, .int 0, .int 0] 19 (fun ad => mkc ct ad iM) := by
  refine CMet.of (by decide +kernel) rfl (Nat.le_of_ble_eq_true rfl) ?_
  intro p e s m args below meth c ls hx hb hr hml hown hlocks hin htg hK hsz hq hP hS hl hE
  have hI : fI 1 (fun _ : Nat => q) := fun i j hi hj _ => by omega
  have hA0 : ∀ k, k < 1 → nZ q sz ((fun _ : Nat => q) k) := fun _ _ => Or.inl rfl
  have hA : ∀ x, s.heap.size ≤ x → nZ q sz x := fun x h => Or.inr (by rw [← hsz]; exact h)
  obtain ⟨⟨t, cell, hz, hc2, hc3, hc4, hc5, hc6, hc7⟩, hnest, hcl, ao4, ao0, ao2, mn4, mn0, mn3⟩ := hE
  have hE : kE (nZ q sz) s s.heap := ⟨⟨t, cell, hz, hc2, hc3, hc4, hc5, hc6, hc7⟩, hnest, hcl, ao4, ao0, ao2, mn4, mn0, mn3⟩
  refine lv_aload_n hx hb dX2_init_0 rfl (lv_at hl 0 rfl) ?_
  refine W.objInit hx hb hown (htg _ ko_X2) (htg _ ko_2) (htg _ ko_3) rfl (by rw [hml]; exact hl.1) rfl dX2_init_1 (Nat.le_of_ble_eq_true rfl) (Nat.le_of_ble_eq_true rfl) ?_
  refine W.eq (g2 := F0 m 4 ls []) rfl ?_
  refine lv_aload_n hx hb dX2_init_4 rfl (lv_at hl 0 rfl) ?_
  refine lv_bipush (v := nI 10) hx hb dX2_init_5 (by decide) ?_
  refine rn_newq (k0 := 3) (n := 10) hx hb hown htg hK hI hP hA0 hS hA kc_X2_9 ao4 rfl (by decide) ⟨Nat.le_of_ble_eq_true rfl, Nat.le_of_ble_eq_true rfl⟩ dX2_init_7 (fun q1 H hP hI hA0 hS => ?_)
  refine rn_putF (k := 0) (N := 2) (ad := adS (fun _ => q) 1 q1) (ci := 2) (fs := [.null, .int 0, .null, .null, .null, .int 0, .int 0, .int 0]) (ty := .array (.object RX4)) (v := .ref q1) hx hb hown htg hK hI hP hS hA0 hin (by decide) rfl rfl inB_X2 tyX2 tyX2_ok nmX2 (j := 0) (by decide) fl_X2_11 rfl rfl rfl rfl rfl rfl (Nat.le_of_ble_eq_true rfl) dX2_init_10 (fun H locs hP hS => ?_)
  refine lv_aload_n hx hb dX2_init_13 rfl (lv_at hl 0 rfl) ?_
  refine lv_iconst (v := nI 4) hx hb dX2_init_14 (by decide) ?_
  refine rn_newq (k0 := 4) (n := 4) hx hb hown htg hK hI hP hA0 hS hA kc_X2_17 ao0 rfl (by decide) ⟨Nat.le_of_ble_eq_true rfl, Nat.le_of_ble_eq_true rfl⟩ dX2_init_15 (fun q2 H hP hI hA0 hS => ?_)
  refine rn_putF (k := 0) (N := 3) (ad := adS (adS (fun _ => q) 1 q1) 2 q2) (ci := 2) (fs := [.ref q1, .int 0, .null, .null, .null, .int 0, .int 0, .int 0]) (ty := .array (.object RX0)) (v := .ref q2) hx hb hown htg hK hI hP hS hA0 hin (by decide) rfl rfl inB_X2 tyX2 tyX2_ok nmX2 (j := 2) (by decide) fl_X2_19 rfl rfl rfl rfl rfl rfl (Nat.le_of_ble_eq_true rfl) dX2_init_18 (fun H locs hP hS => ?_)
  refine lv_aload_n hx hb dX2_init_21 rfl (lv_at hl 0 rfl) ?_
  refine lv_bipush (v := nI 12) hx hb dX2_init_22 (by decide) ?_
  refine rn_newa (atype := .boolean) (ty := .boolean) (k0 := 1) (n := 12) (a0 := (12, .inl (fun _ => 0))) hx hb htg hK hI hP hA0 hS hA ac_z rfl rfl (fun _ => rfl) (by decide) (Nat.le_of_ble_eq_true rfl) ⟨Nat.le_of_ble_eq_true rfl, Nat.le_of_ble_eq_true rfl⟩ dX2_init_24 (fun q3 H hP hI hA0 hS => ?_)
  refine rn_putF (k := 0) (N := 4) (ad := adS (adS (adS (fun _ => q) 1 q1) 2 q2) 3 q3) (ci := 2) (fs := [.ref q1, .int 0, .ref q2, .null, .null, .int 0, .int 0, .int 0]) (ty := .array .boolean) (v := .ref q3) hx hb hown htg hK hI hP hS hA0 hin (by decide) rfl rfl inB_X2 tyX2 tyX2_ok nmX2 (j := 3) (by decide) fl_X2_23 rfl rfl rfl rfl rfl rfl (Nat.le_of_ble_eq_true rfl) dX2_init_26 (fun H locs hP hS => ?_)
  refine lv_aload_n hx hb dX2_init_29 rfl (lv_at hl 0 rfl) ?_
  refine va_getsN (C := RX5) (ref := RX5) (n := "FIRST_VALUES") (d := "[I") hx hb hz hS hown (va_Nw.use rfl hnest) (fun _ h => h) dX2_init_30 ?_
  refine rn_clone hx hb (by rw [hml]; exact hl.1.symm) hown htg hK hI hP hA0 hS hA hc2 hc3 hc4 hc5 hc6 hc7 hcl (Nat.le_of_ble_eq_true rfl) (Nat.le_of_ble_eq_true rfl) ⟨Nat.le_of_ble_eq_true rfl, Nat.le_of_ble_eq_true rfl⟩ dX2_init_33 (fun q4 H hP hI hA0 hS => ?_)
  have hnm : s.vm.findClass "[I" = some (ct 0) := va_nm_int (hK.2 0 (ct 0, .int) rfl).2
  refine va_castA hx hb hown (htg _ kc_X2_32) hP 4 (cA := ct 0) (x := (3, .inl (cutA 3 0 iM))) rfl hnm dX2_init_36 ?_
  refine rn_putF (k := 0) (N := 5) (ad := adS (adS (adS (adS (fun _ => q) 1 q1) 2 q2) 3 q3) 4 q4) (ci := 2) (fs := [.ref q1, .int 0, .ref q2, .ref q3, .null, .int 0, .int 0, .int 0]) (ty := .array .int) (v := .ref q4) hx hb hown htg hK hI hP hS hA0 hin (by decide) rfl rfl inB_X2 tyX2 tyX2_ok nmX2 (j := 4) (by decide) fl_X2_36 rfl rfl rfl rfl rfl rfl (Nat.le_of_ble_eq_true rfl) dX2_init_39 (fun H locs hP hS => ?_)
  have hP : fP D 5 (adS (adS (adS (adS (fun _ => q) 1 q1) 2 q2) 3 q3) 4 q4) (mkp ct (adS (adS (adS (adS (fun _ => q) 1 q1) 2 q2) 3 q3) 4 q4) 0 0) H := hP.ext (fun i hi => by
    rcases i with _ | _ | _ | _ | _ | i
    · rfl
    · show Sum.inl (ct 3, 10, _) = Sum.inl (ct 3, 10, _); congr 5
    · show Sum.inl (ct 4, 4, _) = Sum.inl (ct 4, 4, _); congr 5
    · rfl
    · rfl
    · omega)
  have had0 : adS (adS (adS (adS (fun _ => q) 1 q1) 2 q2) 3 q3) 4 q4 0 = q := rfl
  generalize adS (adS (adS (adS (fun _ => q) 1 q1) 2 q2) 3 q3) 4 q4 = ad at hP hI hA0 had0
  refine lv_iconst (v := nI 0) hx hb dX2_init_42 (by decide) ?_
  refine lv_istore_n (lv' := [(1, .int (nI 0)), (0, .ref q)]) hx hb dX2_init_43 rfl hl (by decide) rfl (fun ls hl => ?_)
  -- the breakers
  have lpB : ∀ fu b, b ≤ 4 → 4 - b < fu → ∀ (ad : Nat → Nat) (H : Heap) (locs : List Loc), ad 0 = q → fI (15 + b) ad → fP D (15 + b) ad (mkp ct ad 10 b) H → (∀ j, j < 15 + b → nZ q sz (ad j)) → va_S (nZ q sz) s.heap H locs → ∀ ls : Array Slot, lv_has ls 2 [(1, .int (nI b)), (0, .ref q)] → W p l e ({ frames := 2, cells := 18, slots := 143, locals := 40 }) s m args below meth c H locs (14 + b) (119 + 6 * b) (MQ below (cnQ D ct q sz 19 (fun ad => mkc ct ad iM)) args s 18 143 (nZ q sz)) (F0 m 71 ls []) := by
    intro fu
    induction fu with
    | zero => intro b hb1 hf; omega
    | succ fu ih =>
      intro b hb1 hf ad H locs had0 hI hP hA0 hS ls hl
      refine lv_iload_n hx hb dX2_init_71 rfl (lv_at hl 0 rfl) ?_
      refine lv_iconst (v := nI 4) hx hb dX2_init_72 (by decide) ?_
      refine lv_icmp_geN (tgt := 95) hx hb (by omega) (by omega) dX2_init_73 (by decide) (fun c9 => ?_) (fun c9 => ?_)
      · obtain rfl : b = 4 := by omega
        exact rn_ret (ad := ad) hx hb hr hlocks hsz had0 hI hA0 hS dX2_init_95 (hP.ext (fun i hi => mkp_mkc i hi)) rfl rfl
      · have hb4 : b < 4 := by omega
        refine lv_aload_n hx hb dX2_init_76 rfl (lv_at hl 1 rfl) ?_
        refine W.eq (g2 := F0 m 77 ls [.ref (ad 0)]) (by rw [had0]) ?_
        refine fr_get (k := 0) (ci := 2) (fs := [.ref (ad 1), .int 0, .ref (ad 2), .ref (ad 3), .ref (ad 4), .int 0, .int 0, .int 0]) hx hb hown htg hK hP (by omega) rfl rfl inB_X2 (j := 2) (by decide) fl_X2_19 rfl rfl dX2_init_77 ?_
        refine lv_iload_n hx hb dX2_init_80 rfl (lv_at hl 0 rfl) ?_
        refine rn_new (ci := 0) (fs := [.int 0, .int 0, .int 0, .int 0, .int 0, .int 0]) hx hb hown htg hK hI hP hA0 hS hA rfl inB_X0 tyX0 tyX0_ok kc_X2_17 ki_X0.2.2.2.2 ki_X0.2.1 (fun j hj => by rcases j with _ | _ | _ | _ | _ | _ | j <;> first | rfl | omega) ⟨by show _ ≤ 18; omega, by show _ ≤ 143; omega⟩ dX2_init_81 (fun q9 H hP hI hA0 hS => ?_)
        refine lv_dup hx hb dX2_init_84 rfl ?_
        have e9 : q9 = adS ad (15 + b) q9 (15 + b) := adS_at.symm
        have h2 : ad 2 = adS ad (15 + b) q9 2 := (adS_lt (by omega)).symm
        have hlt : ∀ j, j < 15 + b → adS ad (15 + b) q9 j = ad j := fun j hj => adS_lt hj
        rw [h2]
        generalize hg : adS ad (15 + b) q9 = ad1 at hP hI hA0 e9 h2 hlt ⊢
        rw [e9]
        refine rn_initN (N0 := 15 + b) (n := 1) (ce1 := fun _ _ => .inr (0, brN)) hx hb hml hl.1 hown htg hK hI hP hA0 hS hA hE (by decide) (by unfold va_up; exact if_pos rfl) (mX0_init l D ct (ad1 (15 + b)) H.size) mn0 ki_X0.2.1 ki_X0.2.2.1 ki_X0.2.2.2.1 rfl ⟨by decide, by decide, by decide +kernel⟩ ⟨Nat.le_of_ble_eq_true rfl, Nat.le_of_ble_eq_true rfl⟩ (Nat.le_of_ble_eq_true rfl) dX2_init_85 ⟨by show _ ≤ 18; omega, by show _ ≤ 143; omega⟩ (fun ad2 H locs h9 hP hI hA0 hS => ?_)
        rw [← h9 (15 + b) (by omega), ← h9 2 (by omega)]
        refine rn_astq (k := 2) (i := b) (len := 4) (t0 := 4) (kv := 15 + b) (ci := 0) (vs := brN) (f := fun j => if j < b then some (ad (15 + j)) else none) hx hb hK hI hP hS hA0 (by omega) (by unfold ceJ; rw [if_pos (by omega), va_up_ne _ _ (show 2 ≠ 15 + b by omega)]; rfl) rfl (by omega) (by unfold ceJ; rw [if_neg (Nat.lt_irrefl _)]) rfl hb4 (by decide) dX2_init_88 (fun H locs hP hS => ?_)
        have hag : ∀ j, j < 15 + b → ad2 j = ad j := fun j hj => (h9 j (by omega)).trans (hlt j hj)
        have hP := hP.ext (mkp_s2 (b := b) hb4 hag)
        refine lv_iinc (v := nI (b + 1)) (lv' := [(1, .int (nI (b + 1))), (0, .ref q)]) hx hb dX2_init_89 hl (k := 0) rfl (nI_add b 1) (by decide) rfl (fun ls hl => ?_)
        refine lv_goto (tgt := 71) hx hb dX2_init_92 (by decide) ?_
        refine W.widen (k := 14 + (b + 1)) (n := 119 + 6 * (b + 1)) (by omega) (by omega) ?_
        exact ih (b + 1) (by omega) (by omega) ad2 H locs ((hag 0 (by omega)).trans had0) hI hP hA0 hS ls hl
  -- the stalls
  have lpS : ∀ fu k, k ≤ 10 → 10 - k < fu → ∀ (ad : Nat → Nat) (H : Heap) (locs : List Loc), ad 0 = q → fI (5 + k) ad → fP D (5 + k) ad (mkp ct ad k 0) H → (∀ j, j < 5 + k → nZ q sz (ad j)) → va_S (nZ q sz) s.heap H locs → ∀ ls : Array Slot, lv_has ls 2 [(1, .int (nI k)), (0, .ref q)] → W p l e ({ frames := 2, cells := 18, slots := 143, locals := 40 }) s m args below meth c H locs (4 + k) (29 + 9 * k) (MQ below (cnQ D ct q sz 19 (fun ad => mkc ct ad iM)) args s 18 143 (nZ q sz)) (F0 m 44 ls []) := by
    intro fu
    induction fu with
    | zero => intro k hk1 hf; omega
    | succ fu ih =>
      intro k hk1 hf ad H locs had0 hI hP hA0 hS ls hl
      refine lv_iload_n hx hb dX2_init_44 rfl (lv_at hl 0 rfl) ?_
      refine lv_bipush (v := nI 10) hx hb dX2_init_45 (by decide) ?_
      refine lv_icmp_geN (tgt := 69) hx hb (by omega) (by omega) dX2_init_47 (by decide) (fun c9 => ?_) (fun c9 => ?_)
      · obtain rfl : k = 10 := by omega
        refine lv_iconst (v := nI 0) hx hb dX2_init_69 (by decide) ?_
        refine lv_istore_n (lv' := [(1, .int (nI 0)), (0, .ref q)]) hx hb dX2_init_70 rfl hl (by decide) rfl (fun ls hl => ?_)
        exact lpB 5 0 (by omega) (by omega) ad H locs had0 hI hP hA0 hS ls hl
      · have hk10 : k < 10 := by omega
        refine lv_aload_n hx hb dX2_init_50 rfl (lv_at hl 1 rfl) ?_
        refine W.eq (g2 := F0 m 51 ls [.ref (ad 0)]) (by rw [had0]) ?_
        refine fr_get (k := 0) (ci := 2) (fs := [.ref (ad 1), .int 0, .ref (ad 2), .ref (ad 3), .ref (ad 4), .int 0, .int 0, .int 0]) hx hb hown htg hK hP (by omega) rfl rfl inB_X2 (j := 0) (by decide) fl_X2_11 rfl rfl dX2_init_51 ?_
        refine lv_iload_n hx hb dX2_init_54 rfl (lv_at hl 0 rfl) ?_
        refine rn_new (ci := 4) (fs := [.int 0, .int 0, .int 0, .int 0, .int 0, .int 0, .int 0, .int 0, .int 0]) hx hb hown htg hK hI hP hA0 hS hA rfl inB_X4 tyX4 tyX4_ok kc_X2_9 ki_X4.2.2.2.2 ki_X4.2.1 (fun j hj => by rcases j with _ | _ | _ | _ | _ | _ | _ | _ | _ | j <;> first | rfl | omega) ⟨by show _ ≤ 18; omega, by show _ ≤ 143; omega⟩ dX2_init_55 (fun q9 H hP hI hA0 hS => ?_)
        refine lv_dup hx hb dX2_init_58 rfl ?_
        have e9 : q9 = adS ad (5 + k) q9 (5 + k) := adS_at.symm
        have h2 : ad 1 = adS ad (5 + k) q9 1 := (adS_lt (by omega)).symm
        have hlt : ∀ j, j < 5 + k → adS ad (5 + k) q9 j = ad j := fun j hj => adS_lt hj
        rw [h2]
        generalize hg : adS ad (5 + k) q9 = ad1 at hP hI hA0 e9 h2 hlt ⊢
        rw [e9]
        refine rn_initN (N0 := 5 + k) (n := 1) (ce1 := fun _ _ => .inr (4, stN)) hx hb hml hl.1 hown htg hK hI hP hA0 hS hA hE (by decide) (by unfold va_up; exact if_pos rfl) (mX4_init l D ct (ad1 (5 + k)) H.size) mn4 ki_X4.2.1 ki_X4.2.2.1 ki_X4.2.2.2.1 rfl ⟨by decide, by decide, by decide +kernel⟩ ⟨Nat.le_of_ble_eq_true rfl, Nat.le_of_ble_eq_true rfl⟩ (Nat.le_of_ble_eq_true rfl) dX2_init_59 ⟨by show _ ≤ 18; omega, by show _ ≤ 143; omega⟩ (fun ad2 H locs h9 hP hI hA0 hS => ?_)
        rw [← h9 (5 + k) (by omega), ← h9 1 (by omega)]
        refine rn_astq (k := 1) (i := k) (len := 10) (t0 := 3) (kv := 5 + k) (ci := 4) (vs := stN) (f := fun j => if j < k then some (ad (5 + j)) else none) hx hb hK hI hP hS hA0 (by omega) (by unfold ceJ; rw [if_pos (by omega), va_up_ne _ _ (show 1 ≠ 5 + k by omega)]; rfl) rfl (by omega) (by unfold ceJ; rw [if_neg (Nat.lt_irrefl _)]) rfl hk10 (by decide) dX2_init_62 (fun H locs hP hS => ?_)
        have hag : ∀ j, j < 5 + k → ad2 j = ad j := fun j hj => (h9 j (by omega)).trans (hlt j hj)
        have hP := hP.ext (mkp_s1 (k := k) hk10 hag)
        refine lv_iinc (v := nI (k + 1)) (lv' := [(1, .int (nI (k + 1))), (0, .ref q)]) hx hb dX2_init_63 hl (k := 0) rfl (nI_add k 1) (by decide) rfl (fun ls hl => ?_)
        refine lv_goto (tgt := 44) hx hb dX2_init_66 (by decide) ?_
        refine W.widen (k := 4 + (k + 1)) (n := 29 + 9 * (k + 1)) (by omega) (by omega) ?_
        exact ih (k + 1) (by omega) (by omega) ad2 H locs ((hag 0 (by omega)).trans had0) hI hP hA0 hS ls hl
  exact lpS 11 0 (by omega) (by omega) ad H locs had0 hI hP hA0 hS ls hl

