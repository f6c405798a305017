/-! WHAT IS MADE: the history -/
def hip (ct : Nat → ClassId) (ad : Nat → Nat) (r : Nat) : Nat → va_E := fun i =>
  if i = 0 then .inr (1, [.ref (ad 1), .int 0, .int 0]) else if i = 1 then .inl (ct 5, 6, .inr (.inr (.inr (.inr fun j => if j < r then some (ad (2 + 19 * j)) else none)))) else mkc ct (fun z => ad (2 + 19 * ((i - 2) / 19) + z)) iM ((i - 2) % 19)
theorem hip_s {ct : Nat → ClassId} {ad ad2 : Nat → Nat} {r : Nat} {x : va_E} (hr : r < 6) (h : ∀ j, j < 2 + 19 * r → ad2 j = ad j) : ∀ i, i < 2 + 19 * r + 19 → va_up (ceJ (va_up (hip ct ad r) (2 + 19 * r) x) (fun ad => mkc ct ad iM) ad2 (2 + 19 * r)) 1 (.inl (ct 5, 6, .inr (.inr (.inr (.inr (va_up (fun j => if j < r then some (ad (2 + 19 * j)) else none) r (some (ad2 (2 + 19 * r))))))))) i = hip ct ad2 (r + 1) i := by
  intro i hi
  by_cases c1 : i = 1
  · subst c1
    rw [show ∀ f : Nat → va_E, ∀ y, va_up f 1 y 1 = y from fun f y => by unfold va_up; exact if_pos rfl]
    have e : (va_up (fun j => if j < r then some (ad (2 + 19 * j)) else none) r (some (ad2 (2 + 19 * r)))) = fun j => if j < r + 1 then some (ad2 (2 + 19 * j)) else none := by
      funext j
      by_cases c : j = r
      · subst c; unfold va_up; rw [if_pos rfl, if_pos (Nat.lt_succ_self j)]
      · rw [va_up_ne _ _ c]
        by_cases c2 : j < r
        · show (if j < r then some (ad (2 + 19 * j)) else none) = _
          rw [if_pos c2, if_pos (by omega), h _ (by omega)]
        · show (if j < r then some (ad (2 + 19 * j)) else none) = _
          rw [if_neg c2, if_neg (by omega)]
    rw [e]; rfl
  · rw [va_up_ne _ _ c1]
    unfold ceJ
    by_cases c2 : i < 2 + 19 * r
    · rw [if_pos c2, va_up_ne _ _ (show i ≠ 2 + 19 * r by omega)]
      unfold hip
      by_cases c0 : i = 0
      · rw [if_pos c0, if_pos c0, h 1 (by omega)]
      · rw [if_neg c0, if_neg c0, if_neg c1, if_neg c1]
        exact mkc_ad (fun z hz => (h _ (by omega)).symm)
    · rw [if_neg c2]
      unfold hip
      rw [if_neg (by omega), if_neg c1, show (i - 2) / 19 = r by omega, show (i - 2) % 19 = i - (2 + 19 * r) by omega]
theorem ki_X2 : Cond.initialized RX2 ∈ wB ∧ Cond.instanceMethod yX2_init ∈ wB ∧ Cond.code yX2_init cX2_init 2 none ∈ wB ∧ Cond.instantiable RX2 8 ∈ wB ∧ Cond.methodLink RX1 17 yX2_init ∈ wB ∧ Cond.methodLink RX5 9 yX2_init ∈ wB := ⟨xb (by decide +kernel) rfl, xb (by decide +kernel) rfl, xb (by decide +kernel) (by decide +kernel), xb (by decide +kernel) rfl, xb (by decide +kernel) rfl, xb (by decide +kernel) rfl⟩
set_option maxRecDepth 100000 in
set_option maxHeartbeats 4000000 in
theorem mX1_init (l : Launch) (D : va_G) (ct : Nat → ClassId) (q sz : Nat) : CMet l yX1_init cX1_init 2 3 64 115 912 D ct q sz 1 [.null, .int 0, .int 0] 116 (fun ad => hip ct ad 6) := by
  refine CMet.of (by decide +kernel) rfl (Nat.le_of_ble_eq_true rfl) ?_
  intro p e s m args below meth c ls hx hb hr hml hown hlocks hin htg hK hsz hq hP hS hl hE
  have hI : fI 1 (fun _ : Nat => q) := fun i j hi hj _ => by omega
  have hA0 : ∀ k, k < 1 → nZ q sz ((fun _ : Nat => q) k) := fun _ _ => Or.inl rfl
  have hA : ∀ x, s.heap.size ≤ x → nZ q sz x := fun x h => Or.inr (by rw [← hsz]; exact h)
  obtain ⟨hst, hnest, hcl, ao4, ao0, ao2, mn4, mn0, mn3⟩ := hE
  have hE : kE (nZ q sz) s s.heap := ⟨hst, hnest, hcl, ao4, ao0, ao2, mn4, mn0, mn3⟩
  refine lv_aload_n hx hb dX1_init_0 rfl (lv_at hl 0 rfl) ?_
  refine W.objInit hx hb hown (htg _ ko_X1) (htg _ ko_2) (htg _ ko_3) rfl (by rw [hml]; exact hl.1) rfl dX1_init_1 (Nat.le_of_ble_eq_true rfl) (Nat.le_of_ble_eq_true rfl) ?_
  refine W.eq (g2 := F0 m 4 ls []) rfl ?_
  refine lv_aload_n hx hb dX1_init_4 rfl (lv_at hl 0 rfl) ?_
  refine lv_bipush (v := nI 6) hx hb dX1_init_5 (by decide) ?_
  refine rn_newq (k0 := 5) (n := 6) hx hb hown htg hK hI hP hA0 hS hA kc_X1_9 ao2 rfl (by decide) ⟨Nat.le_of_ble_eq_true rfl, Nat.le_of_ble_eq_true rfl⟩ dX1_init_7 (fun q1 H hP hI hA0 hS => ?_)
  refine rn_putF (k := 0) (N := 2) (ad := adS (fun _ => q) 1 q1) (ci := 1) (fs := [.null, .int 0, .int 0]) (ty := .array (.object RX2)) (v := .ref q1) hx hb hown htg hK hI hP hS hA0 hin (by decide) rfl rfl inB_X1 tyX1 tyX1_ok nmX1 (j := 0) (by decide) fl_X1_11 rfl rfl rfl rfl rfl rfl (Nat.le_of_ble_eq_true rfl) dX1_init_10 (fun H locs hP hS => ?_)
  have hP : fP D 2 (adS (fun _ => q) 1 q1) (hip ct (adS (fun _ => q) 1 q1) 0) H := hP.ext (fun i hi => by
    rcases i with _ | _ | i
    · rfl
    · show Sum.inl (ct 5, 6, _) = Sum.inl (ct 5, 6, _); congr 5
    · omega)
  have had0 : adS (fun _ => q) 1 q1 0 = q := rfl
  generalize adS (fun _ => q) 1 q1 = ad at hP hI hA0 had0
  refine lv_iconst (v := nI 0) hx hb dX1_init_13 (by decide) ?_
  refine lv_istore_n (lv' := [(1, .int (nI 0)), (0, .ref q)]) hx hb dX1_init_14 rfl hl (by decide) rfl (fun ls hl => ?_)
  have lpR : ∀ fu r, r ≤ 6 → 6 - r < fu → ∀ (ad : Nat → Nat) (H : Heap) (locs : List Loc), ad 0 = q → fI (2 + 19 * r) ad → fP D (2 + 19 * r) ad (hip ct ad r) H → (∀ j, j < 2 + 19 * r → nZ q sz (ad j)) → va_S (nZ q sz) s.heap H locs → ∀ ls : Array Slot, lv_has ls 2 [(1, .int (nI r)), (0, .ref q)] → W p l e ({ frames := 3, cells := 115, slots := 912, locals := 64 }) s m args below meth c H locs (1 + 19 * r) (6 + 151 * r) (MQ below (cnQ D ct q sz 116 (fun ad => hip ct ad 6)) args s 115 912 (nZ q sz)) (F0 m 15 ls []) := by
    intro fu
    induction fu with
    | zero => intro r hr1 hf; omega
    | succ fu ih =>
      intro r hr1 hf ad H locs had0 hI hP hA0 hS ls hl
      refine lv_iload_n hx hb dX1_init_15 rfl (lv_at hl 0 rfl) ?_
      refine lv_bipush (v := nI 6) hx hb dX1_init_16 (by decide) ?_
      refine lv_icmp_geN (tgt := 40) hx hb (by omega) (by omega) dX1_init_18 (by decide) (fun c9 => ?_) (fun c9 => ?_)
      · obtain rfl : r = 6 := by omega
        exact rn_ret (ad := ad) hx hb hr hlocks hsz had0 hI hA0 hS dX1_init_40 hP rfl rfl
      · have hr6 : r < 6 := by omega
        refine lv_aload_n hx hb dX1_init_21 rfl (lv_at hl 1 rfl) ?_
        refine W.eq (g2 := F0 m 22 ls [.ref (ad 0)]) (by rw [had0]) ?_
        refine fr_get (k := 0) (ci := 1) (fs := [.ref (ad 1), .int 0, .int 0]) hx hb hown htg hK hP (by omega) rfl rfl inB_X1 (j := 0) (by decide) fl_X1_11 rfl rfl dX1_init_22 ?_
        refine lv_iload_n hx hb dX1_init_25 rfl (lv_at hl 0 rfl) ?_
        refine rn_new (ci := 2) (fs := [.null, .int 0, .null, .null, .null, .int 0, .int 0, .int 0]) hx hb hown htg hK hI hP hA0 hS hA rfl inB_X2 tyX2 tyX2_ok kc_X1_9 ki_X2.2.2.2.1 ki_X2.1 (fun j hj => by rcases j with _ | _ | _ | _ | _ | _ | _ | _ | j <;> first | rfl | omega) ⟨by show _ ≤ 115; omega, by show _ ≤ 912; omega⟩ dX1_init_26 (fun q9 H hP hI hA0 hS => ?_)
        refine lv_dup hx hb dX1_init_29 rfl ?_
        have e9 : q9 = adS ad (2 + 19 * r) q9 (2 + 19 * r) := adS_at.symm
        have h2 : ad 1 = adS ad (2 + 19 * r) q9 1 := (adS_lt (by omega)).symm
        have hlt : ∀ j, j < 2 + 19 * r → adS ad (2 + 19 * r) q9 j = ad j := fun j hj => adS_lt hj
        rw [h2]
        generalize hg : adS ad (2 + 19 * r) q9 = ad1 at hP hI hA0 e9 h2 hlt ⊢
        rw [e9]
        refine rn_init (N0 := 2 + 19 * r) (n := 19) (ce1 := fun ad => mkc ct ad iM) hx hb hml hl.1 hown htg hK hI hP hA0 hS hA hE (by decide) (by unfold va_up; exact if_pos rfl) (mX2_init l D ct (ad1 (2 + 19 * r)) H.size) ki_X2.2.2.2.2.1 ki_X2.1 ki_X2.2.1 ki_X2.2.2.1 rfl ⟨by decide, by decide, by decide +kernel⟩ ⟨Nat.le_of_ble_eq_true rfl, Nat.le_of_ble_eq_true rfl⟩ (Nat.le_of_ble_eq_true rfl) dX1_init_30 ⟨by show _ ≤ 115; omega, by show _ ≤ 912; omega⟩ (fun ad2 H locs h9 hP hI hA0 hS => ?_)
        rw [← h9 (2 + 19 * r) (by omega), ← h9 1 (by omega)]
        refine rn_astq (k := 1) (i := r) (len := 6) (t0 := 5) (kv := 2 + 19 * r) (ci := 2) (vs := mkF (fun z => ad2 (2 + 19 * r + z)) iM) (f := fun j => if j < r then some (ad (2 + 19 * j)) else none) hx hb hK hI hP hS hA0 (by omega) (by unfold ceJ; rw [if_pos (by omega), va_up_ne _ _ (show 1 ≠ 2 + 19 * r by omega)]; rfl) rfl (by omega) (by unfold ceJ; rw [if_neg (Nat.lt_irrefl _), Nat.sub_self]; rfl) rfl hr6 (by decide) dX1_init_33 (fun H locs hP hS => ?_)
        have hag : ∀ j, j < 2 + 19 * r → ad2 j = ad j := fun j hj => (h9 j (by omega)).trans (hlt j hj)
        have hP := hP.ext (hip_s (r := r) hr6 hag)
        refine lv_iinc (v := nI (r + 1)) (lv' := [(1, .int (nI (r + 1))), (0, .ref q)]) hx hb dX1_init_34 hl (k := 0) rfl (nI_add r 1) (by decide) rfl (fun ls hl => ?_)
        refine lv_goto (tgt := 15) hx hb dX1_init_37 (by decide) ?_
        refine W.widen (k := 1 + 19 * (r + 1)) (n := 6 + 151 * (r + 1)) (by omega) (by omega) ?_
        exact ih (r + 1) (by omega) (by omega) ad2 H locs ((hag 0 (by omega)).trans had0) hI hP hA0 hS ls hl
  exact lpR 7 0 (by omega) (by omega) ad H locs had0 hI hP hA0 hS ls hl

