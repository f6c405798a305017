/-! THE CLASS: the orders of a plan done, one by one -/
theorem pNS_1 {B : Nat → Int32} {tn pl : Nat} {s : Bool × Nat × (Nat → Int32)} {lo hi : Int32} (h : (pNS B tn s pl lo hi).1 = true) : s.1 = true ∧ (pN B tn s.2.1 lo hi).1 = true ∧ (pNS B tn s pl lo hi).2.2 = upd s.2.2 pl (pN B tn s.2.1 lo hi).2.2 := by
  unfold pNS at h ⊢
  by_cases c : s.1 = true
  · rw [if_pos c] at h ⊢
    exact ⟨c, h, if_pos h⟩
  · rw [if_neg c] at h; exact absurd h c
theorem pSS_1 {B : Nat → Int32} {tn : Nat} {s : Bool × Nat × (Nat → Int32)} {c : Int32} (h : (pSS B tn s c).1 = true) : s.1 = true ∧ (pSS B tn s c).2.2 = s.2.2 := by
  unfold pSS at h ⊢
  by_cases q : s.1 = true
  · rw [if_pos q] at h ⊢; exact ⟨q, rfl⟩
  · rw [if_neg q] at h; exact absurd h q
theorem pO_okA {B : Nat → Int32} {tn p : Nat} {A : Nat → Int32} {kd : Int32} {r : Bool × Nat × (Nat → Int32) × Int32} (h : pO B tn p A kd = r) (h1 : r.1 = true) : okA r.2.2.1 r.2.2.2 := by
  rw [← h] at h1 ⊢
  unfold pO at h1 ⊢
  split
  · exact ⟨fun q => absurd (show nI 115 = nI 112 from q) (by decide), fun q _ => absurd rfl q⟩
  · rename_i c; rw [if_neg c] at h1
    split
    · rename_i c1; rw [if_pos c1] at h1
      have a1 : (pOp B tn (p + 1) A).1 = true := h1
      unfold pOp at a1
      have b1 := pNS_1 a1
      have b2 := pSS_1 b1.1
      have b3 := pNS_1 b2.1
      refine ⟨fun _ => ?_, fun _ q => absurd rfl q⟩
      show (pOp B tn (p + 1) A).2.2 0 = nI (iN ((pOp B tn (p + 1) A).2.2 0)) ∧ iN ((pOp B tn (p + 1) A).2.2 0) ≤ 9
      have e : (pOp B tn (p + 1) A).2.2 0 = (pN B tn (p + 1) (nI 0) (nI 9)).2.2 := by
        unfold pOp
        rw [b1.2.2, upd_n (by omega), b2.2, b3.2.2, upd_s]
      rw [e]
      have q := inB_n (by decide) (by decide) (pN_in (by omega) (by omega) (by omega) b3.2.1)
      exact ⟨q.1, q.2.2⟩
    · rename_i c1; rw [if_neg c1] at h1
      split
      · rename_i c2; rw [if_pos c2] at h1
        have a1 : (pOh B tn (p + 1) A).1 = true := h1
        unfold pOh at a1
        have b3 := pNS_1 a1
        refine ⟨fun q => absurd (show nI 104 = nI 112 from q) (by decide), fun _ _ => ?_⟩
        show (pOh B tn (p + 1) A).2.2 0 = nI (iN ((pOh B tn (p + 1) A).2.2 0)) ∧ iN ((pOh B tn (p + 1) A).2.2 0) ≤ 48
        have e : (pOh B tn (p + 1) A).2.2 0 = (pN B tn (p + 1) (nI 1) (nI 48)).2.2 := by
          unfold pOh
          rw [b3.2.2, upd_s]
        rw [e]
        have q := inB_n (by decide) (by decide) (pN_in (by omega) (by omega) (by omega) b3.2.1)
        exact ⟨q.1, q.2.2⟩
      · rename_i c2; rw [if_neg c2] at h1; exact absurd h1 Bool.false_ne_true
def cdN (n : Nat) (kd : Int32) : Nat := if kd = nI 115 then n + 1 else n
theorem cdMs_mW {Ms : Nat → Nat → Int32} {n : Nat} {A : Nat → Int32} {kd : Int32} (h : mW (Ms 0) n) (hb : cdB (Ms 0) n A kd = true) : mW (cdMs Ms n A kd 0) (cdN n kd) := by
  unfold cdMs cdN
  rw [if_pos hb, vup_s]
  unfold cdM
  unfold cdB at hb
  split
  · rename_i c; rw [if_pos c] at hb
    have := of_decide_eq_true hb
    exact ⟨upd_s, by omega⟩
  · split
    · exact mW_upd h (by omega)
    · exact cHs_mW h _
theorem cdMs_f {Ms : Nat → Nat → Int32} {n : Nat} {A : Nat → Int32} {kd : Int32} (hb : cdB (Ms 0) n A kd = false) : cdMs Ms n A kd = Ms := by
  unfold cdMs; rw [if_neg (by rw [hb]; exact Bool.false_ne_true)]
/-- how many are done, the markets, the stalls, the place, the numbers, the kind -/
def cOr (B : Nat → Int32) (tn : Nat) : Nat → Nat → (Nat → Nat → Int32) → Nat → Nat → (Nat → Int32) → Int32 → Nat × (Nat → Nat → Int32) × Nat × Nat × (Nat → Int32) × Int32
  | 0, i, X, n, p, A, kd => (i, X, n, p, A, kd)
  | f + 1, i, X, n, p, A, kd =>
    if (pO B tn p A kd).1 = true ∧ cdB (X 0) n (pO B tn p A kd).2.2.1 (pO B tn p A kd).2.2.2 = true then cOr B tn f (i + 1) (cdMs X n (pO B tn p A kd).2.2.1 (pO B tn p A kd).2.2.2) (cdN n (pO B tn p A kd).2.2.2) (sP B tn (pO B tn p A kd).2.1 (nI 59)) (pO B tn p A kd).2.2.1 (pO B tn p A kd).2.2.2
    else (i, X, n, (pO B tn p A kd).2.1, (pO B tn p A kd).2.2.1, (pO B tn p A kd).2.2.2)
theorem cOr_no {B : Nat → Int32} {tn f i n p : Nat} {X : Nat → Nat → Int32} {A : Nat → Int32} {kd : Int32} {r : Bool × Nat × (Nat → Int32) × Int32} (hf : 1 ≤ f) (h : pO B tn p A kd = r) (hn : ¬ (r.1 = true ∧ cdB (X 0) n r.2.2.1 r.2.2.2 = true)) : cOr B tn f i X n p A kd = (i, X, n, r.2.1, r.2.2.1, r.2.2.2) := by
  cases f
  · omega
  · rw [cOr, h, if_neg hn]
theorem cOr_go {B : Nat → Int32} {tn f i n p : Nat} {X : Nat → Nat → Int32} {A : Nat → Int32} {kd : Int32} {r : Bool × Nat × (Nat → Int32) × Int32} (hf : 1 ≤ f) (h : pO B tn p A kd = r) (h1 : r.1 = true) (h2 : cdB (X 0) n r.2.2.1 r.2.2.2 = true) : cOr B tn f i X n p A kd = cOr B tn (f - 1) (i + 1) (cdMs X n r.2.2.1 r.2.2.2) (cdN n r.2.2.2) (sP B tn r.2.1 (nI 59)) r.2.2.1 r.2.2.2 := by
  cases f
  · omega
  · rw [cOr, h, if_pos ⟨h1, h2⟩]; rfl
set_option maxRecDepth 100000 in
set_option maxHeartbeats 4000000 in
theorem mX5_doOrders (l : Launch) (D : va_G) (ct : Nat → ClassId) (ad : Nat → Nat) (Ms : Nat → Nat → Int32) (kp : Nat → Int32) (nx sz : Nat) (B A : Nat → Int32) (tn p9 : Nat) (kd : Int32)  (n : Nat) (rr : Nat × (Nat → Nat → Int32) × Nat × Nat × (Nat → Int32) × Int32) (hrr : cOr B tn 60 0 Ms n 0 A kd = rr) (hw : mW (Ms 0) n) (htn : tn ≤ 60) : FMet l yX5_doOrders cX5_doOrders 2 (some .int) 6 130 D ct 198 ad [.ref (ad 0)] (csc ct ad Ms kp (nI nx) (nI sz) B A (nI tn) (nI p9) kd) (some (.int (nI rr.1))) (csc ct ad rr.2.1 kp (nI nx) (nI sz) B rr.2.2.2.2.1 (nI tn) (nI rr.2.2.2.1) rr.2.2.2.2.2) := by
  refine FMet.of (by decide +kernel) (Nat.le_of_ble_eq_true rfl) ?_
  intro p e s m args below meth c ls hx hb hr hml hown hlocks htg hK hI hP hS hl
  have hl : lv_has ls 2 [(0, .ref (ad 0))] := hl
  have hn10 := hw.2
  refine lv_aload_n hx hb dX5_doOrders_0 rfl (lv_at hl 0 rfl) ?_
  refine cs_g5 hx hb hown htg hK hP fl_X5_37 dX5_doOrders_1 ?_
  refine lv_iconst (v := nI 0) hx hb dX5_doOrders_4 (by decide) ?_
  refine cs_qp2 hx hb hown htg hK hI hS hP fl_X5_165 dX5_doOrders_5 (fun H locs hP hS => ?_)
  refine lv_iconst (v := nI 0) hx hb dX5_doOrders_8 (by decide) ?_
  refine lv_istore_n (lv' := [(1, .int (nI 0)), (0, .ref (ad 0))]) hx hb dX5_doOrders_9 rfl hl (by decide) rfl (fun ls hl => ?_)
  have lp10 : ∀ (fu10 : Nat) (f : Nat) (i : Nat) (nn : Nat) (j : Nat) (X : Nat → Nat → Int32) (A1 : Nat → Int32) (k1 : Int32), mW (X 0) nn → f + i = 60 → j ≤ 60 → cOr B tn f i X nn j A1 k1 = rr → f < fu10 → ∀ (H : Heap) (locs : List Loc), fP D 198 ad (csc ct ad X kp (nI nx) (nI sz) B A1 (nI tn) (nI j) k1) H → va_S (fA 198 ad) s.heap H locs → ∀ (ls : Array Slot), lv_has ls 2 [(1, .int (nI i)), (0, .ref (ad 0))] → W p l e ({ frames := 6, cells := 0, slots := 0, locals := 130 }) s m args below meth c H locs 0 0 (MQ below (fQ D ct 198 ad (some (.int (nI rr.1))) (csc ct ad rr.2.1 kp (nI nx) (nI sz) B rr.2.2.2.2.1 (nI tn) (nI rr.2.2.2.1) rr.2.2.2.2.2)) args s 0 0 (fA 198 ad)) (F0 m 10 ls []) := by
    intro fu10
    induction fu10 with
    | zero => intro f i nn j X A1 k1 hX hfi hj hres hfu10; exact absurd hfu10 (Nat.not_lt_zero _)
    | succ fu10 ih10 =>
      intro f i nn j X A1 k1 hX hfi hj hres hfu10 H locs hP hS ls hl
      refine lv_iload_n hx hb dX5_doOrders_10 rfl (lv_at hl 0 rfl) ?_
      refine lv_bipush (v := nI 60) hx hb dX5_doOrders_11 (by decide) ?_
      refine lv_icmp_geN (tgt := 51) hx hb (by omega) (by omega) dX5_doOrders_13 (by decide) (fun c13 => ?_) (fun c13 => ?_)
      · have hr9 : rr = (i, X, nn, j, A1, k1) := by rw [← hres, show f = 0 from by omega]; rfl
        refine lv_bipush (v := nI 60) hx hb dX5_doOrders_51 (by decide) ?_
        refine fr_iret hx hb hr hlocks hK hI hS rfl dX5_doOrders_53 ?_ ?_
        · exact congrArg nI (show 60 = rr.1 from by first | (rw [hr9]; done) | (rw [hr9]; omega))
        · refine fP.eqc (congrArg (fun v9 => csc ct ad v9 kp (nI nx) (nI sz) B rr.2.2.2.2.1 (nI tn) (nI rr.2.2.2.1) rr.2.2.2.2.2) (show rr.2.1 = X from by first | (rw [hr9]; done) | (rw [hr9, hX9]; done)).symm) ?_
          refine fP.eqc (congrArg (fun v9 => csc ct ad X kp (nI nx) (nI sz) B v9 (nI tn) (nI rr.2.2.2.1) rr.2.2.2.2.2) (show rr.2.2.2.2.1 = A1 from by first | (rw [hr9]; done) | (rw [hr9, hX9]; done)).symm) ?_
          refine fP.eqc (congrArg (fun v9 => csc ct ad X kp (nI nx) (nI sz) B A1 (nI tn) (nI v9) rr.2.2.2.2.2) (show rr.2.2.2.1 = j from by first | (rw [hr9]; done) | (rw [hr9, hX9]; done)).symm) ?_
          refine fP.eqc (congrArg (fun v9 => csc ct ad X kp (nI nx) (nI sz) B A1 (nI tn) (nI j) v9) (show rr.2.2.2.2.2 = k1 from by first | (rw [hr9]; done) | (rw [hr9, hX9]; done)).symm) ?_
          exact hP
      · refine lv_aload_n hx hb dX5_doOrders_16 rfl (lv_at hl 1 rfl) ?_
        refine cs_g5 hx hb hown htg hK hP fl_X5_37 dX5_doOrders_17 ?_
        obtain ⟨rr1, hrr1⟩ : ∃ z9, pO B tn j A1 k1 = z9 := ⟨_, rfl⟩
        refine cs_cpr (As := []) (rest := []) hx hb hown htg hK hI hS hP hml hl.1 (mX3_readOrder l D ct (fun z => ad (5 + z)) B A1 tn j k1 rr1 hrr1 (by omega) (by omega)) cw_X5_322 rfl rfl ⟨Nat.le_of_ble_eq_true rfl, Nat.le_of_ble_eq_true rfl⟩ (Nat.le_of_ble_eq_true rfl) dX5_doOrders_20 ⟨Nat.le_refl _, Nat.le_refl _⟩ (fun H locs hP hS => ?_)
        have := pO_le hrr1 (by omega) (by omega)
        refine lv_ifeqB (tgt := 33) hx hb dX5_doOrders_23 (by decide) (fun c23 => ?_) (fun c23 => ?_)
        · have hr9 : rr = (i, X, nn, rr1.2.1, rr1.2.2.1, rr1.2.2.2) := hres.symm.trans (cOr_no (by omega) hrr1 (fun q => by rw [c23] at q; exact Bool.false_ne_true q.1))
          refine lv_iload_n hx hb dX5_doOrders_33 rfl (lv_at hl 0 rfl) ?_
          refine fr_iret hx hb hr hlocks hK hI hS rfl dX5_doOrders_34 ?_ ?_
          · exact congrArg nI (show i = rr.1 from by first | (rw [hr9]; done) | (rw [hr9]; omega))
          · refine fP.eqc (congrArg (fun v9 => csc ct ad v9 kp (nI nx) (nI sz) B rr.2.2.2.2.1 (nI tn) (nI rr.2.2.2.1) rr.2.2.2.2.2) (show rr.2.1 = X from by first | (rw [hr9]; done) | (rw [hr9, hX9]; done)).symm) ?_
            refine fP.eqc (congrArg (fun v9 => csc ct ad X kp (nI nx) (nI sz) B v9 (nI tn) (nI rr.2.2.2.1) rr.2.2.2.2.2) (show rr.2.2.2.2.1 = rr1.2.2.1 from by first | (rw [hr9]; done) | (rw [hr9, hX9]; done)).symm) ?_
            refine fP.eqc (congrArg (fun v9 => csc ct ad X kp (nI nx) (nI sz) B rr1.2.2.1 (nI tn) (nI v9) rr.2.2.2.2.2) (show rr.2.2.2.1 = rr1.2.1 from by first | (rw [hr9]; done) | (rw [hr9, hX9]; done)).symm) ?_
            refine fP.eqc (congrArg (fun v9 => csc ct ad X kp (nI nx) (nI sz) B rr1.2.2.1 (nI tn) (nI rr1.2.1) v9) (show rr.2.2.2.2.2 = rr1.2.2.2 from by first | (rw [hr9]; done) | (rw [hr9, hX9]; done)).symm) ?_
            exact hP
        · refine lv_aload_n hx hb dX5_doOrders_26 rfl (lv_at hl 1 rfl) ?_
          refine cs_cor (As := []) (rest := []) hx hb hown htg hK hI hS hP hml hl.1 (mX5_doOrder l D ct ad X kp nx sz B rr1.2.2.1 tn rr1.2.1 rr1.2.2.2 nn hX (pO_okA hrr1 c23)) cw_X5_325 rfl rfl ⟨Nat.le_of_ble_eq_true rfl, Nat.le_of_ble_eq_true rfl⟩ (Nat.le_of_ble_eq_true rfl) dX5_doOrders_27 ⟨Nat.le_refl _, Nat.le_refl _⟩ (fun H locs hP hS => ?_)
          refine lv_ifneB (tgt := 35) hx hb dX5_doOrders_30 (by decide) (fun c30 => ?_) (fun c30 => ?_)
          · refine lv_aload_n hx hb dX5_doOrders_35 rfl (lv_at hl 1 rfl) ?_
            refine cs_g5 hx hb hown htg hK hP fl_X5_37 dX5_doOrders_36 ?_
            refine lv_bipush (v := nI 59) hx hb dX5_doOrders_39 (by decide) ?_
            refine cs_cpr (As := [.int (nI 59)]) (rest := []) hx hb hown htg hK hI hS hP hml hl.1 (mX3_readSign l D ct (fun z => ad (5 + z)) B rr1.2.2.1 tn rr1.2.1 rr1.2.2.2 (nI 59) (by omega) (by omega)) cw_X5_328 rfl rfl ⟨Nat.le_of_ble_eq_true rfl, Nat.le_of_ble_eq_true rfl⟩ (Nat.le_of_ble_eq_true rfl) dX5_doOrders_41 ⟨Nat.le_refl _, Nat.le_refl _⟩ (fun H locs hP hS => ?_)
            have := sP_le (B := B) (tn := tn) (p := rr1.2.1) (c := (nI 59)) (by omega) (by omega)
            refine lv_pop hx hb dX5_doOrders_44 rfl ?_
            refine lv_iinc (v := nI (i + 1)) (lv' := [(1, .int (nI (i + 1))), (0, .ref (ad 0))]) hx hb dX5_doOrders_45 hl (k := 0) rfl (nI_add i 1) (by decide) rfl (fun ls hl => ?_)
            refine lv_goto (tgt := 10) hx hb dX5_doOrders_48 (by decide) ?_
            have hl := lv_sub (l' := [(1, .int (nI (i + 1))), (0, .ref (ad 0))]) hl [0, 1] rfl
            exact ih10 (f - 1) (i + 1) (cdN nn rr1.2.2.2) (sP B tn rr1.2.1 (nI 59)) (cdMs X nn rr1.2.2.1 rr1.2.2.2) rr1.2.2.1 rr1.2.2.2 (cdMs_mW hX c30) (by omega) (by omega) ((cOr_go (by omega) hrr1 c23 c30).symm.trans hres) (by omega) _ _ hP hS _ hl
          · have hr9 : rr = (i, X, nn, rr1.2.1, rr1.2.2.1, rr1.2.2.2) := hres.symm.trans (cOr_no (by omega) hrr1 (fun q => by rw [c30] at q; exact Bool.false_ne_true q.2))
            have hX9 := cdMs_f c30
            refine lv_iload_n hx hb dX5_doOrders_33 rfl (lv_at hl 0 rfl) ?_
            refine fr_iret hx hb hr hlocks hK hI hS rfl dX5_doOrders_34 ?_ ?_
            · exact congrArg nI (show i = rr.1 from by first | (rw [hr9]; done) | (rw [hr9]; omega))
            · refine fP.eqc (congrArg (fun v9 => csc ct ad v9 kp (nI nx) (nI sz) B rr.2.2.2.2.1 (nI tn) (nI rr.2.2.2.1) rr.2.2.2.2.2) (show rr.2.1 = (cdMs X nn rr1.2.2.1 rr1.2.2.2) from by first | (rw [hr9]; done) | (rw [hr9, hX9]; done)).symm) ?_
              refine fP.eqc (congrArg (fun v9 => csc ct ad (cdMs X nn rr1.2.2.1 rr1.2.2.2) kp (nI nx) (nI sz) B v9 (nI tn) (nI rr.2.2.2.1) rr.2.2.2.2.2) (show rr.2.2.2.2.1 = rr1.2.2.1 from by first | (rw [hr9]; done) | (rw [hr9, hX9]; done)).symm) ?_
              refine fP.eqc (congrArg (fun v9 => csc ct ad (cdMs X nn rr1.2.2.1 rr1.2.2.2) kp (nI nx) (nI sz) B rr1.2.2.1 (nI tn) (nI v9) rr.2.2.2.2.2) (show rr.2.2.2.1 = rr1.2.1 from by first | (rw [hr9]; done) | (rw [hr9, hX9]; done)).symm) ?_
              refine fP.eqc (congrArg (fun v9 => csc ct ad (cdMs X nn rr1.2.2.1 rr1.2.2.2) kp (nI nx) (nI sz) B rr1.2.2.1 (nI tn) (nI rr1.2.1) v9) (show rr.2.2.2.2.2 = rr1.2.2.2 from by first | (rw [hr9]; done) | (rw [hr9, hX9]; done)).symm) ?_
              exact hP
  have hl := lv_sub (l' := [(1, .int (nI 0)), (0, .ref (ad 0))]) hl [0, 1] rfl
  exact lp10 (60 + 1) 60 0 n 0 Ms A kd (hw) (rfl) (by omega) (hrr) (Nat.lt_succ_self _) _ _ hP hS _ hl
