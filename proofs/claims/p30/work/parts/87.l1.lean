/-! CONSTANTS of the law -/
theorem k1_L_7 : Cond.constant RL 7 (32452867) ∈ wB := wB_of 501 (by decide +kernel) (by decide +kernel)
theorem k1_L_8 : Cond.constant RL 8 (15485863) ∈ wB := wB_of 502 (by decide +kernel) (by decide +kernel)
theorem k1_L_9 : Cond.constant RL 9 (2147483647) ∈ wB := wB_of 506 (by decide +kernel) (by decide +kernel)
theorem k2_L_58 : Cond.constantLong RL 58 (1000000) ∈ wB := wB_of 603 (by decide +kernel) (by decide +kernel)
theorem k2_L_60 : Cond.constantLong RL 60 (1000) ∈ wB := wB_of 604 (by decide +kernel) (by decide +kernel)
theorem k2_L_73 : Cond.constantLong RL 73 (-1) ∈ wB := wB_of 618 (by decide +kernel) (by decide +kernel)
/-! THE LAW: small methods over its rows -/
def rM (r : Int32) (Z : Nat → Int32) : Prop := ∀ q, q < 12 → ((r >>> (nI q &&& 31)) &&& nI 1 = nI 1 ↔ Z (27 + q) = nI 1)
def fT (Z : Nat → Int32) (n : Nat) : Prop := (∃ h, h < 1000000 ∧ Z 3 = nI h) ∧ ∀ k, k < n → (∃ f, f < 24 ∧ Z (39 + 8 * k + 1) = nI f) ∧ ∃ t, t < 24 ∧ Z (39 + 8 * k + 2) = nI t
/-- the law's rows can be walked -/
def lG (r : Int32) (Z : Nat → Int32) (n : Nat) : Prop := zW Z n ∧ rM r Z ∧ fT Z n
theorem lG_upd {r : Int32} {Z : Nat → Int32} {n i : Nat} {x : Int32} (h : lG r Z n) (h4 : i ≠ 4) (h3 : i ≠ 3) (ha : ∀ k, k < n → i ≠ 39 + 8 * k + 4 ∧ i ≠ 39 + 8 * k + 1 ∧ i ≠ 39 + 8 * k + 2) (hbd : ∀ b, b < 4 → i ≠ 7 + 5 * b + 0) (hq : ∀ q, q < 12 → i ≠ 27 + q) : lG r (upd Z i x) n := by
  refine ⟨zW_upd h.1 h4 (fun k hk => (ha k hk).1) hbd, fun q hq9 => ?_, ?_, fun k hk => ?_⟩
  · rw [upd_n (Ne.symm (hq q hq9))]; exact h.2.1 q hq9
  · rw [upd_n (Ne.symm h3)]; exact h.2.2.1
  · rw [upd_n (Ne.symm (ha k hk).2.1), upd_n (Ne.symm (ha k hk).2.2)]; exact h.2.2.2 k hk
theorem want_law {Z : Nat → Int32} {k f t h : Nat} (e1 : Z (39 + 8 * k + 1) = nI f) (e2 : Z (39 + 8 * k + 2) = nI t) (e3 : Z 3 = nI h) (hf : f < 24) (ht : t < 24) (hh : h < 1000000) : decide ((h % 24 + 24 - f) % 24 ≤ (t + 24 - f) % 24) = wantB Z k := by
  have hd : hrD Z = nI (h % 24) := by unfold hrD; rw [e3]; exact pk_rem (by omega) (by omega) (by omega)
  unfold wantB
  rw [hd, e1, e2]
  have p1 : (nI f ≤ nI (h % 24)) = (f ≤ h % 24) := propext (nI_leI (by omega) (by omega))
  have p2 : (nI (h % 24) ≤ nI t) = (h % 24 ≤ t) := propext (nI_leI (by omega) (by omega))
  simp only [p1, p2]
  by_cases c : f ≤ t
  · rw [if_pos ((nI_leI (by omega) (by omega)).mpr c)]
    by_cases c1 : f ≤ h % 24 <;> by_cases c2 : h % 24 ≤ t <;> simp only [c1, c2, decide_true, decide_false, Bool.and_true, Bool.and_false, Bool.false_and, Bool.true_and, decide_eq_true_eq, decide_eq_false_iff_not] <;> omega
  · rw [if_neg (fun q => c ((nI_leI (by omega) (by omega)).mp q))]
    by_cases c1 : f ≤ h % 24 <;> by_cases c2 : h % 24 ≤ t <;> simp only [c1, c2, decide_true, decide_false, Bool.or_true, Bool.or_false, Bool.false_or, Bool.true_or, decide_eq_true_eq, decide_eq_false_iff_not] <;> omega
theorem sub24 {a f : Nat} (hf : f < 24) : (nI a - nI f) + nI 24 = nI (a + 24 - f) := by
  rw [Int32.sub_eq_add_neg, Int32.add_assoc, Int32.add_comm (-nI f) (nI 24), ← Int32.add_assoc, ← Int32.sub_eq_add_neg, nI_add, pk_sub (by omega)]
/-- the lower 31 bits as a number -/
def loN (v : Int32) (n : Nat) : Nat := (v.toBitVec.toNat % 2147483648) % n
theorem loN_lt {v : Int32} {n : Nat} (h : 0 < n) : loN v n < n := Nat.mod_lt _ h
theorem low_and (v : Int32) : v &&& 2147483647 = nI (v.toBitVec.toNat % 2147483648) := by
  apply Int32.toBitVec_inj.mp
  apply BitVec.eq_of_toNat_eq
  rw [Int32.toBitVec_and, BitVec.toNat_and, show (2147483647 : Int32).toBitVec.toNat = 2 ^ 31 - 1 from by decide, Nat.and_two_pow_sub_one_eq_mod]
  show _ = (BitVec.ofNat 32 _).toNat
  rw [BitVec.toNat_ofNat]
  omega
theorem sk_neg {Z : Nat → Int32} {n k : Nat} (h : zW Z n) (hk : k < n) : (Z (39 + 8 * k + 4) < 0) ↔ Z (39 + 8 * k + 4) = -1 := by
  rcases h.2.2.1 k hk with h1 | ⟨q, hq, h1⟩
  · rw [h1]; decide
  · rw [h1]
    refine ⟨fun h2 => absurd h2 (nI_pos (by omega)), fun h2 => absurd h2 (nI_nm1 (by omega))⟩
set_option maxRecDepth 100000 in
set_option maxHeartbeats 4000000 in
theorem mL_low (l : Launch) (D : va_G) (ct : Nat → ClassId) (ad : Nat → Nat) (Z : Nat → Int32) (r : Int32) (v : Int32) (n : Nat)  (hn0 : 0 < n) (hn1 : n < 1000000) : FMet l yL_low cL_low 2 (some .int) 0 0 D ct 5 ad [.int (v), .int (nI n)] (lwc ct Z r) (some (.int (nI (loN v n)))) (lwc ct Z r) := by
  refine FMet.of (by decide +kernel) (Nat.le_of_ble_eq_true rfl) ?_
  intro p e s m args below meth c ls hx hb hr hml hown hlocks htg hK hI hP hS hl
  have hl : lv_has ls 2 [(0, .int (v)), (1, .int (nI n))] := hl
  refine lv_iload_n hx hb dL_low_0 rfl (lv_at hl 0 rfl) ?_
  refine lv_ldc (v := 2147483647) hx hb hown (htg _ k1_L_9) dL_low_1 ?_
  refine lv_iand hx hb dL_low_3 ?_
  refine lv_teq (low_and v) ?_
  refine lv_iload_n hx hb dL_low_4 rfl (lv_at hl 1 rfl) ?_
  refine lv_iremN hx hb (by omega) (by omega) (by omega) dL_low_5 ?_
  refine fr_iret hx hb hr hlocks hK hI hS rfl dL_low_6 ?_ ?_
  · exact congrArg nI (show (v.toBitVec.toNat % 2147483648) % n = loN v n from by rfl)
  · exact hP
set_option maxRecDepth 100000 in
set_option maxHeartbeats 4000000 in
theorem mL_breaker (l : Launch) (D : va_G) (ct : Nat → ClassId) (ad : Nat → Nat) (Z : Nat → Int32) (r : Int32) (q : Nat)  (hq : q < 12) (hr9 : rM r Z) : FMet l yL_breaker cL_breaker 2 (some .int) 0 0 D ct 5 ad [.ref (ad 3), .int (nI q)] (lwc ct Z r) (some (.int (nI (brk Z q)))) (lwc ct Z r) := by
  refine FMet.of (by decide +kernel) (Nat.le_of_ble_eq_true rfl) ?_
  intro p e s m args below meth c ls hx hb hr hml hown hlocks htg hK hI hP hS hl
  have hl : lv_has ls 2 [(0, .ref (ad 3)), (1, .int (nI q))] := hl
  refine lv_aload_n hx hb dL_breaker_0 rfl (lv_at hl 0 rfl) ?_
  refine lv_iconst (v := nI 0) hx hb dL_breaker_1 (by decide) ?_
  refine lw_l3 hx hb hK hP (by omega) dL_breaker_2 ?_
  refine lv_teq vwR_at ?_
  refine lv_iload_n hx hb dL_breaker_3 rfl (lv_at hl 1 rfl) ?_
  refine lv_ishr hx hb dL_breaker_4 ?_
  refine lv_iconst (v := nI 1) hx hb dL_breaker_5 (by decide) ?_
  refine lv_iand hx hb dL_breaker_6 ?_
  refine lv_iconst (v := nI 1) hx hb dL_breaker_7 (by decide) ?_
  refine lv_icmp_ne (tgt := 15) hx hb dL_breaker_8 (by decide) (fun c8 => ?_) (fun c8 => ?_)
  · refine lv_iload_n hx hb dL_breaker_15 rfl (lv_at hl 1 rfl) ?_
    refine lv_iconst (v := nI 3) hx hb dL_breaker_16 (by decide) ?_
    refine lv_idivN hx hb (by omega) (by omega) (by omega) dL_breaker_17 ?_
    refine fr_iret hx hb hr hlocks hK hI hS rfl dL_breaker_18 ?_ ?_
    · exact congrArg nI (show q / 3 = brk Z q from by first | exact (if_pos ((hr9 q hq).mp c8)).symm | exact (if_neg (fun h9 => c8 ((hr9 q hq).mpr h9))).symm)
    · exact hP
  · refine lv_iconst (v := nI 3) hx hb dL_breaker_11 (by decide) ?_
    refine lv_goto (tgt := 18) hx hb dL_breaker_12 (by decide) ?_
    refine fr_iret hx hb hr hlocks hK hI hS rfl dL_breaker_18 ?_ ?_
    · exact congrArg nI (show 3 = brk Z q from by first | exact (if_pos ((hr9 q hq).mp c8)).symm | exact (if_neg (fun h9 => c8 ((hr9 q hq).mpr h9))).symm)
    · exact hP
set_option maxRecDepth 100000 in
set_option maxHeartbeats 4000000 in
theorem mL_wants (l : Launch) (D : va_G) (ct : Nat → ClassId) (ad : Nat → Nat) (Z : Nat → Int32) (r : Int32) (k : Nat) (n : Nat) (hg : lG r Z n) (hkn : k < n) : FMet l yL_wants cL_wants 4 (some .boolean) 0 0 D ct 5 ad [.ref (ad 0), .ref (ad 4), .int (nI k)] (lwc ct Z r) (some (.int (bi (wantB Z k)))) (lwc ct Z r) := by
  refine FMet.of (by decide +kernel) (Nat.le_of_ble_eq_true rfl) ?_
  intro p e s m args below meth c ls hx hb hr hml hown hlocks htg hK hI hP hS hl
  have hl : lv_has ls 4 [(0, .ref (ad 0)), (1, .ref (ad 4)), (2, .int (nI k))] := hl
  have hn10 := hg.1.1
  obtain ⟨h0, hh0, e3⟩ := hg.2.2.1
  obtain ⟨⟨f0, hf0, e1⟩, t0, ht0, e2⟩ := hg.2.2.2 k hkn
  refine lv_aload_n hx hb dL_wants_0 rfl (lv_at hl 0 rfl) ?_
  refine lv_bipush (v := nI 6) hx hb dL_wants_1 (by decide) ?_
  refine lv_iload_n hx hb dL_wants_3 rfl (lv_at hl 2 rfl) ?_
  refine lv_imulN hx hb dL_wants_4 ?_
  refine lv_iconst (v := nI 2) hx hb dL_wants_5 (by decide) ?_
  refine lv_iaddN hx hb dL_wants_6 ?_
  refine lw_l0 hx hb hK hP (by omega) dL_wants_7 ?_
  refine lv_teq (vwA_at (by omega) (by omega)) ?_
  refine lv_teq e2 ?_
  refine lv_aload_n hx hb dL_wants_8 rfl (lv_at hl 0 rfl) ?_
  refine lv_bipush (v := nI 6) hx hb dL_wants_9 (by decide) ?_
  refine lv_iload_n hx hb dL_wants_11 rfl (lv_at hl 2 rfl) ?_
  refine lv_imulN hx hb dL_wants_12 ?_
  refine lv_iconst (v := nI 1) hx hb dL_wants_13 (by decide) ?_
  refine lv_iaddN hx hb dL_wants_14 ?_
  refine lw_l0 hx hb hK hP (by omega) dL_wants_15 ?_
  refine lv_teq (vwA_at (by omega) (by omega)) ?_
  refine lv_teq e1 ?_
  refine lv_isub hx hb dL_wants_16 ?_
  refine lv_bipush (v := nI 24) hx hb dL_wants_17 (by decide) ?_
  refine lv_iadd hx hb dL_wants_19 ?_
  refine lv_teq (sub24 hf0) ?_
  refine lv_bipush (v := nI 24) hx hb dL_wants_20 (by decide) ?_
  refine lv_iremN hx hb (by omega) (by omega) (by omega) dL_wants_22 ?_
  refine lv_istore_n (lv' := [(3, .int (nI ((t0 + 24 - f0) % 24))), (0, .ref (ad 0)), (1, .ref (ad 4)), (2, .int (nI k))]) hx hb dL_wants_23 rfl hl (by decide) rfl (fun ls hl => ?_)
  refine lv_aload_n hx hb dL_wants_24 rfl (lv_at hl 2 rfl) ?_
  refine lv_iconst (v := nI 3) hx hb dL_wants_25 (by decide) ?_
  refine lw_l4 hx hb hK hP (by omega) dL_wants_26 ?_
  refine lv_teq (vwT_at (by omega)) ?_
  refine lv_teq e3 ?_
  refine lv_bipush (v := nI 24) hx hb dL_wants_27 (by decide) ?_
  refine lv_iremN hx hb (by omega) (by omega) (by omega) dL_wants_29 ?_
  refine lv_aload_n hx hb dL_wants_30 rfl (lv_at hl 1 rfl) ?_
  refine lv_bipush (v := nI 6) hx hb dL_wants_31 (by decide) ?_
  refine lv_iload_n hx hb dL_wants_33 rfl (lv_at hl 3 rfl) ?_
  refine lv_imulN hx hb dL_wants_34 ?_
  refine lv_iconst (v := nI 1) hx hb dL_wants_35 (by decide) ?_
  refine lv_iaddN hx hb dL_wants_36 ?_
  refine lw_l0 hx hb hK hP (by omega) dL_wants_37 ?_
  refine lv_teq (vwA_at (by omega) (by omega)) ?_
  refine lv_teq e1 ?_
  refine lv_isub hx hb dL_wants_38 ?_
  refine lv_bipush (v := nI 24) hx hb dL_wants_39 (by decide) ?_
  refine lv_iadd hx hb dL_wants_41 ?_
  refine lv_teq (sub24 hf0) ?_
  refine lv_bipush (v := nI 24) hx hb dL_wants_42 (by decide) ?_
  refine lv_iremN hx hb (by omega) (by omega) (by omega) dL_wants_44 ?_
  refine lv_iload_n hx hb dL_wants_45 rfl (lv_at hl 0 rfl) ?_
  refine lv_icmp_gtN (tgt := 53) hx hb (by omega) (by omega) dL_wants_46 (by decide) (fun c46 => ?_) (fun c46 => ?_)
  · refine lv_iconst (v := nI 0) hx hb dL_wants_53 (by decide) ?_
    refine fr_iret hx hb hr hlocks hK hI hS rfl dL_wants_54 ?_ ?_
    · exact (congrArg bi (show (wantB Z k) = false from by first | exact (want_law e1 e2 e3 hf0 ht0 hh0).symm.trans (decide_eq_true (by omega)) | exact (want_law e1 e2 e3 hf0 ht0 hh0).symm.trans (decide_eq_false (by omega)))).symm
    · exact hP
  · refine lv_iconst (v := nI 1) hx hb dL_wants_49 (by decide) ?_
    refine lv_goto (tgt := 54) hx hb dL_wants_50 (by decide) ?_
    refine fr_iret hx hb hr hlocks hK hI hS rfl dL_wants_54 ?_ ?_
    · exact (congrArg bi (show (wantB Z k) = true from by first | exact (want_law e1 e2 e3 hf0 ht0 hh0).symm.trans (decide_eq_true (by omega)) | exact (want_law e1 e2 e3 hf0 ht0 hh0).symm.trans (decide_eq_false (by omega)))).symm
    · exact hP
set_option maxRecDepth 100000 in
set_option maxHeartbeats 4000000 in
theorem mL_reason (l : Launch) (D : va_G) (ct : Nat → ClassId) (ad : Nat → Nat) (Z : Nat → Int32) (r : Int32) (k : Nat) (n : Nat) (hg : lG r Z n) (hkn : k < n) : FMet l yL_reason cL_reason 5 (some .int) 1 23 D ct 5 ad [.ref (ad 0), .ref (ad 2), .ref (ad 3), .ref (ad 4), .int (nI k)] (lwc ct Z r) (some (.int (nI (rsn Z k)))) (lwc ct Z r) := by
  refine FMet.of (by decide +kernel) (Nat.le_of_ble_eq_true rfl) ?_
  intro p e s m args below meth c ls hx hb hr hml hown hlocks htg hK hI hP hS hl
  have hl : lv_has ls 5 [(0, .ref (ad 0)), (1, .ref (ad 2)), (2, .ref (ad 3)), (3, .ref (ad 4)), (4, .int (nI k))] := hl
  have hn10 := hg.1.1
  refine lv_aload_n hx hb dL_reason_0 rfl (lv_at hl 0 rfl) ?_
  refine lv_aload_n hx hb dL_reason_1 rfl (lv_at hl 3 rfl) ?_
  refine lv_iload hx hb dL_reason_2 (lv_at hl 4 rfl) ?_
  refine lw_cr (As := [.ref (ad 0), .ref (ad 4), .int (nI k)]) (rest := []) hx hb hown htg hK hI hS hP (fun _ h => fA_in h) hml hl.1 (mL_wants l D ct ad _ _ k n hg (by omega)) cw_L_10 rfl rfl ⟨Nat.le_of_ble_eq_true rfl, Nat.le_of_ble_eq_true rfl⟩ (Nat.le_of_ble_eq_true rfl) dL_reason_4 ⟨Nat.le_refl _, Nat.le_refl _⟩ (fun H locs hP hS => ?_)
  refine lv_ifneB (tgt := 14) hx hb dL_reason_7 (by decide) (fun c7 => ?_) (fun c7 => ?_)
  · refine lv_aload_n hx hb dL_reason_14 rfl (lv_at hl 0 rfl) ?_
    refine lv_bipush (v := nI 6) hx hb dL_reason_15 (by decide) ?_
    refine lv_iload hx hb dL_reason_17 (lv_at hl 4 rfl) ?_
    refine lv_imulN hx hb dL_reason_19 ?_
    refine lv_iconst (v := nI 4) hx hb dL_reason_20 (by decide) ?_
    refine lv_iaddN hx hb dL_reason_21 ?_
    refine lw_l0 hx hb hK hP (by omega) dL_reason_22 ?_
    refine lv_teq (vwA_at (by omega) (by omega)) ?_
    refine lv_ifgeR (tgt := 30) hx hb dL_reason_23 (by decide) (fun c23 => ?_) (fun c23 => ?_)
    · have d4 : ¬ Z (39 + 8 * k + 4) = -1 := fun h9 => Int32.not_lt.mpr c23 ((sk_neg hg.1 hkn).mpr h9)
      have hq9 := skt_lt hg.1 (by omega) d4
      have hb9 := brk_lt (Z := Z) hq9
      refine lv_aload_n hx hb dL_reason_30 rfl (lv_at hl 1 rfl) ?_
      refine lv_iconst (v := nI 5) hx hb dL_reason_31 (by decide) ?_
      refine lv_aload_n hx hb dL_reason_32 rfl (lv_at hl 2 rfl) ?_
      refine lv_aload_n hx hb dL_reason_33 rfl (lv_at hl 0 rfl) ?_
      refine lv_bipush (v := nI 6) hx hb dL_reason_34 (by decide) ?_
      refine lv_iload hx hb dL_reason_36 (lv_at hl 4 rfl) ?_
      refine lv_imulN hx hb dL_reason_38 ?_
      refine lv_iconst (v := nI 4) hx hb dL_reason_39 (by decide) ?_
      refine lv_iaddN hx hb dL_reason_40 ?_
      refine lw_l0 hx hb hK hP (by omega) dL_reason_41 ?_
      refine lv_teq (vwA_at (by omega) (by omega)) ?_
      refine lv_teq (skt_eq hg.1 (by omega) d4) ?_
      refine lw_cr (As := [.ref (ad 3), .int (nI (skt Z k))]) (rest := [.int (nI 5), .ref (ad 2)]) hx hb hown htg hK hI hS hP (fun _ h => fA_in h) hml hl.1 (mL_breaker l D ct ad _ _ (skt Z k) (by omega) ((hg).2.1)) cw_L_16 rfl rfl ⟨Nat.le_of_ble_eq_true rfl, Nat.le_of_ble_eq_true rfl⟩ (Nat.le_of_ble_eq_true rfl) dL_reason_42 ⟨Nat.le_refl _, Nat.le_refl _⟩ (fun H locs hP hS => ?_)
      have hbk := @brk_lt Z (skt Z k) (by omega)
      refine lv_imulN hx hb dL_reason_45 ?_
      refine lv_iconst (v := nI 1) hx hb dL_reason_46 (by decide) ?_
      refine lv_iaddN hx hb dL_reason_47 ?_
      refine lw_l2 hx hb hK hP (by omega) dL_reason_48 ?_
      refine lv_teq (vwB_at (by omega) (by omega)) ?_
      refine lv_if_ne (tgt := 56) hx hb dL_reason_49 (by decide) (fun c49 => ?_) (fun c49 => ?_)
      · refine lv_aload_n hx hb dL_reason_56 rfl (lv_at hl 0 rfl) ?_
        refine lv_bipush (v := nI 6) hx hb dL_reason_57 (by decide) ?_
        refine lv_iload hx hb dL_reason_59 (lv_at hl 4 rfl) ?_
        refine lv_imulN hx hb dL_reason_61 ?_
        refine lv_iconst (v := nI 5) hx hb dL_reason_62 (by decide) ?_
        refine lv_iaddN hx hb dL_reason_63 ?_
        refine lw_l0 hx hb hK hP (by omega) dL_reason_64 ?_
        refine lv_teq (vwA_at (by omega) (by omega)) ?_
        refine lv_iconst (v := nI 1) hx hb dL_reason_65 (by decide) ?_
        refine lv_icmp_ne (tgt := 73) hx hb dL_reason_66 (by decide) (fun c66 => ?_) (fun c66 => ?_)
        · refine lv_iconst (v := nI 0) hx hb dL_reason_73 (by decide) ?_
          refine fr_iret hx hb hr hlocks hK hI hS rfl dL_reason_74 ?_ ?_
          · exact congrArg nI (show 0 = rsn Z k from by first | (exfalso; omega) | (simp only [rsn, c7, c23, Int32.not_lt.mpr c23, d4, c49, c66, decide_true, decide_false, Bool.and_true, Bool.true_and, Bool.and_false, Bool.false_and, Bool.or_true, Bool.true_or, Bool.or_false, Bool.false_or, Bool.and_self, Bool.or_self, if_true, if_false, eq_self, Bool.false_eq_true, Bool.true_eq_false, reduceCtorEq, nI_0, not_true_eq_false, not_false_eq_true, and_true, true_and, and_false, false_and, or_true, true_or, or_false, false_or, and_self, or_self, Int32.add_zero]; done) | (simp [rsn, c7, c23, Int32.not_lt.mpr c23, d4, c49, c66, nI_0]; done) | (simp only [rsn, c7, c23, Int32.not_lt.mpr c23, d4, c49, c66, decide_true, decide_false, Bool.and_true, Bool.true_and, Bool.and_false, Bool.false_and, Bool.or_true, Bool.true_or, Bool.or_false, Bool.false_or, Bool.and_self, Bool.or_self, if_true, if_false, eq_self, Bool.false_eq_true, Bool.true_eq_false, reduceCtorEq, nI_0, not_true_eq_false, not_false_eq_true, and_true, true_and, and_false, false_and, or_true, true_or, or_false, false_or, and_self, or_self, Int32.add_zero]; omega) | (simp [rsn, c7, c23, Int32.not_lt.mpr c23, d4, c49, c66, nI_0]; omega))
          · exact hP
        · refine lv_iconst (v := nI 4) hx hb dL_reason_69 (by decide) ?_
          refine lv_goto (tgt := 74) hx hb dL_reason_70 (by decide) ?_
          refine fr_iret hx hb hr hlocks hK hI hS rfl dL_reason_74 ?_ ?_
          · exact congrArg nI (show 4 = rsn Z k from by first | (exfalso; omega) | (simp only [rsn, c7, c23, Int32.not_lt.mpr c23, d4, c49, c66, decide_true, decide_false, Bool.and_true, Bool.true_and, Bool.and_false, Bool.false_and, Bool.or_true, Bool.true_or, Bool.or_false, Bool.false_or, Bool.and_self, Bool.or_self, if_true, if_false, eq_self, Bool.false_eq_true, Bool.true_eq_false, reduceCtorEq, nI_0, not_true_eq_false, not_false_eq_true, and_true, true_and, and_false, false_and, or_true, true_or, or_false, false_or, and_self, or_self, Int32.add_zero]; done) | (simp [rsn, c7, c23, Int32.not_lt.mpr c23, d4, c49, c66, nI_0]; done) | (simp only [rsn, c7, c23, Int32.not_lt.mpr c23, d4, c49, c66, decide_true, decide_false, Bool.and_true, Bool.true_and, Bool.and_false, Bool.false_and, Bool.or_true, Bool.true_or, Bool.or_false, Bool.false_or, Bool.and_self, Bool.or_self, if_true, if_false, eq_self, Bool.false_eq_true, Bool.true_eq_false, reduceCtorEq, nI_0, not_true_eq_false, not_false_eq_true, and_true, true_and, and_false, false_and, or_true, true_or, or_false, false_or, and_self, or_self, Int32.add_zero]; omega) | (simp [rsn, c7, c23, Int32.not_lt.mpr c23, d4, c49, c66, nI_0]; omega))
          · exact hP
      · refine lv_iconst (v := nI 3) hx hb dL_reason_52 (by decide) ?_
        refine lv_goto (tgt := 74) hx hb dL_reason_53 (by decide) ?_
        refine fr_iret hx hb hr hlocks hK hI hS rfl dL_reason_74 ?_ ?_
        · exact congrArg nI (show 3 = rsn Z k from by first | (exfalso; omega) | (simp only [rsn, c7, c23, Int32.not_lt.mpr c23, d4, c49, decide_true, decide_false, Bool.and_true, Bool.true_and, Bool.and_false, Bool.false_and, Bool.or_true, Bool.true_or, Bool.or_false, Bool.false_or, Bool.and_self, Bool.or_self, if_true, if_false, eq_self, Bool.false_eq_true, Bool.true_eq_false, reduceCtorEq, nI_0, not_true_eq_false, not_false_eq_true, and_true, true_and, and_false, false_and, or_true, true_or, or_false, false_or, and_self, or_self, Int32.add_zero]; done) | (simp [rsn, c7, c23, Int32.not_lt.mpr c23, d4, c49, nI_0]; done) | (simp only [rsn, c7, c23, Int32.not_lt.mpr c23, d4, c49, decide_true, decide_false, Bool.and_true, Bool.true_and, Bool.and_false, Bool.false_and, Bool.or_true, Bool.true_or, Bool.or_false, Bool.false_or, Bool.and_self, Bool.or_self, if_true, if_false, eq_self, Bool.false_eq_true, Bool.true_eq_false, reduceCtorEq, nI_0, not_true_eq_false, not_false_eq_true, and_true, true_and, and_false, false_and, or_true, true_or, or_false, false_or, and_self, or_self, Int32.add_zero]; omega) | (simp [rsn, c7, c23, Int32.not_lt.mpr c23, d4, c49, nI_0]; omega))
        · exact hP
    · have d4 := (sk_neg hg.1 hkn).mp c23
      refine lv_iconst (v := nI 2) hx hb dL_reason_26 (by decide) ?_
      refine lv_goto (tgt := 74) hx hb dL_reason_27 (by decide) ?_
      refine fr_iret hx hb hr hlocks hK hI hS rfl dL_reason_74 ?_ ?_
      · exact congrArg nI (show 2 = rsn Z k from by first | (exfalso; omega) | (simp only [rsn, c7, c23, Int32.not_le.mpr c23, d4, decide_true, decide_false, Bool.and_true, Bool.true_and, Bool.and_false, Bool.false_and, Bool.or_true, Bool.true_or, Bool.or_false, Bool.false_or, Bool.and_self, Bool.or_self, if_true, if_false, eq_self, Bool.false_eq_true, Bool.true_eq_false, reduceCtorEq, nI_0, not_true_eq_false, not_false_eq_true, and_true, true_and, and_false, false_and, or_true, true_or, or_false, false_or, and_self, or_self, Int32.add_zero]; done) | (simp [rsn, c7, c23, Int32.not_le.mpr c23, d4, nI_0]; done) | (simp only [rsn, c7, c23, Int32.not_le.mpr c23, d4, decide_true, decide_false, Bool.and_true, Bool.true_and, Bool.and_false, Bool.false_and, Bool.or_true, Bool.true_or, Bool.or_false, Bool.false_or, Bool.and_self, Bool.or_self, if_true, if_false, eq_self, Bool.false_eq_true, Bool.true_eq_false, reduceCtorEq, nI_0, not_true_eq_false, not_false_eq_true, and_true, true_and, and_false, false_and, or_true, true_or, or_false, false_or, and_self, or_self, Int32.add_zero]; omega) | (simp [rsn, c7, c23, Int32.not_le.mpr c23, d4, nI_0]; omega))
      · exact hP
  · refine lv_iconst (v := nI 1) hx hb dL_reason_10 (by decide) ?_
    refine lv_goto (tgt := 74) hx hb dL_reason_11 (by decide) ?_
    refine fr_iret hx hb hr hlocks hK hI hS rfl dL_reason_74 ?_ ?_
    · exact congrArg nI (show 1 = rsn Z k from by first | (exfalso; omega) | (simp only [rsn, c7, decide_true, decide_false, Bool.and_true, Bool.true_and, Bool.and_false, Bool.false_and, Bool.or_true, Bool.true_or, Bool.or_false, Bool.false_or, Bool.and_self, Bool.or_self, if_true, if_false, eq_self, Bool.false_eq_true, Bool.true_eq_false, reduceCtorEq, nI_0, not_true_eq_false, not_false_eq_true, and_true, true_and, and_false, false_and, or_true, true_or, or_false, false_or, and_self, or_self, Int32.add_zero]; done) | (simp [rsn, c7, nI_0]; done) | (simp only [rsn, c7, decide_true, decide_false, Bool.and_true, Bool.true_and, Bool.and_false, Bool.false_and, Bool.or_true, Bool.true_or, Bool.or_false, Bool.false_or, Bool.and_self, Bool.or_self, if_true, if_false, eq_self, Bool.false_eq_true, Bool.true_eq_false, reduceCtorEq, nI_0, not_true_eq_false, not_false_eq_true, and_true, true_and, and_false, false_and, or_true, true_or, or_false, false_or, and_self, or_self, Int32.add_zero]; omega) | (simp [rsn, c7, nI_0]; omega))
    · exact hP
set_option maxRecDepth 100000 in
set_option maxHeartbeats 4000000 in
theorem mL_carries (l : Launch) (D : va_G) (ct : Nat → ClassId) (ad : Nat → Nat) (Z : Nat → Int32) (r : Int32) (bk : Nat) (n : Nat) (hg : lG r Z n) (hb4 : bk < 4) : FMet l yL_carries cL_carries 7 (some .int) 2 47 D ct 5 ad [.ref (ad 0), .ref (ad 2), .ref (ad 3), .ref (ad 4), .int (nI bk)] (lwc ct Z r) (some (.int (carS Z bk n))) (lwc ct Z r) := by
  refine FMet.of (by decide +kernel) (Nat.le_of_ble_eq_true rfl) ?_
  intro p e s m args below meth c ls hx hb hr hml hown hlocks htg hK hI hP hS hl
  have hl : lv_has ls 7 [(0, .ref (ad 0)), (1, .ref (ad 2)), (2, .ref (ad 3)), (3, .ref (ad 4)), (4, .int (nI bk))] := hl
  have hn10 := hg.1.1
  refine lv_iconst (v := nI 0) hx hb dL_carries_0 (by decide) ?_
  refine lv_istore (lv' := [(5, .int (nI 0)), (0, .ref (ad 0)), (1, .ref (ad 2)), (2, .ref (ad 3)), (3, .ref (ad 4)), (4, .int (nI bk))]) hx hb dL_carries_1 hl (by decide) rfl (fun ls hl => ?_)
  refine lv_iconst (v := nI 0) hx hb dL_carries_3 (by decide) ?_
  refine lv_istore (lv' := [(6, .int (nI 0)), (5, .int (nI 0)), (0, .ref (ad 0)), (1, .ref (ad 2)), (2, .ref (ad 3)), (3, .ref (ad 4)), (4, .int (nI bk))]) hx hb dL_carries_4 hl (by decide) rfl (fun ls hl => ?_)
  have lp6 : ∀ (fu6 : Nat) (i : Nat), i ≤ n → n - i < fu6 → ∀ (H : Heap) (locs : List Loc), fP D 5 ad (lwc ct Z r) H → va_S (fA 5 ad) s.heap H locs → ∀ (ls : Array Slot), lv_has ls 7 [(6, .int (nI i)), (5, .int (carS Z bk i)), (0, .ref (ad 0)), (1, .ref (ad 2)), (2, .ref (ad 3)), (3, .ref (ad 4)), (4, .int (nI bk))] → W p l e ({ frames := 2, cells := 0, slots := 0, locals := 47 }) s m args below meth c H locs 0 0 (MQ below (fQ D ct 5 ad (some (.int (carS Z bk n))) (lwc ct Z r)) args s 0 0 (fA 5 ad)) (F0 m 6 ls []) := by
    intro fu6
    induction fu6 with
    | zero => intro i hi hfu6; exact absurd hfu6 (Nat.not_lt_zero _)
    | succ fu6 ih6 =>
      intro i hi hfu6 H locs hP hS ls hl
      refine lv_iload hx hb dL_carries_6 (lv_at hl 0 rfl) ?_
      refine lv_aload_n hx hb dL_carries_8 rfl (lv_at hl 5 rfl) ?_
      refine lv_iconst (v := nI 4) hx hb dL_carries_9 (by decide) ?_
      refine lw_l4 hx hb hK hP (by omega) dL_carries_10 ?_
      refine lv_teq (vwT_at (by omega)) ?_
      refine lv_teq (hg).1.2.1 ?_
      refine lv_icmp_geN (tgt := 66) hx hb (by omega) (by omega) dL_carries_11 (by decide) (fun c11 => ?_) (fun c11 => ?_)
      · have e9 : n = i := by omega
        subst e9
        refine lv_iload hx hb dL_carries_66 (lv_at hl 1 rfl) ?_
        refine fr_iret hx hb hr hlocks hK hI hS rfl dL_carries_68 ?_ ?_
        · exact rfl
        · exact hP
      · refine lv_iload hx hb dL_carries_14 (lv_at hl 1 rfl) ?_
        refine lv_aload_n hx hb dL_carries_16 rfl (lv_at hl 2 rfl) ?_
        refine lv_aload_n hx hb dL_carries_17 rfl (lv_at hl 3 rfl) ?_
        refine lv_aload_n hx hb dL_carries_18 rfl (lv_at hl 4 rfl) ?_
        refine lv_aload_n hx hb dL_carries_19 rfl (lv_at hl 5 rfl) ?_
        refine lv_iload hx hb dL_carries_20 (lv_at hl 0 rfl) ?_
        refine lw_cr (As := [.ref (ad 0), .ref (ad 2), .ref (ad 3), .ref (ad 4), .int (nI i)]) (rest := [.int (carS Z bk i)]) hx hb hown htg hK hI hS hP (fun _ h => fA_in h) hml hl.1 (mL_reason l D ct ad _ _ i n hg (by omega)) cw_L_20 rfl rfl ⟨Nat.le_of_ble_eq_true rfl, Nat.le_of_ble_eq_true rfl⟩ (Nat.le_of_ble_eq_true rfl) dL_carries_22 ⟨Nat.le_refl _, Nat.le_refl _⟩ (fun H locs hP hS => ?_)
        have hrl := @rsn_lt Z i
        refine lv_ifneN (tgt := 56) hx hb (by omega) dL_carries_25 (by decide) (fun c25 => ?_) (fun c25 => ?_)
        · refine lv_iconst (v := nI 0) hx hb dL_carries_56 (by decide) ?_
          refine lv_iadd hx hb dL_carries_57 ?_
          refine lv_istore (lv' := [(5, .int ((carS Z bk i) + (nI 0))), (6, .int (nI i)), (0, .ref (ad 0)), (1, .ref (ad 2)), (2, .ref (ad 3)), (3, .ref (ad 4)), (4, .int (nI bk))]) hx hb dL_carries_58 hl (by decide) rfl (fun ls hl => ?_)
          refine lv_iinc (v := nI (i + 1)) (lv' := [(6, .int (nI (i + 1))), (5, .int ((carS Z bk i) + (nI 0))), (0, .ref (ad 0)), (1, .ref (ad 2)), (2, .ref (ad 3)), (3, .ref (ad 4)), (4, .int (nI bk))]) hx hb dL_carries_60 hl (k := 1) rfl (nI_add i 1) (by decide) rfl (fun ls hl => ?_)
          refine lv_goto (tgt := 6) hx hb dL_carries_63 (by decide) ?_
          have hl := lv_sub (l' := [(6, .int (nI (i + 1))), (5, .int ((carS Z bk i) + (nI 0))), (0, .ref (ad 0)), (1, .ref (ad 2)), (2, .ref (ad 3)), (3, .ref (ad 4)), (4, .int (nI bk))]) hl [0, 1, 2, 3, 4, 5, 6] rfl
          have le5 : Value.int ((carS Z bk i) + (nI 0)) = Value.int (carS Z bk (i + 1)) := by first | (exfalso; omega) | (simp only [carS, drwB, onB, c11, Nat.not_le.mpr c11, c25, decide_true, decide_false, Bool.and_true, Bool.true_and, Bool.and_false, Bool.false_and, Bool.or_true, Bool.true_or, Bool.or_false, Bool.false_or, Bool.and_self, Bool.or_self, if_true, if_false, eq_self, Bool.false_eq_true, Bool.true_eq_false, reduceCtorEq, nI_0, not_true_eq_false, not_false_eq_true, and_true, true_and, and_false, false_and, or_true, true_or, or_false, false_or, and_self, or_self, Int32.add_zero]; done) | (simp [carS, drwB, onB, c11, Nat.not_le.mpr c11, c25, nI_0]; done) | (simp only [carS, drwB, onB, c11, Nat.not_le.mpr c11, c25, decide_true, decide_false, Bool.and_true, Bool.true_and, Bool.and_false, Bool.false_and, Bool.or_true, Bool.true_or, Bool.or_false, Bool.false_or, Bool.and_self, Bool.or_self, if_true, if_false, eq_self, Bool.false_eq_true, Bool.true_eq_false, reduceCtorEq, nI_0, not_true_eq_false, not_false_eq_true, and_true, true_and, and_false, false_and, or_true, true_or, or_false, false_or, and_self, or_self, Int32.add_zero]; omega) | (simp [carS, drwB, onB, c11, Nat.not_le.mpr c11, c25, nI_0]; omega)
          have hl := lv_hasE hl (lcons rfl (lcons le5 (lcons rfl (lcons rfl (lcons rfl (lcons rfl (lcons rfl rfl)))))))
          exact ih6 (i + 1) (by omega) (by omega) _ _ hP hS _ hl
        · have d4 : ¬ Z (39 + 8 * i + 4) = -1 := rsn0_at c25
          have hq9 := skt_lt hg.1 (by omega) d4
          have hb9 := brk_lt (Z := Z) hq9
          refine lv_aload_n hx hb dL_carries_28 rfl (lv_at hl 4 rfl) ?_
          refine lv_aload_n hx hb dL_carries_29 rfl (lv_at hl 2 rfl) ?_
          refine lv_bipush (v := nI 6) hx hb dL_carries_30 (by decide) ?_
          refine lv_iload hx hb dL_carries_32 (lv_at hl 0 rfl) ?_
          refine lv_imulN hx hb dL_carries_34 ?_
          refine lv_iconst (v := nI 4) hx hb dL_carries_35 (by decide) ?_
          refine lv_iaddN hx hb dL_carries_36 ?_
          refine lw_l0 hx hb hK hP (by omega) dL_carries_37 ?_
          refine lv_teq (vwA_at (by omega) (by omega)) ?_
          refine lv_teq (skt_eq hg.1 (by omega) d4) ?_
          refine lw_cr (As := [.ref (ad 3), .int (nI (skt Z i))]) (rest := [.int (carS Z bk i)]) hx hb hown htg hK hI hS hP (fun _ h => fA_in h) hml hl.1 (mL_breaker l D ct ad _ _ (skt Z i) (by omega) ((hg).2.1)) cw_L_16 rfl rfl ⟨Nat.le_of_ble_eq_true rfl, Nat.le_of_ble_eq_true rfl⟩ (Nat.le_of_ble_eq_true rfl) dL_carries_38 ⟨Nat.le_refl _, Nat.le_refl _⟩ (fun H locs hP hS => ?_)
          have hbk := @brk_lt Z (skt Z i) (by omega)
          refine lv_iload hx hb dL_carries_41 (lv_at hl 6 rfl) ?_
          refine lv_icmp_neN (tgt := 56) hx hb (by omega) (by omega) dL_carries_43 (by decide) (fun c43 => ?_) (fun c43 => ?_)
          · refine lv_iconst (v := nI 0) hx hb dL_carries_56 (by decide) ?_
            refine lv_iadd hx hb dL_carries_57 ?_
            refine lv_istore (lv' := [(5, .int ((carS Z bk i) + (nI 0))), (6, .int (nI i)), (0, .ref (ad 0)), (1, .ref (ad 2)), (2, .ref (ad 3)), (3, .ref (ad 4)), (4, .int (nI bk))]) hx hb dL_carries_58 hl (by decide) rfl (fun ls hl => ?_)
            refine lv_iinc (v := nI (i + 1)) (lv' := [(6, .int (nI (i + 1))), (5, .int ((carS Z bk i) + (nI 0))), (0, .ref (ad 0)), (1, .ref (ad 2)), (2, .ref (ad 3)), (3, .ref (ad 4)), (4, .int (nI bk))]) hx hb dL_carries_60 hl (k := 1) rfl (nI_add i 1) (by decide) rfl (fun ls hl => ?_)
            refine lv_goto (tgt := 6) hx hb dL_carries_63 (by decide) ?_
            have hl := lv_sub (l' := [(6, .int (nI (i + 1))), (5, .int ((carS Z bk i) + (nI 0))), (0, .ref (ad 0)), (1, .ref (ad 2)), (2, .ref (ad 3)), (3, .ref (ad 4)), (4, .int (nI bk))]) hl [0, 1, 2, 3, 4, 5, 6] rfl
            have le5 : Value.int ((carS Z bk i) + (nI 0)) = Value.int (carS Z bk (i + 1)) := by first | (exfalso; omega) | (simp only [carS, drwB, onB, c11, Nat.not_le.mpr c11, c25, d4, c43, decide_true, decide_false, Bool.and_true, Bool.true_and, Bool.and_false, Bool.false_and, Bool.or_true, Bool.true_or, Bool.or_false, Bool.false_or, Bool.and_self, Bool.or_self, if_true, if_false, eq_self, Bool.false_eq_true, Bool.true_eq_false, reduceCtorEq, nI_0, not_true_eq_false, not_false_eq_true, and_true, true_and, and_false, false_and, or_true, true_or, or_false, false_or, and_self, or_self, Int32.add_zero]; done) | (simp [carS, drwB, onB, c11, Nat.not_le.mpr c11, c25, d4, c43, nI_0]; done) | (simp only [carS, drwB, onB, c11, Nat.not_le.mpr c11, c25, d4, c43, decide_true, decide_false, Bool.and_true, Bool.true_and, Bool.and_false, Bool.false_and, Bool.or_true, Bool.true_or, Bool.or_false, Bool.false_or, Bool.and_self, Bool.or_self, if_true, if_false, eq_self, Bool.false_eq_true, Bool.true_eq_false, reduceCtorEq, nI_0, not_true_eq_false, not_false_eq_true, and_true, true_and, and_false, false_and, or_true, true_or, or_false, false_or, and_self, or_self, Int32.add_zero]; omega) | (simp [carS, drwB, onB, c11, Nat.not_le.mpr c11, c25, d4, c43, nI_0]; omega)
            have hl := lv_hasE hl (lcons rfl (lcons le5 (lcons rfl (lcons rfl (lcons rfl (lcons rfl (lcons rfl rfl)))))))
            exact ih6 (i + 1) (by omega) (by omega) _ _ hP hS _ hl
          · refine lv_aload_n hx hb dL_carries_46 rfl (lv_at hl 2 rfl) ?_
            refine lv_bipush (v := nI 6) hx hb dL_carries_47 (by decide) ?_
            refine lv_iload hx hb dL_carries_49 (lv_at hl 0 rfl) ?_
            refine lv_imulN hx hb dL_carries_51 ?_
            refine lw_l0 hx hb hK hP (by omega) dL_carries_52 ?_
            refine lv_teq (vwA_a0 (by omega)) ?_
            refine lv_goto (tgt := 57) hx hb dL_carries_53 (by decide) ?_
            refine lv_iadd hx hb dL_carries_57 ?_
            refine lv_istore (lv' := [(5, .int ((carS Z bk i) + (Z (39 + 8 * i + 0)))), (6, .int (nI i)), (0, .ref (ad 0)), (1, .ref (ad 2)), (2, .ref (ad 3)), (3, .ref (ad 4)), (4, .int (nI bk))]) hx hb dL_carries_58 hl (by decide) rfl (fun ls hl => ?_)
            refine lv_iinc (v := nI (i + 1)) (lv' := [(6, .int (nI (i + 1))), (5, .int ((carS Z bk i) + (Z (39 + 8 * i + 0)))), (0, .ref (ad 0)), (1, .ref (ad 2)), (2, .ref (ad 3)), (3, .ref (ad 4)), (4, .int (nI bk))]) hx hb dL_carries_60 hl (k := 1) rfl (nI_add i 1) (by decide) rfl (fun ls hl => ?_)
            refine lv_goto (tgt := 6) hx hb dL_carries_63 (by decide) ?_
            have hl := lv_sub (l' := [(6, .int (nI (i + 1))), (5, .int ((carS Z bk i) + (Z (39 + 8 * i + 0)))), (0, .ref (ad 0)), (1, .ref (ad 2)), (2, .ref (ad 3)), (3, .ref (ad 4)), (4, .int (nI bk))]) hl [0, 1, 2, 3, 4, 5, 6] rfl
            have le5 : Value.int ((carS Z bk i) + (Z (39 + 8 * i + 0))) = Value.int (carS Z bk (i + 1)) := by first | (exfalso; omega) | (simp only [carS, drwB, onB, c11, Nat.not_le.mpr c11, c25, d4, c43, decide_true, decide_false, Bool.and_true, Bool.true_and, Bool.and_false, Bool.false_and, Bool.or_true, Bool.true_or, Bool.or_false, Bool.false_or, Bool.and_self, Bool.or_self, if_true, if_false, eq_self, Bool.false_eq_true, Bool.true_eq_false, reduceCtorEq, nI_0, not_true_eq_false, not_false_eq_true, and_true, true_and, and_false, false_and, or_true, true_or, or_false, false_or, and_self, or_self, Int32.add_zero]; done) | (simp [carS, drwB, onB, c11, Nat.not_le.mpr c11, c25, d4, c43, nI_0]; done) | (simp only [carS, drwB, onB, c11, Nat.not_le.mpr c11, c25, d4, c43, decide_true, decide_false, Bool.and_true, Bool.true_and, Bool.and_false, Bool.false_and, Bool.or_true, Bool.true_or, Bool.or_false, Bool.false_or, Bool.and_self, Bool.or_self, if_true, if_false, eq_self, Bool.false_eq_true, Bool.true_eq_false, reduceCtorEq, nI_0, not_true_eq_false, not_false_eq_true, and_true, true_and, and_false, false_and, or_true, true_or, or_false, false_or, and_self, or_self, Int32.add_zero]; omega) | (simp [carS, drwB, onB, c11, Nat.not_le.mpr c11, c25, d4, c43, nI_0]; omega)
            have hl := lv_hasE hl (lcons rfl (lcons le5 (lcons rfl (lcons rfl (lcons rfl (lcons rfl (lcons rfl rfl)))))))
            exact ih6 (i + 1) (by omega) (by omega) _ _ hP hS _ hl
  have hl := lv_sub (l' := [(6, .int (nI 0)), (5, .int (nI 0)), (0, .ref (ad 0)), (1, .ref (ad 2)), (2, .ref (ad 3)), (3, .ref (ad 4)), (4, .int (nI bk))]) hl [0, 1, 2, 3, 4, 5, 6] rfl
  have le5 : Value.int (nI 0) = Value.int (carS Z bk 0) := by rfl
  have hl := lv_hasE hl (lcons rfl (lcons le5 (lcons rfl (lcons rfl (lcons rfl (lcons rfl (lcons rfl rfl)))))))
  exact lp6 (n - 0 + 1) 0 (by omega) (Nat.lt_succ_self _) _ _ hP hS _ hl
set_option maxRecDepth 100000 in
set_option maxHeartbeats 4000000 in
theorem mL_at (l : Launch) (D : va_G) (ct : Nat → ClassId) (ad : Nat → Nat) (Z : Nat → Int32) (r : Int32) (q : Int32) (n : Nat) (hg : lG r Z n) : FMet l yL_at cL_at 5 (some .int) 0 0 D ct 5 ad [.ref (ad 0), .ref (ad 4), .int (q)] (lwc ct Z r) (some (.int (ox (satN Z q n)))) (lwc ct Z r) := by
  refine FMet.of (by decide +kernel) (Nat.le_of_ble_eq_true rfl) ?_
  intro p e s m args below meth c ls hx hb hr hml hown hlocks htg hK hI hP hS hl
  have hl : lv_has ls 5 [(0, .ref (ad 0)), (1, .ref (ad 4)), (2, .int (q))] := hl
  have hn10 := hg.1.1
  refine lv_iconst (v := -1) hx hb dL_at_0 (by decide) ?_
  refine lv_istore_n (lv' := [(3, .int (-1)), (0, .ref (ad 0)), (1, .ref (ad 4)), (2, .int (q))]) hx hb dL_at_1 rfl hl (by decide) rfl (fun ls hl => ?_)
  refine lv_iconst (v := nI 0) hx hb dL_at_2 (by decide) ?_
  refine lv_istore (lv' := [(4, .int (nI 0)), (3, .int (-1)), (0, .ref (ad 0)), (1, .ref (ad 4)), (2, .int (q))]) hx hb dL_at_3 hl (by decide) rfl (fun ls hl => ?_)
  have lp5 : ∀ (fu5 : Nat) (i : Nat), i ≤ n → n - i < fu5 → ∀ (H : Heap) (locs : List Loc), fP D 5 ad (lwc ct Z r) H → va_S (fA 5 ad) s.heap H locs → ∀ (ls : Array Slot), lv_has ls 5 [(4, .int (nI i)), (3, .int (ox (satN Z q i))), (0, .ref (ad 0)), (1, .ref (ad 4)), (2, .int (q))] → W p l e ({ frames := 0, cells := 0, slots := 0, locals := 0 }) s m args below meth c H locs 0 0 (MQ below (fQ D ct 5 ad (some (.int (ox (satN Z q n)))) (lwc ct Z r)) args s 0 0 (fA 5 ad)) (F0 m 5 ls []) := by
    intro fu5
    induction fu5 with
    | zero => intro i hi hfu5; exact absurd hfu5 (Nat.not_lt_zero _)
    | succ fu5 ih5 =>
      intro i hi hfu5 H locs hP hS ls hl
      refine lv_iload hx hb dL_at_5 (lv_at hl 0 rfl) ?_
      refine lv_aload_n hx hb dL_at_7 rfl (lv_at hl 3 rfl) ?_
      refine lv_iconst (v := nI 4) hx hb dL_at_8 (by decide) ?_
      refine lw_l4 hx hb hK hP (by omega) dL_at_9 ?_
      refine lv_teq (vwT_at (by omega)) ?_
      refine lv_teq (hg).1.2.1 ?_
      refine lv_icmp_geN (tgt := 39) hx hb (by omega) (by omega) dL_at_10 (by decide) (fun c10 => ?_) (fun c10 => ?_)
      · have e9 : n = i := by omega
        subst e9
        refine lv_iload_n hx hb dL_at_39 rfl (lv_at hl 1 rfl) ?_
        refine fr_iret hx hb hr hlocks hK hI hS rfl dL_at_40 ?_ ?_
        · exact rfl
        · exact hP
      · refine lv_aload_n hx hb dL_at_13 rfl (lv_at hl 2 rfl) ?_
        refine lv_bipush (v := nI 6) hx hb dL_at_14 (by decide) ?_
        refine lv_iload hx hb dL_at_16 (lv_at hl 0 rfl) ?_
        refine lv_imulN hx hb dL_at_18 ?_
        refine lv_iconst (v := nI 4) hx hb dL_at_19 (by decide) ?_
        refine lv_iaddN hx hb dL_at_20 ?_
        refine lw_l0 hx hb hK hP (by omega) dL_at_21 ?_
        refine lv_teq (vwA_at (by omega) (by omega)) ?_
        refine lv_iload_n hx hb dL_at_22 rfl (lv_at hl 4 rfl) ?_
        refine lv_icmp_ne (tgt := 31) hx hb dL_at_23 (by decide) (fun c23 => ?_) (fun c23 => ?_)
        · refine lv_iload_n hx hb dL_at_31 rfl (lv_at hl 1 rfl) ?_
          refine lv_istore_n (lv' := [(3, .int (ox (satN Z q i))), (4, .int (nI i)), (0, .ref (ad 0)), (1, .ref (ad 4)), (2, .int (q))]) hx hb dL_at_32 rfl hl (by decide) rfl (fun ls hl => ?_)
          refine lv_iinc (v := nI (i + 1)) (lv' := [(4, .int (nI (i + 1))), (3, .int (ox (satN Z q i))), (0, .ref (ad 0)), (1, .ref (ad 4)), (2, .int (q))]) hx hb dL_at_33 hl (k := 1) rfl (nI_add i 1) (by decide) rfl (fun ls hl => ?_)
          refine lv_goto (tgt := 5) hx hb dL_at_36 (by decide) ?_
          have hl := lv_sub (l' := [(4, .int (nI (i + 1))), (3, .int (ox (satN Z q i))), (0, .ref (ad 0)), (1, .ref (ad 4)), (2, .int (q))]) hl [0, 1, 2, 3, 4] rfl
          have le3 : Value.int (ox (satN Z q i)) = Value.int (ox (satN Z q (i + 1))) := by first | (rw [satN_t c23, ox_n (by omega)]; done) | (rw [satN_f c23]; done)
          have hl := lv_hasE hl (lcons rfl (lcons le3 (lcons rfl (lcons rfl (lcons rfl rfl)))))
          exact ih5 (i + 1) (by omega) (by omega) _ _ hP hS _ hl
        · refine lv_iload hx hb dL_at_26 (lv_at hl 0 rfl) ?_
          refine lv_goto (tgt := 32) hx hb dL_at_28 (by decide) ?_
          refine lv_istore_n (lv' := [(3, .int (nI i)), (4, .int (nI i)), (0, .ref (ad 0)), (1, .ref (ad 4)), (2, .int (q))]) hx hb dL_at_32 rfl hl (by decide) rfl (fun ls hl => ?_)
          refine lv_iinc (v := nI (i + 1)) (lv' := [(4, .int (nI (i + 1))), (3, .int (nI i)), (0, .ref (ad 0)), (1, .ref (ad 4)), (2, .int (q))]) hx hb dL_at_33 hl (k := 1) rfl (nI_add i 1) (by decide) rfl (fun ls hl => ?_)
          refine lv_goto (tgt := 5) hx hb dL_at_36 (by decide) ?_
          have hl := lv_sub (l' := [(4, .int (nI (i + 1))), (3, .int (nI i)), (0, .ref (ad 0)), (1, .ref (ad 4)), (2, .int (q))]) hl [0, 1, 2, 3, 4] rfl
          have le3 : Value.int (nI i) = Value.int (ox (satN Z q (i + 1))) := by first | (rw [satN_t c23, ox_n (by omega)]; done) | (rw [satN_f c23]; done)
          have hl := lv_hasE hl (lcons rfl (lcons le3 (lcons rfl (lcons rfl (lcons rfl rfl)))))
          exact ih5 (i + 1) (by omega) (by omega) _ _ hP hS _ hl
  have hl := lv_sub (l' := [(4, .int (nI 0)), (3, .int (-1)), (0, .ref (ad 0)), (1, .ref (ad 4)), (2, .int (q))]) hl [0, 1, 2, 3, 4] rfl
  have le3 : Value.int (-1) = Value.int (ox (satN Z q 0)) := by rfl
  have hl := lv_hasE hl (lcons rfl (lcons le3 (lcons rfl (lcons rfl (lcons rfl rfl)))))
  exact lp5 (n - 0 + 1) 0 (by omega) (Nat.lt_succ_self _) _ _ hP hS _ hl
