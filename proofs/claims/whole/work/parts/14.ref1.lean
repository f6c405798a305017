/-! THE REFERENCE, as functions of its row of numbers -/
def inB (v lo hi : Int32) : Bool := decide (lo ≤ v) && decide (v ≤ hi)
def stB (Z : Nat → Int32) (k : Int32) : Bool := decide (0 ≤ k) && decide (k < Z 4)
/-- the row is one that can be walked: n stalls, at most ten, each at a socket or none; no bound is below 0 -/
def zW (Z : Nat → Int32) (n : Nat) : Prop := n ≤ 10 ∧ Z 4 = nI n ∧ (∀ k, k < n → (Z (39 + 8 * k + 4) = -1 ∨ ∃ q, q < 12 ∧ Z (39 + 8 * k + 4) = nI q)) ∧ ∀ b, b < 4 → 0 ≤ Z (7 + 5 * b + 0)
theorem zW_upd {Z : Nat → Int32} {n i : Nat} {x : Int32} (h : zW Z n) (h4 : i ≠ 4) (ha : ∀ k, k < n → i ≠ 39 + 8 * k + 4) (hbd : ∀ b, b < 4 → i ≠ 7 + 5 * b + 0) : zW (upd Z i x) n := by
  refine ⟨h.1, by rw [upd, if_neg (Ne.symm h4)]; exact h.2.1, fun k hk => ?_, fun b hb => ?_⟩
  · rw [upd, if_neg (Ne.symm (ha k hk))]
    exact h.2.2.1 k hk
  · rw [upd, if_neg (Ne.symm (hbd b hb))]
    exact h.2.2.2 b hb
theorem zW_10 {Z : Nat → Int32} {n : Nat} (h : zW Z n) : n ≤ 10 := h.1
/-- the socket of a stall that is at one -/
def skt (Z : Nat → Int32) (k : Nat) : Nat := (Z (39 + 8 * k + 4)).toNatClampNeg
theorem skt_lt {Z : Nat → Int32} {n k : Nat} (h : zW Z n) (hk : k < n) (h1 : ¬ Z (39 + 8 * k + 4) = -1) : skt Z k < 12 := by
  rcases h.2.2.1 k hk with h2 | ⟨q, hq, h2⟩
  · exact absurd h2 h1
  · unfold skt; rw [h2, nI_clamp (by omega)]; exact hq
theorem skt_eq {Z : Nat → Int32} {n k : Nat} (h : zW Z n) (hk : k < n) (h1 : ¬ Z (39 + 8 * k + 4) = -1) : Z (39 + 8 * k + 4) = nI (skt Z k) := by
  rcases h.2.2.1 k hk with h2 | ⟨q, hq, h2⟩
  · exact absurd h2 h1
  · unfold skt; rw [h2, nI_clamp (by omega)]
/-- the breaker of a socket -/
def brk (Z : Nat → Int32) (q : Nat) : Nat := if Z (27 + q) = nI 1 then 3 else q / 3
theorem brk_lt {Z : Nat → Int32} {q : Nat} (h : q < 12) : brk Z q < 4 := by
  unfold brk; split <;> omega
def hrD (Z : Nat → Int32) : Int32 := Z 3 - Z 3 / (nI 24) * (nI 24)
def wantB (Z : Nat → Int32) (k : Nat) : Bool := if Z (39 + 8 * k + 1) ≤ Z (39 + 8 * k + 2) then decide (Z (39 + 8 * k + 1) ≤ hrD Z) && decide (hrD Z ≤ Z (39 + 8 * k + 2)) else decide (Z (39 + 8 * k + 1) ≤ hrD Z) || decide (hrD Z ≤ Z (39 + 8 * k + 2))
def rsn (Z : Nat → Int32) (k : Nat) : Nat := if wantB Z k = false then 1 else if Z (39 + 8 * k + 4) = -1 then 2 else if Z (7 + 5 * brk Z (skt Z k) + 1) = 0 then 3 else if Z (39 + 8 * k + 5) = nI 1 then 4 else 0
theorem rsn_lt {Z : Nat → Int32} {k : Nat} : rsn Z k < 5 := by unfold rsn; repeat' split <;> first | omega | skip
def onB (Z : Nat → Int32) (k b : Nat) : Bool := if Z (39 + 8 * k + 4) = -1 then false else decide (brk Z (skt Z k) = b)
def drwB (Z : Nat → Int32) (k b : Nat) : Bool := onB Z k b && decide (rsn Z k = 0)
def carS (Z : Nat → Int32) (b : Nat) : Nat → Int32
  | 0 => 0
  | i + 1 => carS Z b i + (if drwB Z i b = true then Z (39 + 8 * i + 0) else 0)
def gofB (Z : Nat → Int32) (k j : Nat) : Bool := decide (Z (39 + 8 * j + 3) < Z (39 + 8 * k + 3)) || (decide (Z (39 + 8 * k + 3) = Z (39 + 8 * j + 3)) && decide (Z (39 + 8 * j + 0) < Z (39 + 8 * k + 0)))
set_option maxRecDepth 100000 in
set_option maxHeartbeats 4000000 in
theorem m6_in (l : Launch) (D : va_G) (ct : Nat → ClassId) (ad : Nat → Nat) (Z g : Nat → Int32) (hs : Int64) (F : Nat → Nat → Int32) (v : Int32) (lo : Int32) (hi : Int32)    : FMet l yX6_in cX6_in 3 (some .boolean) 0 0 D ct 8 ad [.int (v), .int (lo), .int (hi)] (mdc ct ad Z g hs F) (some (.int (bi (inB v lo hi)))) (mdc ct ad Z g hs F) := by
  refine FMet.of (by decide +kernel) (Nat.le_of_ble_eq_true rfl) ?_
  intro p e s m args below meth c ls hx hb hr hml hown hlocks htg hK hI hP hS hl
  have hl : lv_has ls 3 [(0, .int (v)), (1, .int (lo)), (2, .int (hi))] := hl
  refine lv_iload_n hx hb dX6_in_0 rfl (lv_at hl 0 rfl) ?_
  refine lv_iload_n hx hb dX6_in_1 rfl (lv_at hl 1 rfl) ?_
  refine lv_icmp_ltR (tgt := 14) hx hb dX6_in_2 (by decide) (fun c2 => ?_) (fun c2 => ?_)
  · refine lv_iconst (v := nI 0) hx hb dX6_in_14 (by decide) ?_
    refine fr_iret hx hb hr hlocks hK hI hS rfl dX6_in_15 ?_ ?_
    · exact (congrArg bi (show (inB v lo hi) = false from by simp [inB, c2, Int32.not_le.mpr c2])).symm
    · exact hP
  · refine lv_iload_n hx hb dX6_in_5 rfl (lv_at hl 0 rfl) ?_
    refine lv_iload_n hx hb dX6_in_6 rfl (lv_at hl 2 rfl) ?_
    refine lv_icmp_gtR (tgt := 14) hx hb dX6_in_7 (by decide) (fun c7 => ?_) (fun c7 => ?_)
    · refine lv_iconst (v := nI 0) hx hb dX6_in_14 (by decide) ?_
      refine fr_iret hx hb hr hlocks hK hI hS rfl dX6_in_15 ?_ ?_
      · exact (congrArg bi (show (inB v lo hi) = false from by simp [inB, c2, Int32.not_lt.mpr c2, c7, Int32.not_le.mpr c7])).symm
      · exact hP
    · refine lv_iconst (v := nI 1) hx hb dX6_in_10 (by decide) ?_
      refine lv_goto (tgt := 15) hx hb dX6_in_11 (by decide) ?_
      refine fr_iret hx hb hr hlocks hK hI hS rfl dX6_in_15 ?_ ?_
      · exact (congrArg bi (show (inB v lo hi) = true from by simp [inB, c2, Int32.not_lt.mpr c2, c7, Int32.not_lt.mpr c7])).symm
      · exact hP
set_option maxRecDepth 100000 in
set_option maxHeartbeats 4000000 in
theorem m6_isBreaker (l : Launch) (D : va_G) (ct : Nat → ClassId) (ad : Nat → Nat) (Z g : Nat → Int32) (hs : Int64) (F : Nat → Nat → Int32) (b : Int32)    : FMet l yX6_isBreaker cX6_isBreaker 1 (some .boolean) 1 22 D ct 8 ad [.int (b)] (mdc ct ad Z g hs F) (some (.int (bi (inB b 0 3)))) (mdc ct ad Z g hs F) := by
  refine FMet.of (by decide +kernel) (Nat.le_of_ble_eq_true rfl) ?_
  intro p e s m args below meth c ls hx hb hr hml hown hlocks htg hK hI hP hS hl
  have hl : lv_has ls 1 [(0, .int (b))] := hl
  refine lv_iload_n hx hb dX6_isBreaker_0 rfl (lv_at hl 0 rfl) ?_
  refine lv_iconst (v := nI 0) hx hb dX6_isBreaker_1 (by decide) ?_
  refine lv_iconst (v := nI 3) hx hb dX6_isBreaker_2 (by decide) ?_
  refine md_cSr (As := [.int (b), .int (nI 0), .int (nI 3)]) (rest := []) hx hb hown htg hK hI hS hP hml hl.1 (m6_in l D ct ad _ _ _ _ b (nI 0) (nI 3)) cw_X6_40 rfl rfl ⟨Nat.le_of_ble_eq_true rfl, Nat.le_of_ble_eq_true rfl⟩ (Nat.le_of_ble_eq_true rfl) dX6_isBreaker_3 ⟨Nat.le_refl _, Nat.le_refl _⟩ (fun H locs hP hS => ?_)
  refine fr_iret hx hb hr hlocks hK hI hS bi_n dX6_isBreaker_6 ?_ ?_
  · exact congrArg bi (show (inB b (nI 0) (nI 3)) = (inB b 0 3) from by rfl)
  · exact hP
set_option maxRecDepth 100000 in
set_option maxHeartbeats 4000000 in
theorem m6_isSocket (l : Launch) (D : va_G) (ct : Nat → ClassId) (ad : Nat → Nat) (Z g : Nat → Int32) (hs : Int64) (F : Nat → Nat → Int32) (q : Int32)    : FMet l yX6_isSocket cX6_isSocket 1 (some .boolean) 1 22 D ct 8 ad [.int (q)] (mdc ct ad Z g hs F) (some (.int (bi (inB q 0 11)))) (mdc ct ad Z g hs F) := by
  refine FMet.of (by decide +kernel) (Nat.le_of_ble_eq_true rfl) ?_
  intro p e s m args below meth c ls hx hb hr hml hown hlocks htg hK hI hP hS hl
  have hl : lv_has ls 1 [(0, .int (q))] := hl
  refine lv_iload_n hx hb dX6_isSocket_0 rfl (lv_at hl 0 rfl) ?_
  refine lv_iconst (v := nI 0) hx hb dX6_isSocket_1 (by decide) ?_
  refine lv_bipush (v := nI 11) hx hb dX6_isSocket_2 (by decide) ?_
  refine md_cSr (As := [.int (q), .int (nI 0), .int (nI 11)]) (rest := []) hx hb hown htg hK hI hS hP hml hl.1 (m6_in l D ct ad _ _ _ _ q (nI 0) (nI 11)) cw_X6_40 rfl rfl ⟨Nat.le_of_ble_eq_true rfl, Nat.le_of_ble_eq_true rfl⟩ (Nat.le_of_ble_eq_true rfl) dX6_isSocket_4 ⟨Nat.le_refl _, Nat.le_refl _⟩ (fun H locs hP hS => ?_)
  refine fr_iret hx hb hr hlocks hK hI hS bi_n dX6_isSocket_7 ?_ ?_
  · exact congrArg bi (show (inB q (nI 0) (nI 11)) = (inB q 0 11) from by rfl)
  · exact hP
set_option maxRecDepth 100000 in
set_option maxHeartbeats 4000000 in
theorem m6_isStall (l : Launch) (D : va_G) (ct : Nat → ClassId) (ad : Nat → Nat) (Z g : Nat → Int32) (hs : Int64) (F : Nat → Nat → Int32) (k : Int32)    : FMet l yX6_isStall cX6_isStall 2 (some .boolean) 0 0 D ct 8 ad [.ref (ad 0), .int (k)] (mdc ct ad Z g hs F) (some (.int (bi (stB Z k)))) (mdc ct ad Z g hs F) := by
  refine FMet.of (by decide +kernel) (Nat.le_of_ble_eq_true rfl) ?_
  intro p e s m args below meth c ls hx hb hr hml hown hlocks htg hK hI hP hS hl
  have hl : lv_has ls 2 [(0, .ref (ad 0)), (1, .int (k))] := hl
  refine lv_iload_n hx hb dX6_isStall_0 rfl (lv_at hl 1 rfl) ?_
  refine lv_ifltR (tgt := 18) hx hb dX6_isStall_1 (by decide) (fun c1 => ?_) (fun c1 => ?_)
  · refine lv_iconst (v := nI 0) hx hb dX6_isStall_18 (by decide) ?_
    refine fr_iret hx hb hr hlocks hK hI hS rfl dX6_isStall_19 ?_ ?_
    · exact (congrArg bi (show (stB Z k) = false from by simp [stB, c1, Int32.not_le.mpr c1])).symm
    · exact hP
  · refine lv_iload_n hx hb dX6_isStall_4 rfl (lv_at hl 1 rfl) ?_
    refine lv_aload_n hx hb dX6_isStall_5 rfl (lv_at hl 0 rfl) ?_
    refine md_g1 hx hb hown htg hK hP dX6_isStall_6 ?_
    refine lv_iconst (v := nI 4) hx hb dX6_isStall_9 (by decide) ?_
    refine md_l1 hx hb hK hP (by omega) dX6_isStall_10 ?_
    refine lv_icmp_geR (tgt := 18) hx hb dX6_isStall_11 (by decide) (fun c11 => ?_) (fun c11 => ?_)
    · refine lv_iconst (v := nI 0) hx hb dX6_isStall_18 (by decide) ?_
      refine fr_iret hx hb hr hlocks hK hI hS rfl dX6_isStall_19 ?_ ?_
      · exact (congrArg bi (show (stB Z k) = false from by simp [stB, c1, Int32.not_lt.mpr c1, c11, Int32.not_lt.mpr c11])).symm
      · exact hP
    · refine lv_iconst (v := nI 1) hx hb dX6_isStall_14 (by decide) ?_
      refine lv_goto (tgt := 19) hx hb dX6_isStall_15 (by decide) ?_
      refine fr_iret hx hb hr hlocks hK hI hS rfl dX6_isStall_19 ?_ ?_
      · exact (congrArg bi (show (stB Z k) = true from by simp [stB, c1, Int32.not_lt.mpr c1, c11, Int32.not_le.mpr c11])).symm
      · exact hP
set_option maxRecDepth 100000 in
set_option maxHeartbeats 4000000 in
theorem m6_thrown (l : Launch) (D : va_G) (ct : Nat → ClassId) (ad : Nat → Nat) (Z g : Nat → Int32) (hs : Int64) (F : Nat → Nat → Int32)     : FMet l yX6_thrown cX6_thrown 1 (some .int) 0 0 D ct 8 ad [.ref (ad 0)] (mdc ct ad Z g hs F) (some (.int (g 0))) (mdc ct ad Z g hs F) := by
  refine FMet.of (by decide +kernel) (Nat.le_of_ble_eq_true rfl) ?_
  intro p e s m args below meth c ls hx hb hr hml hown hlocks htg hK hI hP hS hl
  have hl : lv_has ls 1 [(0, .ref (ad 0))] := hl
  refine lv_aload_n hx hb dX6_thrown_0 rfl (lv_at hl 0 rfl) ?_
  refine md_g0 (v := g 0) hx hb hown htg hK hP rfl dX6_thrown_1 ?_
  refine fr_iret hx hb hr hlocks hK hI hS rfl dX6_thrown_4 ?_ ?_
  · exact rfl
  · exact hP
set_option maxRecDepth 100000 in
set_option maxHeartbeats 4000000 in
theorem m6_by (l : Launch) (D : va_G) (ct : Nat → ClassId) (ad : Nat → Nat) (Z g : Nat → Int32) (hs : Int64) (F : Nat → Nat → Int32) (b : Nat) (w : Nat)   (hb4 : b < 4) (hw5 : w < 5) : FMet l yX6_by cX6_by 3 (some .int) 0 0 D ct 8 ad [.ref (ad 0), .int (nI b), .int (nI w)] (mdc ct ad Z g hs F) (some (.int (Z (7 + 5 * b + w)))) (mdc ct ad Z g hs F) := by
  refine FMet.of (by decide +kernel) (Nat.le_of_ble_eq_true rfl) ?_
  intro p e s m args below meth c ls hx hb hr hml hown hlocks htg hK hI hP hS hl
  have hl : lv_has ls 3 [(0, .ref (ad 0)), (1, .int (nI b)), (2, .int (nI w))] := hl
  refine lv_aload_n hx hb dX6_by_0 rfl (lv_at hl 0 rfl) ?_
  refine md_g1 hx hb hown htg hK hP dX6_by_1 ?_
  refine lv_bipush (v := nI 7) hx hb dX6_by_4 (by decide) ?_
  refine lv_iconst (v := nI 5) hx hb dX6_by_6 (by decide) ?_
  refine lv_iload_n hx hb dX6_by_7 rfl (lv_at hl 1 rfl) ?_
  refine lv_imulN hx hb dX6_by_8 ?_
  refine lv_iaddN hx hb dX6_by_9 ?_
  refine lv_iload_n hx hb dX6_by_10 rfl (lv_at hl 2 rfl) ?_
  refine lv_iaddN hx hb dX6_by_11 ?_
  refine md_l1 hx hb hK hP (by omega) dX6_by_12 ?_
  refine fr_iret hx hb hr hlocks hK hI hS rfl dX6_by_13 ?_ ?_
  · exact rfl
  · exact hP
set_option maxRecDepth 100000 in
set_option maxHeartbeats 4000000 in
theorem m6_put (l : Launch) (D : va_G) (ct : Nat → ClassId) (ad : Nat → Nat) (Z g : Nat → Int32) (hs : Int64) (F : Nat → Nat → Int32) (b : Nat) (w : Nat) (v : Int32)   (hb4 : b < 4) (hw5 : w < 5) : FMet l yX6_put cX6_put 4 (none : Option Jvm.ClassFile.FieldType) 0 0 D ct 8 ad [.ref (ad 0), .int (nI b), .int (nI w), .int (v)] (mdc ct ad Z g hs F) none (mdc ct ad (upd Z (7 + 5 * b + w) v) g hs F) := by
  refine FMet.of (by decide +kernel) (Nat.le_of_ble_eq_true rfl) ?_
  intro p e s m args below meth c ls hx hb hr hml hown hlocks htg hK hI hP hS hl
  have hl : lv_has ls 4 [(0, .ref (ad 0)), (1, .int (nI b)), (2, .int (nI w)), (3, .int (v))] := hl
  refine lv_aload_n hx hb dX6_put_0 rfl (lv_at hl 0 rfl) ?_
  refine md_g1 hx hb hown htg hK hP dX6_put_1 ?_
  refine lv_bipush (v := nI 7) hx hb dX6_put_4 (by decide) ?_
  refine lv_iconst (v := nI 5) hx hb dX6_put_6 (by decide) ?_
  refine lv_iload_n hx hb dX6_put_7 rfl (lv_at hl 1 rfl) ?_
  refine lv_imulN hx hb dX6_put_8 ?_
  refine lv_iaddN hx hb dX6_put_9 ?_
  refine lv_iload_n hx hb dX6_put_10 rfl (lv_at hl 2 rfl) ?_
  refine lv_iaddN hx hb dX6_put_11 ?_
  refine lv_iload_n hx hb dX6_put_12 rfl (lv_at hl 3 rfl) ?_
  refine md_s1 hx hb hK hI hS hP (by omega) dX6_put_13 (fun H locs hP hS => ?_)
  refine fr_vret hx hb hr hlocks hK hI hS dX6_put_14 ?_
  exact hP
set_option maxRecDepth 100000 in
set_option maxHeartbeats 4000000 in
theorem m6_of (l : Launch) (D : va_G) (ct : Nat → ClassId) (ad : Nat → Nat) (Z g : Nat → Int32) (hs : Int64) (F : Nat → Nat → Int32) (k : Nat) (w : Nat)   (hk10 : k < 10) (hw8 : w < 8) : FMet l yX6_of cX6_of 3 (some .int) 0 0 D ct 8 ad [.ref (ad 0), .int (nI k), .int (nI w)] (mdc ct ad Z g hs F) (some (.int (Z (39 + 8 * k + w)))) (mdc ct ad Z g hs F) := by
  refine FMet.of (by decide +kernel) (Nat.le_of_ble_eq_true rfl) ?_
  intro p e s m args below meth c ls hx hb hr hml hown hlocks htg hK hI hP hS hl
  have hl : lv_has ls 3 [(0, .ref (ad 0)), (1, .int (nI k)), (2, .int (nI w))] := hl
  refine lv_aload_n hx hb dX6_of_0 rfl (lv_at hl 0 rfl) ?_
  refine md_g1 hx hb hown htg hK hP dX6_of_1 ?_
  refine lv_bipush (v := nI 39) hx hb dX6_of_4 (by decide) ?_
  refine lv_bipush (v := nI 8) hx hb dX6_of_6 (by decide) ?_
  refine lv_iload_n hx hb dX6_of_8 rfl (lv_at hl 1 rfl) ?_
  refine lv_imulN hx hb dX6_of_9 ?_
  refine lv_iaddN hx hb dX6_of_10 ?_
  refine lv_iload_n hx hb dX6_of_11 rfl (lv_at hl 2 rfl) ?_
  refine lv_iaddN hx hb dX6_of_12 ?_
  refine md_l1 hx hb hK hP (by omega) dX6_of_13 ?_
  refine fr_iret hx hb hr hlocks hK hI hS rfl dX6_of_14 ?_ ?_
  · exact rfl
  · exact hP
set_option maxRecDepth 100000 in
set_option maxHeartbeats 4000000 in
theorem m6_lay (l : Launch) (D : va_G) (ct : Nat → ClassId) (ad : Nat → Nat) (Z g : Nat → Int32) (hs : Int64) (F : Nat → Nat → Int32) (k : Nat) (w : Nat) (v : Int32)   (hk10 : k < 10) (hw8 : w < 8) : FMet l yX6_lay cX6_lay 4 (none : Option Jvm.ClassFile.FieldType) 0 0 D ct 8 ad [.ref (ad 0), .int (nI k), .int (nI w), .int (v)] (mdc ct ad Z g hs F) none (mdc ct ad (upd Z (39 + 8 * k + w) v) g hs F) := by
  refine FMet.of (by decide +kernel) (Nat.le_of_ble_eq_true rfl) ?_
  intro p e s m args below meth c ls hx hb hr hml hown hlocks htg hK hI hP hS hl
  have hl : lv_has ls 4 [(0, .ref (ad 0)), (1, .int (nI k)), (2, .int (nI w)), (3, .int (v))] := hl
  refine lv_aload_n hx hb dX6_lay_0 rfl (lv_at hl 0 rfl) ?_
  refine md_g1 hx hb hown htg hK hP dX6_lay_1 ?_
  refine lv_bipush (v := nI 39) hx hb dX6_lay_4 (by decide) ?_
  refine lv_bipush (v := nI 8) hx hb dX6_lay_6 (by decide) ?_
  refine lv_iload_n hx hb dX6_lay_8 rfl (lv_at hl 1 rfl) ?_
  refine lv_imulN hx hb dX6_lay_9 ?_
  refine lv_iaddN hx hb dX6_lay_10 ?_
  refine lv_iload_n hx hb dX6_lay_11 rfl (lv_at hl 2 rfl) ?_
  refine lv_iaddN hx hb dX6_lay_12 ?_
  refine lv_iload_n hx hb dX6_lay_13 rfl (lv_at hl 3 rfl) ?_
  refine md_s1 hx hb hK hI hS hP (by omega) dX6_lay_14 (fun H locs hP hS => ?_)
  refine fr_vret hx hb hr hlocks hK hI hS dX6_lay_15 ?_
  exact hP
set_option maxRecDepth 100000 in
set_option maxHeartbeats 4000000 in
theorem m6_breakerOf (l : Launch) (D : va_G) (ct : Nat → ClassId) (ad : Nat → Nat) (Z g : Nat → Int32) (hs : Int64) (F : Nat → Nat → Int32) (q : Nat)   (hq : q < 12) : FMet l yX6_breakerOf cX6_breakerOf 2 (some .int) 0 0 D ct 8 ad [.ref (ad 0), .int (nI q)] (mdc ct ad Z g hs F) (some (.int (nI (brk Z q)))) (mdc ct ad Z g hs F) := by
  refine FMet.of (by decide +kernel) (Nat.le_of_ble_eq_true rfl) ?_
  intro p e s m args below meth c ls hx hb hr hml hown hlocks htg hK hI hP hS hl
  have hl : lv_has ls 2 [(0, .ref (ad 0)), (1, .int (nI q))] := hl
  refine lv_aload_n hx hb dX6_breakerOf_0 rfl (lv_at hl 0 rfl) ?_
  refine md_g1 hx hb hown htg hK hP dX6_breakerOf_1 ?_
  refine lv_bipush (v := nI 27) hx hb dX6_breakerOf_4 (by decide) ?_
  refine lv_iload_n hx hb dX6_breakerOf_6 rfl (lv_at hl 1 rfl) ?_
  refine lv_iaddN hx hb dX6_breakerOf_7 ?_
  refine md_l1 hx hb hK hP (by omega) dX6_breakerOf_8 ?_
  refine lv_iconst (v := nI 1) hx hb dX6_breakerOf_9 (by decide) ?_
  refine lv_icmp_ne (tgt := 17) hx hb dX6_breakerOf_10 (by decide) (fun c10 => ?_) (fun c10 => ?_)
  · refine lv_iload_n hx hb dX6_breakerOf_17 rfl (lv_at hl 1 rfl) ?_
    refine lv_iconst (v := nI 3) hx hb dX6_breakerOf_18 (by decide) ?_
    refine lv_idivN hx hb (by omega) (by omega) (by omega) dX6_breakerOf_19 ?_
    refine fr_iret hx hb hr hlocks hK hI hS rfl dX6_breakerOf_20 ?_ ?_
    · exact congrArg nI (show q / 3 = brk Z q from by simp [brk, c10])
    · exact hP
  · refine lv_iconst (v := nI 3) hx hb dX6_breakerOf_13 (by decide) ?_
    refine lv_goto (tgt := 20) hx hb dX6_breakerOf_14 (by decide) ?_
    refine fr_iret hx hb hr hlocks hK hI hS rfl dX6_breakerOf_20 ?_ ?_
    · exact congrArg nI (show 3 = brk Z q from by simp [brk, c10])
    · exact hP
set_option maxRecDepth 100000 in
set_option maxHeartbeats 4000000 in
theorem m6_wantsLoad (l : Launch) (D : va_G) (ct : Nat → ClassId) (ad : Nat → Nat) (Z g : Nat → Int32) (hs : Int64) (F : Nat → Nat → Int32) (k : Nat) (n : Nat)  (hw : zW Z n) (hkn : k < n) : FMet l yX6_wantsLoad cX6_wantsLoad 5 (some .boolean) 1 22 D ct 8 ad [.ref (ad 0), .int (nI k)] (mdc ct ad Z g hs F) (some (.int (bi (wantB Z k)))) (mdc ct ad Z g hs F) := by
  refine FMet.of (by decide +kernel) (Nat.le_of_ble_eq_true rfl) ?_
  intro p e s m args below meth c ls hx hb hr hml hown hlocks htg hK hI hP hS hl
  have hl : lv_has ls 5 [(0, .ref (ad 0)), (1, .int (nI k))] := hl
  have hn10 := hw.1
  refine lv_aload_n hx hb dX6_wantsLoad_0 rfl (lv_at hl 0 rfl) ?_
  refine md_g1 hx hb hown htg hK hP dX6_wantsLoad_1 ?_
  refine lv_iconst (v := nI 3) hx hb dX6_wantsLoad_4 (by decide) ?_
  refine md_l1 hx hb hK hP (by omega) dX6_wantsLoad_5 ?_
  refine lv_bipush (v := nI 24) hx hb dX6_wantsLoad_6 (by decide) ?_
  refine lv_irem hx hb dX6_wantsLoad_8 (by decide) ?_
  refine lv_istore_n (lv' := [(2, .int ((Z 3) - (Z 3) / (nI 24) * (nI 24))), (0, .ref (ad 0)), (1, .int (nI k))]) hx hb dX6_wantsLoad_9 rfl hl (by decide) rfl (fun ls hl => ?_)
  refine lv_aload_n hx hb dX6_wantsLoad_10 rfl (lv_at hl 1 rfl) ?_
  refine lv_iload_n hx hb dX6_wantsLoad_11 rfl (lv_at hl 2 rfl) ?_
  refine lv_iconst (v := nI 1) hx hb dX6_wantsLoad_12 (by decide) ?_
  refine md_cVr (As := [.int (nI k), .int (nI 1)]) (rest := []) hx hb hown htg hK hI hS hP hml hl.1 (m6_of l D ct ad _ _ _ _ k 1 (by omega) (by omega)) cw_X6_47 rfl rfl ⟨Nat.le_of_ble_eq_true rfl, Nat.le_of_ble_eq_true rfl⟩ (Nat.le_of_ble_eq_true rfl) dX6_wantsLoad_13 ⟨Nat.le_refl _, Nat.le_refl _⟩ (fun H locs hP hS => ?_)
  refine lv_istore_n (lv' := [(3, .int (Z (39 + 8 * k + 1))), (2, .int ((Z 3) - (Z 3) / (nI 24) * (nI 24))), (0, .ref (ad 0)), (1, .int (nI k))]) hx hb dX6_wantsLoad_16 rfl hl (by decide) rfl (fun ls hl => ?_)
  refine lv_aload_n hx hb dX6_wantsLoad_17 rfl (lv_at hl 2 rfl) ?_
  refine lv_iload_n hx hb dX6_wantsLoad_18 rfl (lv_at hl 3 rfl) ?_
  refine lv_iconst (v := nI 2) hx hb dX6_wantsLoad_19 (by decide) ?_
  refine md_cVr (As := [.int (nI k), .int (nI 2)]) (rest := []) hx hb hown htg hK hI hS hP hml hl.1 (m6_of l D ct ad _ _ _ _ k 2 (by omega) (by omega)) cw_X6_47 rfl rfl ⟨Nat.le_of_ble_eq_true rfl, Nat.le_of_ble_eq_true rfl⟩ (Nat.le_of_ble_eq_true rfl) dX6_wantsLoad_20 ⟨Nat.le_refl _, Nat.le_refl _⟩ (fun H locs hP hS => ?_)
  refine lv_istore (lv' := [(4, .int (Z (39 + 8 * k + 2))), (3, .int (Z (39 + 8 * k + 1))), (2, .int ((Z 3) - (Z 3) / (nI 24) * (nI 24))), (0, .ref (ad 0)), (1, .int (nI k))]) hx hb dX6_wantsLoad_23 hl (by decide) rfl (fun ls hl => ?_)
  refine lv_iload_n hx hb dX6_wantsLoad_25 rfl (lv_at hl 1 rfl) ?_
  refine lv_iload hx hb dX6_wantsLoad_26 (lv_at hl 0 rfl) ?_
  refine lv_icmp_gtR (tgt := 50) hx hb dX6_wantsLoad_28 (by decide) (fun c28 => ?_) (fun c28 => ?_)
  · refine lv_iload_n hx hb dX6_wantsLoad_50 rfl (lv_at hl 2 rfl) ?_
    refine lv_iload_n hx hb dX6_wantsLoad_51 rfl (lv_at hl 1 rfl) ?_
    refine lv_icmp_geR (tgt := 61) hx hb dX6_wantsLoad_52 (by decide) (fun c52 => ?_) (fun c52 => ?_)
    · refine lv_iconst (v := nI 1) hx hb dX6_wantsLoad_61 (by decide) ?_
      refine lv_goto (tgt := 66) hx hb dX6_wantsLoad_62 (by decide) ?_
      refine fr_iret hx hb hr hlocks hK hI hS rfl dX6_wantsLoad_66 ?_ ?_
      · exact (congrArg bi (show (wantB Z k) = true from by simp [wantB, hrD, c28, Int32.not_le.mpr c28, c52, Int32.not_lt.mpr c52])).symm
      · exact hP
    · refine lv_iload_n hx hb dX6_wantsLoad_55 rfl (lv_at hl 2 rfl) ?_
      refine lv_iload hx hb dX6_wantsLoad_56 (lv_at hl 0 rfl) ?_
      refine lv_icmp_gtR (tgt := 65) hx hb dX6_wantsLoad_58 (by decide) (fun c58 => ?_) (fun c58 => ?_)
      · refine lv_iconst (v := nI 0) hx hb dX6_wantsLoad_65 (by decide) ?_
        refine fr_iret hx hb hr hlocks hK hI hS rfl dX6_wantsLoad_66 ?_ ?_
        · exact (congrArg bi (show (wantB Z k) = false from by simp [wantB, hrD, c28, Int32.not_le.mpr c28, c52, Int32.not_le.mpr c52, c58, Int32.not_le.mpr c58])).symm
        · exact hP
      · refine lv_iconst (v := nI 1) hx hb dX6_wantsLoad_61 (by decide) ?_
        refine lv_goto (tgt := 66) hx hb dX6_wantsLoad_62 (by decide) ?_
        refine fr_iret hx hb hr hlocks hK hI hS rfl dX6_wantsLoad_66 ?_ ?_
        · exact (congrArg bi (show (wantB Z k) = true from by simp [wantB, hrD, c28, Int32.not_le.mpr c28, c52, Int32.not_le.mpr c52, c58, Int32.not_lt.mpr c58])).symm
        · exact hP
  · refine lv_iload_n hx hb dX6_wantsLoad_31 rfl (lv_at hl 2 rfl) ?_
    refine lv_iload_n hx hb dX6_wantsLoad_32 rfl (lv_at hl 1 rfl) ?_
    refine lv_icmp_ltR (tgt := 46) hx hb dX6_wantsLoad_33 (by decide) (fun c33 => ?_) (fun c33 => ?_)
    · refine lv_iconst (v := nI 0) hx hb dX6_wantsLoad_46 (by decide) ?_
      refine lv_goto (tgt := 66) hx hb dX6_wantsLoad_47 (by decide) ?_
      refine fr_iret hx hb hr hlocks hK hI hS rfl dX6_wantsLoad_66 ?_ ?_
      · exact (congrArg bi (show (wantB Z k) = false from by simp [wantB, hrD, c28, Int32.not_lt.mpr c28, c33, Int32.not_le.mpr c33])).symm
      · exact hP
    · refine lv_iload_n hx hb dX6_wantsLoad_36 rfl (lv_at hl 2 rfl) ?_
      refine lv_iload hx hb dX6_wantsLoad_37 (lv_at hl 0 rfl) ?_
      refine lv_icmp_gtR (tgt := 46) hx hb dX6_wantsLoad_39 (by decide) (fun c39 => ?_) (fun c39 => ?_)
      · refine lv_iconst (v := nI 0) hx hb dX6_wantsLoad_46 (by decide) ?_
        refine lv_goto (tgt := 66) hx hb dX6_wantsLoad_47 (by decide) ?_
        refine fr_iret hx hb hr hlocks hK hI hS rfl dX6_wantsLoad_66 ?_ ?_
        · exact (congrArg bi (show (wantB Z k) = false from by simp [wantB, hrD, c28, Int32.not_lt.mpr c28, c33, Int32.not_lt.mpr c33, c39, Int32.not_le.mpr c39])).symm
        · exact hP
      · refine lv_iconst (v := nI 1) hx hb dX6_wantsLoad_42 (by decide) ?_
        refine lv_goto (tgt := 66) hx hb dX6_wantsLoad_43 (by decide) ?_
        refine fr_iret hx hb hr hlocks hK hI hS rfl dX6_wantsLoad_66 ?_ ?_
        · exact (congrArg bi (show (wantB Z k) = true from by simp [wantB, hrD, c28, Int32.not_lt.mpr c28, c33, Int32.not_lt.mpr c33, c39, Int32.not_lt.mpr c39])).symm
        · exact hP
