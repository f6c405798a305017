/-! THE REFERENCE: reasons, loads, who is shed first -/
def drN (Z : Nat → Int32) (b : Nat) : Nat → Nat
  | 0 => 0
  | i + 1 => drN Z b i + (if drwB Z i b = true then 1 else 0)
/-- a stall's number, or none: 10 -/
def ox (x : Nat) : Int32 := if x = 10 then -1 else nI x
theorem ox_10 {x : Nat} (h : x = 10) : ox x = -1 := if_pos h
theorem ox_n {x : Nat} (h : x ≠ 10) : ox x = nI x := if_neg h
theorem ox_m {x : Nat} (hx : x ≤ 10) (h : ox x = -1) : x = 10 := by
  by_cases h1 : x = 10
  · exact h1
  · rw [ox_n h1] at h
    have h2 := congrArg Int32.toInt h
    rw [nI_toInt (by omega)] at h2
    have h3 : (-1 : Int32).toInt = -1 := by decide
    rw [h3] at h2
    omega
theorem ox_nm {x : Nat} (h : ¬ ox x = -1) : x ≠ 10 := fun q => h (ox_10 q)
def ftn (Z : Nat → Int32) (b : Nat) : Nat → Nat
  | 0 => 10
  | i + 1 => if drwB Z i b = true ∧ (ftn Z b i = 10 ∨ gofB Z i (ftn Z b i) = true) then i else ftn Z b i
theorem ftn_lt (Z : Nat → Int32) (b : Nat) : ∀ i, ftn Z b i = 10 ∨ ftn Z b i < i
  | 0 => Or.inl rfl
  | i + 1 => by
    unfold ftn
    rcases ftn_lt Z b i with h | h <;> split <;> omega
theorem ftn_le (Z : Nat → Int32) (b i : Nat) (h : i ≤ 10) : ftn Z b i ≤ 10 := by
  rcases ftn_lt Z b i with h1 | h1 <;> omega
theorem ftn_drw (Z : Nat → Int32) (b : Nat) : ∀ i, ftn Z b i ≠ 10 → drwB Z (ftn Z b i) b = true
  | 0, h => absurd rfl h
  | i + 1, h => by
    unfold ftn at h ⊢
    split
    · rename_i q; exact q.1
    · rename_i q; rw [if_neg q] at h; exact ftn_drw Z b i h
theorem ftn_none (Z : Nat → Int32) (b : Nat) : ∀ i, i ≤ 10 → ftn Z b i = 10 → ∀ j, j < i → drwB Z j b = false
  | 0, _, _, j, hj => absurd hj (Nat.not_lt_zero _)
  | i + 1, hi, h, j, hj => by
    unfold ftn at h
    by_cases q : drwB Z i b = true ∧ (ftn Z b i = 10 ∨ gofB Z i (ftn Z b i) = true)
    · rw [if_pos q] at h; omega
    · rw [if_neg q] at h
      rcases Nat.lt_succ_iff_lt_or_eq.mp hj with h1 | rfl
      · exact ftn_none Z b i (by omega) h j h1
      · cases h2 : drwB Z j b
        · rfl
        · exact absurd ⟨h2, Or.inl h⟩ q
theorem ftn_no {Z : Nat → Int32} {b i : Nat} (h : drwB Z i b = false) : ftn Z b (i + 1) = ftn Z b i := by
  show (if _ then _ else _) = _
  rw [if_neg (by rw [h]; simp)]
theorem ftn_first {Z : Nat → Int32} {b i : Nat} (h : drwB Z i b = true) (h2 : ftn Z b i = 10) : ftn Z b (i + 1) = i := by
  show (if _ then _ else _) = _
  rw [if_pos ⟨h, Or.inl h2⟩]
theorem ftn_better {Z : Nat → Int32} {b i : Nat} (h : drwB Z i b = true) (h2 : gofB Z i (ftn Z b i) = true) : ftn Z b (i + 1) = i := by
  show (if _ then _ else _) = _
  rw [if_pos ⟨h, Or.inr h2⟩]
theorem ftn_worse {Z : Nat → Int32} {b i : Nat} (h : ftn Z b i ≠ 10) (h2 : gofB Z i (ftn Z b i) = false) : ftn Z b (i + 1) = ftn Z b i := by
  show (if _ then _ else _) = _
  rw [if_neg (by rw [h2]; simp [h])]
theorem carS_0 (Z : Nat → Int32) (b : Nat) : ∀ i, (∀ j, j < i → drwB Z j b = false) → carS Z b i = 0
  | 0, _ => rfl
  | i + 1, h => by
    unfold carS
    rw [carS_0 Z b i (fun j hj => h j (by omega)), h i (by omega)]
    rfl
def shC (Z : Nat → Int32) (b n : Nat) : Bool := decide (Z 1 = nI 1) && decide (Z (7 + 5 * b + 1) = nI 1) && decide (Z (7 + 5 * b + 0) < carS Z b n)
def shS (Z : Nat → Int32) (b n : Nat) : Nat → Int32 := upd (upd Z (39 + 8 * ftn Z b n + 5) (nI 1)) 5 ((upd Z (39 + 8 * ftn Z b n + 5) (nI 1)) 5 + nI 1)
def shL (b n : Nat) : Nat → (Nat → Int32) → Nat → Int32
  | 0, Z => Z
  | f + 1, Z => if shC Z b n = true then shL b n f (shS Z b n) else Z
def shdZ (Z : Nat → Int32) (b n : Nat) : Nat → Int32 := shL b n 10 Z
theorem upd_s {f : Nat → Int32} {k : Nat} {x : Int32} : upd f k x k = x := if_pos rfl
theorem upd_n {f : Nat → Int32} {k j : Nat} {x : Int32} (h : j ≠ k) : upd f k x j = f j := if_neg h
theorem shC_ftn {Z : Nat → Int32} {b n : Nat} (h : zW Z n) (hb : b < 4) (hC : Z (7 + 5 * b + 0) < carS Z b n) : ftn Z b n ≠ 10 := by
  intro q
  rw [carS_0 Z b n (ftn_none Z b n h.1 q)] at hC
  exact Int32.not_lt.mpr (h.2.2.2 b hb) hC
theorem drN_eq {Z Y : Nat → Int32} {b : Nat} : ∀ i, (∀ j, j < i → drwB Y j b = drwB Z j b) → drN Y b i = drN Z b i
  | 0, _ => rfl
  | i + 1, h => by unfold drN; rw [drN_eq i (fun j hj => h j (by omega)), h i (by omega)]
theorem drN_lt {Z Y : Nat → Int32} {b k : Nat} : ∀ i, k < i → (∀ j, j < i → j ≠ k → drwB Y j b = drwB Z j b) → drwB Z k b = true → drwB Y k b = false → drN Y b i < drN Z b i
  | 0, hk, _, _, _ => absurd hk (Nat.not_lt_zero _)
  | i + 1, hk, h, h1, h2 => by
    unfold drN
    by_cases e : k = i
    · subst e
      rw [h1, h2, drN_eq k (fun j hj => h j (by omega) (by omega))]
      simp
    · have := drN_lt i (by omega) (fun j hj hne => h j (by omega) hne) h1 h2
      rw [h i (by omega) (Ne.symm e)]
      omega
/-- what two rows that differ in a stall's shedding alone say alike -/
theorem brk_congr {Z Y : Nat → Int32} {q : Nat} (hY : Y (27 + q) = Z (27 + q)) : brk Y q = brk Z q := by unfold brk; rw [hY]
theorem wantB_congr {Z Y : Nat → Int32} {k : Nat} (h3 : Y 3 = Z 3) (h1 : Y (39 + 8 * k + 1) = Z (39 + 8 * k + 1)) (h2 : Y (39 + 8 * k + 2) = Z (39 + 8 * k + 2)) : wantB Y k = wantB Z k := by unfold wantB hrD; rw [h3, h1, h2]
theorem skt_congr {Z Y : Nat → Int32} {k : Nat} (h : Y (39 + 8 * k + 4) = Z (39 + 8 * k + 4)) : skt Y k = skt Z k := by unfold skt; rw [h]
theorem onB_congr {Z Y : Nat → Int32} {k b : Nat} (h : Y (39 + 8 * k + 4) = Z (39 + 8 * k + 4)) (hk : ∀ q, q < 12 → Y (27 + q) = Z (27 + q)) (hq : ¬ Z (39 + 8 * k + 4) = -1 → skt Z k < 12) : onB Y k b = onB Z k b := by
  unfold onB
  rw [h, skt_congr h]
  by_cases e : Z (39 + 8 * k + 4) = -1
  · rw [if_pos e, if_pos e]
  · rw [if_neg e, if_neg e, brk_congr (hk _ (hq e))]
theorem rsn_congr {Z Y : Nat → Int32} {k : Nat} (h3 : Y 3 = Z 3) (hs : ∀ w, w < 6 → Y (39 + 8 * k + w) = Z (39 + 8 * k + w)) (hk : ∀ q, q < 12 → Y (27 + q) = Z (27 + q)) (hb : ∀ b, b < 4 → Y (7 + 5 * b + 1) = Z (7 + 5 * b + 1)) (hq : ¬ Z (39 + 8 * k + 4) = -1 → skt Z k < 12) : rsn Y k = rsn Z k := by
  unfold rsn
  rw [wantB_congr h3 (hs 1 (by omega)) (hs 2 (by omega)), hs 4 (by omega), hs 5 (by omega), skt_congr (hs 4 (by omega))]
  by_cases e : Z (39 + 8 * k + 4) = -1
  · rw [if_pos e, if_pos e]
  · rw [if_neg e, if_neg e, brk_congr (hk _ (hq e)), hb _ (brk_lt (hq e))]
theorem drwB_congr {Z Y : Nat → Int32} {k b : Nat} (h3 : Y 3 = Z 3) (hs : ∀ w, w < 6 → Y (39 + 8 * k + w) = Z (39 + 8 * k + w)) (hk : ∀ q, q < 12 → Y (27 + q) = Z (27 + q)) (hb : ∀ b, b < 4 → Y (7 + 5 * b + 1) = Z (7 + 5 * b + 1)) (hq : ¬ Z (39 + 8 * k + 4) = -1 → skt Z k < 12) : drwB Y k b = drwB Z k b := by
  unfold drwB
  rw [onB_congr (hs 4 (by omega)) hk hq, rsn_congr h3 hs hk hb hq]
theorem shS_at {Z : Nat → Int32} {b n j : Nat} (h5 : j ≠ 5) (hj : j ≠ 39 + 8 * ftn Z b n + 5) : shS Z b n j = Z j := by
  unfold shS
  rw [upd_n h5, upd_n hj]
theorem shS_zW {Z : Nat → Int32} {b n : Nat} (h : zW Z n) : zW (shS Z b n) n :=
  zW_upd (zW_upd h (by omega) (fun _ _ => by omega) (fun _ _ => by omega)) (by omega) (fun _ _ => by omega) (fun _ _ => by omega)
theorem rsn_shed {Z : Nat → Int32} {k : Nat} (h : Z (39 + 8 * k + 5) = nI 1) : rsn Z k ≠ 0 := by
  unfold rsn
  rw [if_pos h]
  repeat' split
  all_goals omega
theorem shS_dr {Z : Nat → Int32} {b n j : Nat} (h : zW Z n) (hj : j < n) (hne : j ≠ ftn Z b n) (c : Nat) : drwB (shS Z b n) j c = drwB Z j c :=
  drwB_congr (shS_at (by omega) (by omega)) (fun w hw => shS_at (by omega) (by omega)) (fun q hq => shS_at (by omega) (by omega)) (fun b hb => shS_at (by omega) (by omega)) (skt_lt h hj)
theorem shS_dr0 {Z : Nat → Int32} {b n : Nat} (c : Nat) : drwB (shS Z b n) (ftn Z b n) c = false := by
  have h : rsn (shS Z b n) (ftn Z b n) ≠ 0 := rsn_shed (by unfold shS; rw [upd_n (by omega), upd_s])
  unfold drwB
  simp [h]
theorem drN_sh {Z : Nat → Int32} {b n : Nat} (h : zW Z n) (h1 : ftn Z b n ≠ 10) : drN (shS Z b n) b n < drN Z b n := by
  have hl : ftn Z b n < n := by rcases ftn_lt Z b n with q | q; exact absurd q h1; exact q
  exact drN_lt n hl (fun j hj hne => shS_dr h hj hne b) (ftn_drw Z b n h1) (shS_dr0 b)
theorem drN_le (Z : Nat → Int32) (b : Nat) : ∀ i, drN Z b i ≤ i
  | 0 => Nat.le_refl 0
  | i + 1 => by unfold drN; have := drN_le Z b i; split <;> omega
theorem shL_zW {b n : Nat} : ∀ f {Z : Nat → Int32}, zW Z n → zW (shL b n f Z) n
  | 0, _, h => h
  | f + 1, Z, h => by
    unfold shL
    split
    · exact shL_zW f (shS_zW h)
    · exact h
theorem shdZ_zW {Z : Nat → Int32} {b n : Nat} (h : zW Z n) : zW (shdZ Z b n) n := shL_zW 10 h
set_option maxRecDepth 100000 in
set_option maxHeartbeats 4000000 in
theorem m6_reason (l : Launch) (D : va_G) (ct : Nat → ClassId) (ad : Nat → Nat) (Z g : Nat → Int32) (hs : Int64) (F : Nat → Nat → Int32) (k : Nat) (n : Nat)  (hw : zW Z n) (hkn : k < n) : FMet l yX6_reason cX6_reason 2 (some .int) 2 46 D ct 8 ad [.ref (ad 0), .int (nI k)] (mdc ct ad Z g hs F) (some (.int (nI (rsn Z k)))) (mdc ct ad Z g hs F) := by
  refine FMet.of (by decide +kernel) (Nat.le_of_ble_eq_true rfl) ?_
  intro p e s m args below meth c ls hx hb hr hml hown hlocks htg hK hI hP hS hl
  have hl : lv_has ls 2 [(0, .ref (ad 0)), (1, .int (nI k))] := hl
  have hn10 := hw.1
  refine lv_aload_n hx hb dX6_reason_0 rfl (lv_at hl 0 rfl) ?_
  refine lv_iload_n hx hb dX6_reason_1 rfl (lv_at hl 1 rfl) ?_
  refine md_cVr (As := [.int (nI k)]) (rest := []) hx hb hown htg hK hI hS hP hml hl.1 (m6_wantsLoad l D ct ad _ _ _ _ k n hw (by omega)) cw_X6_51 rfl rfl ⟨Nat.le_of_ble_eq_true rfl, Nat.le_of_ble_eq_true rfl⟩ (Nat.le_of_ble_eq_true rfl) dX6_reason_2 ⟨Nat.le_refl _, Nat.le_refl _⟩ (fun H locs hP hS => ?_)
  refine lv_ifneB (tgt := 10) hx hb dX6_reason_5 (by decide) (fun c5 => ?_) (fun c5 => ?_)
  · refine lv_aload_n hx hb dX6_reason_10 rfl (lv_at hl 0 rfl) ?_
    refine lv_iload_n hx hb dX6_reason_11 rfl (lv_at hl 1 rfl) ?_
    refine lv_iconst (v := nI 4) hx hb dX6_reason_12 (by decide) ?_
    refine md_cVr (As := [.int (nI k), .int (nI 4)]) (rest := []) hx hb hown htg hK hI hS hP hml hl.1 (m6_of l D ct ad _ _ _ _ k 4 (by omega) (by omega)) cw_X6_47 rfl rfl ⟨Nat.le_of_ble_eq_true rfl, Nat.le_of_ble_eq_true rfl⟩ (Nat.le_of_ble_eq_true rfl) dX6_reason_13 ⟨Nat.le_refl _, Nat.le_refl _⟩ (fun H locs hP hS => ?_)
    refine lv_iconst (v := -1) hx hb dX6_reason_16 (by decide) ?_
    refine lv_icmp_ne (tgt := 22) hx hb dX6_reason_17 (by decide) (fun c17 => ?_) (fun c17 => ?_)
    · have hqk := skt_lt hw hkn c17
      have hbqk := brk_lt (Z := Z) hqk
      refine lv_aload_n hx hb dX6_reason_22 rfl (lv_at hl 0 rfl) ?_
      refine lv_aload_n hx hb dX6_reason_23 rfl (lv_at hl 0 rfl) ?_
      refine lv_aload_n hx hb dX6_reason_24 rfl (lv_at hl 0 rfl) ?_
      refine lv_iload_n hx hb dX6_reason_25 rfl (lv_at hl 1 rfl) ?_
      refine lv_iconst (v := nI 4) hx hb dX6_reason_26 (by decide) ?_
      refine md_cVr (As := [.int (nI k), .int (nI 4)]) (rest := [.ref (ad 0), .ref (ad 0)]) hx hb hown htg hK hI hS hP hml hl.1 (m6_of l D ct ad _ _ _ _ k 4 (by omega) (by omega)) cw_X6_47 rfl rfl ⟨Nat.le_of_ble_eq_true rfl, Nat.le_of_ble_eq_true rfl⟩ (Nat.le_of_ble_eq_true rfl) dX6_reason_27 ⟨Nat.le_refl _, Nat.le_refl _⟩ (fun H locs hP hS => ?_)
      refine lv_teq (skt_eq hw hkn c17) ?_
      refine md_cVr (As := [.int (nI (skt Z k))]) (rest := [.ref (ad 0)]) hx hb hown htg hK hI hS hP hml hl.1 (m6_breakerOf l D ct ad _ _ _ _ (skt Z k) (by omega)) cw_X6_55 rfl rfl ⟨Nat.le_of_ble_eq_true rfl, Nat.le_of_ble_eq_true rfl⟩ (Nat.le_of_ble_eq_true rfl) dX6_reason_30 ⟨Nat.le_refl _, Nat.le_refl _⟩ (fun H locs hP hS => ?_)
      refine lv_iconst (v := nI 1) hx hb dX6_reason_33 (by decide) ?_
      refine md_cVr (As := [.int (nI (brk Z (skt Z k))), .int (nI 1)]) (rest := []) hx hb hown htg hK hI hS hP hml hl.1 (m6_by l D ct ad _ _ _ _ (brk Z (skt Z k)) 1 (by omega) (by omega)) cw_X6_59 rfl rfl ⟨Nat.le_of_ble_eq_true rfl, Nat.le_of_ble_eq_true rfl⟩ (Nat.le_of_ble_eq_true rfl) dX6_reason_34 ⟨Nat.le_refl _, Nat.le_refl _⟩ (fun H locs hP hS => ?_)
      refine lv_if_ne (tgt := 44) hx hb dX6_reason_37 (by decide) (fun c37 => ?_) (fun c37 => ?_)
      · refine lv_aload_n hx hb dX6_reason_44 rfl (lv_at hl 0 rfl) ?_
        refine lv_iload_n hx hb dX6_reason_45 rfl (lv_at hl 1 rfl) ?_
        refine lv_iconst (v := nI 5) hx hb dX6_reason_46 (by decide) ?_
        refine md_cVr (As := [.int (nI k), .int (nI 5)]) (rest := []) hx hb hown htg hK hI hS hP hml hl.1 (m6_of l D ct ad _ _ _ _ k 5 (by omega) (by omega)) cw_X6_47 rfl rfl ⟨Nat.le_of_ble_eq_true rfl, Nat.le_of_ble_eq_true rfl⟩ (Nat.le_of_ble_eq_true rfl) dX6_reason_47 ⟨Nat.le_refl _, Nat.le_refl _⟩ (fun H locs hP hS => ?_)
        refine lv_iconst (v := nI 1) hx hb dX6_reason_50 (by decide) ?_
        refine lv_icmp_ne (tgt := 58) hx hb dX6_reason_51 (by decide) (fun c51 => ?_) (fun c51 => ?_)
        · refine lv_iconst (v := nI 0) hx hb dX6_reason_58 (by decide) ?_
          refine fr_iret hx hb hr hlocks hK hI hS rfl dX6_reason_59 ?_ ?_
          · exact congrArg nI (show 0 = rsn Z k from by first | (exfalso; omega) | (simp only [rsn, c5, c17, c37, c51, decide_true, decide_false, Bool.and_true, Bool.true_and, Bool.and_false, Bool.false_and, Bool.or_true, Bool.true_or, Bool.or_false, Bool.false_or, Bool.and_self, Bool.or_self, if_true, if_false, eq_self, Bool.false_eq_true, Bool.true_eq_false, reduceCtorEq, nI_0, not_true_eq_false, not_false_eq_true, and_true, true_and, and_false, false_and, or_true, true_or, or_false, false_or, and_self, or_self, Int32.add_zero]; done) | (simp [rsn, c5, c17, c37, c51, nI_0]; done) | (simp only [rsn, c5, c17, c37, c51, decide_true, decide_false, Bool.and_true, Bool.true_and, Bool.and_false, Bool.false_and, Bool.or_true, Bool.true_or, Bool.or_false, Bool.false_or, Bool.and_self, Bool.or_self, if_true, if_false, eq_self, Bool.false_eq_true, Bool.true_eq_false, reduceCtorEq, nI_0, not_true_eq_false, not_false_eq_true, and_true, true_and, and_false, false_and, or_true, true_or, or_false, false_or, and_self, or_self, Int32.add_zero]; omega) | (simp [rsn, c5, c17, c37, c51, nI_0]; omega))
          · exact hP
        · refine lv_iconst (v := nI 4) hx hb dX6_reason_54 (by decide) ?_
          refine lv_goto (tgt := 59) hx hb dX6_reason_55 (by decide) ?_
          refine fr_iret hx hb hr hlocks hK hI hS rfl dX6_reason_59 ?_ ?_
          · exact congrArg nI (show 4 = rsn Z k from by first | (exfalso; omega) | (simp only [rsn, c5, c17, c37, c51, decide_true, decide_false, Bool.and_true, Bool.true_and, Bool.and_false, Bool.false_and, Bool.or_true, Bool.true_or, Bool.or_false, Bool.false_or, Bool.and_self, Bool.or_self, if_true, if_false, eq_self, Bool.false_eq_true, Bool.true_eq_false, reduceCtorEq, nI_0, not_true_eq_false, not_false_eq_true, and_true, true_and, and_false, false_and, or_true, true_or, or_false, false_or, and_self, or_self, Int32.add_zero]; done) | (simp [rsn, c5, c17, c37, c51, nI_0]; done) | (simp only [rsn, c5, c17, c37, c51, decide_true, decide_false, Bool.and_true, Bool.true_and, Bool.and_false, Bool.false_and, Bool.or_true, Bool.true_or, Bool.or_false, Bool.false_or, Bool.and_self, Bool.or_self, if_true, if_false, eq_self, Bool.false_eq_true, Bool.true_eq_false, reduceCtorEq, nI_0, not_true_eq_false, not_false_eq_true, and_true, true_and, and_false, false_and, or_true, true_or, or_false, false_or, and_self, or_self, Int32.add_zero]; omega) | (simp [rsn, c5, c17, c37, c51, nI_0]; omega))
          · exact hP
      · refine lv_iconst (v := nI 3) hx hb dX6_reason_40 (by decide) ?_
        refine lv_goto (tgt := 59) hx hb dX6_reason_41 (by decide) ?_
        refine fr_iret hx hb hr hlocks hK hI hS rfl dX6_reason_59 ?_ ?_
        · exact congrArg nI (show 3 = rsn Z k from by first | (exfalso; omega) | (simp only [rsn, c5, c17, c37, decide_true, decide_false, Bool.and_true, Bool.true_and, Bool.and_false, Bool.false_and, Bool.or_true, Bool.true_or, Bool.or_false, Bool.false_or, Bool.and_self, Bool.or_self, if_true, if_false, eq_self, Bool.false_eq_true, Bool.true_eq_false, reduceCtorEq, nI_0, not_true_eq_false, not_false_eq_true, and_true, true_and, and_false, false_and, or_true, true_or, or_false, false_or, and_self, or_self, Int32.add_zero]; done) | (simp [rsn, c5, c17, c37, nI_0]; done) | (simp only [rsn, c5, c17, c37, decide_true, decide_false, Bool.and_true, Bool.true_and, Bool.and_false, Bool.false_and, Bool.or_true, Bool.true_or, Bool.or_false, Bool.false_or, Bool.and_self, Bool.or_self, if_true, if_false, eq_self, Bool.false_eq_true, Bool.true_eq_false, reduceCtorEq, nI_0, not_true_eq_false, not_false_eq_true, and_true, true_and, and_false, false_and, or_true, true_or, or_false, false_or, and_self, or_self, Int32.add_zero]; omega) | (simp [rsn, c5, c17, c37, nI_0]; omega))
        · exact hP
    · refine lv_iconst (v := nI 2) hx hb dX6_reason_20 (by decide) ?_
      refine fr_iret hx hb hr hlocks hK hI hS rfl dX6_reason_21 ?_ ?_
      · exact congrArg nI (show 2 = rsn Z k from by first | (exfalso; omega) | (simp only [rsn, c5, c17, decide_true, decide_false, Bool.and_true, Bool.true_and, Bool.and_false, Bool.false_and, Bool.or_true, Bool.true_or, Bool.or_false, Bool.false_or, Bool.and_self, Bool.or_self, if_true, if_false, eq_self, Bool.false_eq_true, Bool.true_eq_false, reduceCtorEq, nI_0, not_true_eq_false, not_false_eq_true, and_true, true_and, and_false, false_and, or_true, true_or, or_false, false_or, and_self, or_self, Int32.add_zero]; done) | (simp [rsn, c5, c17, nI_0]; done) | (simp only [rsn, c5, c17, decide_true, decide_false, Bool.and_true, Bool.true_and, Bool.and_false, Bool.false_and, Bool.or_true, Bool.true_or, Bool.or_false, Bool.false_or, Bool.and_self, Bool.or_self, if_true, if_false, eq_self, Bool.false_eq_true, Bool.true_eq_false, reduceCtorEq, nI_0, not_true_eq_false, not_false_eq_true, and_true, true_and, and_false, false_and, or_true, true_or, or_false, false_or, and_self, or_self, Int32.add_zero]; omega) | (simp [rsn, c5, c17, nI_0]; omega))
      · exact hP
  · refine lv_iconst (v := nI 1) hx hb dX6_reason_8 (by decide) ?_
    refine fr_iret hx hb hr hlocks hK hI hS rfl dX6_reason_9 ?_ ?_
    · exact congrArg nI (show 1 = rsn Z k from by first | (exfalso; omega) | (simp only [rsn, c5, decide_true, decide_false, Bool.and_true, Bool.true_and, Bool.and_false, Bool.false_and, Bool.or_true, Bool.true_or, Bool.or_false, Bool.false_or, Bool.and_self, Bool.or_self, if_true, if_false, eq_self, Bool.false_eq_true, Bool.true_eq_false, reduceCtorEq, nI_0, not_true_eq_false, not_false_eq_true, and_true, true_and, and_false, false_and, or_true, true_or, or_false, false_or, and_self, or_self, Int32.add_zero]; done) | (simp [rsn, c5, nI_0]; done) | (simp only [rsn, c5, decide_true, decide_false, Bool.and_true, Bool.true_and, Bool.and_false, Bool.false_and, Bool.or_true, Bool.true_or, Bool.or_false, Bool.false_or, Bool.and_self, Bool.or_self, if_true, if_false, eq_self, Bool.false_eq_true, Bool.true_eq_false, reduceCtorEq, nI_0, not_true_eq_false, not_false_eq_true, and_true, true_and, and_false, false_and, or_true, true_or, or_false, false_or, and_self, or_self, Int32.add_zero]; omega) | (simp [rsn, c5, nI_0]; omega))
    · exact hP
set_option maxRecDepth 100000 in
set_option maxHeartbeats 4000000 in
theorem m6_isOn (l : Launch) (D : va_G) (ct : Nat → ClassId) (ad : Nat → Nat) (Z g : Nat → Int32) (hs : Int64) (F : Nat → Nat → Int32) (k : Nat) (b : Nat) (n : Nat)  (hw : zW Z n) (hkn : k < n) (hb4 : b < 4) : FMet l yX6_isOn cX6_isOn 3 (some .boolean) 1 22 D ct 8 ad [.ref (ad 0), .int (nI k), .int (nI b)] (mdc ct ad Z g hs F) (some (.int (bi (onB Z k b)))) (mdc ct ad Z g hs F) := by
  refine FMet.of (by decide +kernel) (Nat.le_of_ble_eq_true rfl) ?_
  intro p e s m args below meth c ls hx hb hr hml hown hlocks htg hK hI hP hS hl
  have hl : lv_has ls 3 [(0, .ref (ad 0)), (1, .int (nI k)), (2, .int (nI b))] := hl
  have hn10 := hw.1
  refine lv_aload_n hx hb dX6_isOn_0 rfl (lv_at hl 0 rfl) ?_
  refine lv_iload_n hx hb dX6_isOn_1 rfl (lv_at hl 1 rfl) ?_
  refine lv_iconst (v := nI 4) hx hb dX6_isOn_2 (by decide) ?_
  refine md_cVr (As := [.int (nI k), .int (nI 4)]) (rest := []) hx hb hown htg hK hI hS hP hml hl.1 (m6_of l D ct ad _ _ _ _ k 4 (by omega) (by omega)) cw_X6_47 rfl rfl ⟨Nat.le_of_ble_eq_true rfl, Nat.le_of_ble_eq_true rfl⟩ (Nat.le_of_ble_eq_true rfl) dX6_isOn_3 ⟨Nat.le_refl _, Nat.le_refl _⟩ (fun H locs hP hS => ?_)
  refine lv_iconst (v := -1) hx hb dX6_isOn_6 (by decide) ?_
  refine lv_icmp_eq (tgt := 28) hx hb dX6_isOn_7 (by decide) (fun c7 => ?_) (fun c7 => ?_)
  · refine lv_iconst (v := nI 0) hx hb dX6_isOn_28 (by decide) ?_
    refine fr_iret hx hb hr hlocks hK hI hS rfl dX6_isOn_29 ?_ ?_
    · exact (congrArg bi (show (onB Z k b) = false from by first | (exfalso; omega) | (simp only [onB, c7, decide_true, decide_false, Bool.and_true, Bool.true_and, Bool.and_false, Bool.false_and, Bool.or_true, Bool.true_or, Bool.or_false, Bool.false_or, Bool.and_self, Bool.or_self, if_true, if_false, eq_self, Bool.false_eq_true, Bool.true_eq_false, reduceCtorEq, nI_0, not_true_eq_false, not_false_eq_true, and_true, true_and, and_false, false_and, or_true, true_or, or_false, false_or, and_self, or_self, Int32.add_zero]; done) | (simp [onB, c7, nI_0]; done) | (simp only [onB, c7, decide_true, decide_false, Bool.and_true, Bool.true_and, Bool.and_false, Bool.false_and, Bool.or_true, Bool.true_or, Bool.or_false, Bool.false_or, Bool.and_self, Bool.or_self, if_true, if_false, eq_self, Bool.false_eq_true, Bool.true_eq_false, reduceCtorEq, nI_0, not_true_eq_false, not_false_eq_true, and_true, true_and, and_false, false_and, or_true, true_or, or_false, false_or, and_self, or_self, Int32.add_zero]; omega) | (simp [onB, c7, nI_0]; omega))).symm
    · exact hP
  · have hqk := skt_lt hw hkn c7
    have hbqk := brk_lt (Z := Z) hqk
    refine lv_aload_n hx hb dX6_isOn_10 rfl (lv_at hl 0 rfl) ?_
    refine lv_aload_n hx hb dX6_isOn_11 rfl (lv_at hl 0 rfl) ?_
    refine lv_iload_n hx hb dX6_isOn_12 rfl (lv_at hl 1 rfl) ?_
    refine lv_iconst (v := nI 4) hx hb dX6_isOn_13 (by decide) ?_
    refine md_cVr (As := [.int (nI k), .int (nI 4)]) (rest := [.ref (ad 0)]) hx hb hown htg hK hI hS hP hml hl.1 (m6_of l D ct ad _ _ _ _ k 4 (by omega) (by omega)) cw_X6_47 rfl rfl ⟨Nat.le_of_ble_eq_true rfl, Nat.le_of_ble_eq_true rfl⟩ (Nat.le_of_ble_eq_true rfl) dX6_isOn_14 ⟨Nat.le_refl _, Nat.le_refl _⟩ (fun H locs hP hS => ?_)
    refine lv_teq (skt_eq hw hkn c7) ?_
    refine md_cVr (As := [.int (nI (skt Z k))]) (rest := []) hx hb hown htg hK hI hS hP hml hl.1 (m6_breakerOf l D ct ad _ _ _ _ (skt Z k) (by omega)) cw_X6_55 rfl rfl ⟨Nat.le_of_ble_eq_true rfl, Nat.le_of_ble_eq_true rfl⟩ (Nat.le_of_ble_eq_true rfl) dX6_isOn_17 ⟨Nat.le_refl _, Nat.le_refl _⟩ (fun H locs hP hS => ?_)
    refine lv_iload_n hx hb dX6_isOn_20 rfl (lv_at hl 2 rfl) ?_
    refine lv_icmp_neN (tgt := 28) hx hb (by omega) (by omega) dX6_isOn_21 (by decide) (fun c21 => ?_) (fun c21 => ?_)
    · refine lv_iconst (v := nI 0) hx hb dX6_isOn_28 (by decide) ?_
      refine fr_iret hx hb hr hlocks hK hI hS rfl dX6_isOn_29 ?_ ?_
      · exact (congrArg bi (show (onB Z k b) = false from by first | (exfalso; omega) | (simp only [onB, c7, c21, decide_true, decide_false, Bool.and_true, Bool.true_and, Bool.and_false, Bool.false_and, Bool.or_true, Bool.true_or, Bool.or_false, Bool.false_or, Bool.and_self, Bool.or_self, if_true, if_false, eq_self, Bool.false_eq_true, Bool.true_eq_false, reduceCtorEq, nI_0, not_true_eq_false, not_false_eq_true, and_true, true_and, and_false, false_and, or_true, true_or, or_false, false_or, and_self, or_self, Int32.add_zero]; done) | (simp [onB, c7, c21, nI_0]; done) | (simp only [onB, c7, c21, decide_true, decide_false, Bool.and_true, Bool.true_and, Bool.and_false, Bool.false_and, Bool.or_true, Bool.true_or, Bool.or_false, Bool.false_or, Bool.and_self, Bool.or_self, if_true, if_false, eq_self, Bool.false_eq_true, Bool.true_eq_false, reduceCtorEq, nI_0, not_true_eq_false, not_false_eq_true, and_true, true_and, and_false, false_and, or_true, true_or, or_false, false_or, and_self, or_self, Int32.add_zero]; omega) | (simp [onB, c7, c21, nI_0]; omega))).symm
      · exact hP
    · refine lv_iconst (v := nI 1) hx hb dX6_isOn_24 (by decide) ?_
      refine lv_goto (tgt := 29) hx hb dX6_isOn_25 (by decide) ?_
      refine fr_iret hx hb hr hlocks hK hI hS rfl dX6_isOn_29 ?_ ?_
      · exact (congrArg bi (show (onB Z k b) = true from by first | (exfalso; omega) | (simp only [onB, c7, c21, decide_true, decide_false, Bool.and_true, Bool.true_and, Bool.and_false, Bool.false_and, Bool.or_true, Bool.true_or, Bool.or_false, Bool.false_or, Bool.and_self, Bool.or_self, if_true, if_false, eq_self, Bool.false_eq_true, Bool.true_eq_false, reduceCtorEq, nI_0, not_true_eq_false, not_false_eq_true, and_true, true_and, and_false, false_and, or_true, true_or, or_false, false_or, and_self, or_self, Int32.add_zero]; done) | (simp [onB, c7, c21, nI_0]; done) | (simp only [onB, c7, c21, decide_true, decide_false, Bool.and_true, Bool.true_and, Bool.and_false, Bool.false_and, Bool.or_true, Bool.true_or, Bool.or_false, Bool.false_or, Bool.and_self, Bool.or_self, if_true, if_false, eq_self, Bool.false_eq_true, Bool.true_eq_false, reduceCtorEq, nI_0, not_true_eq_false, not_false_eq_true, and_true, true_and, and_false, false_and, or_true, true_or, or_false, false_or, and_self, or_self, Int32.add_zero]; omega) | (simp [onB, c7, c21, nI_0]; omega))).symm
      · exact hP
set_option maxRecDepth 100000 in
set_option maxHeartbeats 4000000 in
theorem m6_carried (l : Launch) (D : va_G) (ct : Nat → ClassId) (ad : Nat → Nat) (Z g : Nat → Int32) (hs : Int64) (F : Nat → Nat → Int32) (b : Nat) (n : Nat)  (hw : zW Z n) (hb4 : b < 4) : FMet l yX6_carried cX6_carried 4 (some .int) 3 67 D ct 8 ad [.ref (ad 0), .int (nI b)] (mdc ct ad Z g hs F) (some (.int (carS Z b n))) (mdc ct ad Z g hs F) := by
  refine FMet.of (by decide +kernel) (Nat.le_of_ble_eq_true rfl) ?_
  intro p e s m args below meth c ls hx hb hr hml hown hlocks htg hK hI hP hS hl
  have hl : lv_has ls 4 [(0, .ref (ad 0)), (1, .int (nI b))] := hl
  have hn10 := hw.1
  refine lv_iconst (v := nI 0) hx hb dX6_carried_0 (by decide) ?_
  refine lv_istore_n (lv' := [(2, .int (nI 0)), (0, .ref (ad 0)), (1, .int (nI b))]) hx hb dX6_carried_1 rfl hl (by decide) rfl (fun ls hl => ?_)
  refine lv_iconst (v := nI 0) hx hb dX6_carried_2 (by decide) ?_
  refine lv_istore_n (lv' := [(3, .int (nI 0)), (2, .int (nI 0)), (0, .ref (ad 0)), (1, .int (nI b))]) hx hb dX6_carried_3 rfl hl (by decide) rfl (fun ls hl => ?_)
  have lp4 : ∀ (fu4 : Nat) (i : Nat), i ≤ n → n - i < fu4 → ∀ (H : Heap) (locs : List Loc), fP D 8 ad (mdc ct ad Z g hs F) H → va_S (fA 8 ad) s.heap H locs → ∀ (ls : Array Slot), lv_has ls 4 [(3, .int (nI i)), (2, .int (carS Z b i)), (0, .ref (ad 0)), (1, .int (nI b))] → W p l e ({ frames := 3, cells := 0, slots := 0, locals := 67 }) s m args below meth c H locs 0 0 (MQ below (fQ D ct 8 ad (some (.int (carS Z b n))) (mdc ct ad Z g hs F)) args s 0 0 (fA 8 ad)) (F0 m 4 ls []) := by
    intro fu4
    induction fu4 with
    | zero => intro i hi hfu4; exact absurd hfu4 (Nat.not_lt_zero _)
    | succ fu4 ih4 =>
      intro i hi hfu4 H locs hP hS ls hl
      refine lv_iload_n hx hb dX6_carried_4 rfl (lv_at hl 0 rfl) ?_
      refine lv_aload_n hx hb dX6_carried_5 rfl (lv_at hl 2 rfl) ?_
      refine md_g1 hx hb hown htg hK hP dX6_carried_6 ?_
      refine lv_iconst (v := nI 4) hx hb dX6_carried_9 (by decide) ?_
      refine md_l1 hx hb hK hP (by omega) dX6_carried_10 ?_
      refine lv_teq (hw).2.1 ?_
      refine lv_icmp_geN (tgt := 50) hx hb (by omega) (by omega) dX6_carried_11 (by decide) (fun c11 => ?_) (fun c11 => ?_)
      · refine lv_iload_n hx hb dX6_carried_50 rfl (lv_at hl 1 rfl) ?_
        refine fr_iret hx hb hr hlocks hK hI hS rfl dX6_carried_51 ?_ ?_
        · rw [show i = n from by omega]
        · exact hP
      · refine lv_iload_n hx hb dX6_carried_14 rfl (lv_at hl 1 rfl) ?_
        refine lv_aload_n hx hb dX6_carried_15 rfl (lv_at hl 2 rfl) ?_
        refine lv_iload_n hx hb dX6_carried_16 rfl (lv_at hl 0 rfl) ?_
        refine lv_iload_n hx hb dX6_carried_17 rfl (lv_at hl 3 rfl) ?_
        refine md_cVr (As := [.int (nI i), .int (nI b)]) (rest := [.int (carS Z b i)]) hx hb hown htg hK hI hS hP hml hl.1 (m6_isOn l D ct ad _ _ _ _ i b n hw (by omega) (by omega)) cw_X6_62 rfl rfl ⟨Nat.le_of_ble_eq_true rfl, Nat.le_of_ble_eq_true rfl⟩ (Nat.le_of_ble_eq_true rfl) dX6_carried_18 ⟨Nat.le_refl _, Nat.le_refl _⟩ (fun H locs hP hS => ?_)
        refine lv_ifeqB (tgt := 41) hx hb dX6_carried_21 (by decide) (fun c21 => ?_) (fun c21 => ?_)
        · refine lv_iconst (v := nI 0) hx hb dX6_carried_41 (by decide) ?_
          refine lv_iadd hx hb dX6_carried_42 ?_
          refine lv_istore_n (lv' := [(2, .int ((carS Z b i) + (nI 0))), (3, .int (nI i)), (0, .ref (ad 0)), (1, .int (nI b))]) hx hb dX6_carried_43 rfl hl (by decide) rfl (fun ls hl => ?_)
          refine lv_iinc (v := nI (i + 1)) (lv' := [(3, .int (nI (i + 1))), (2, .int ((carS Z b i) + (nI 0))), (0, .ref (ad 0)), (1, .int (nI b))]) hx hb dX6_carried_44 hl (k := 1) rfl (nI_add i 1) (by decide) rfl (fun ls hl => ?_)
          refine lv_goto (tgt := 4) hx hb dX6_carried_47 (by decide) ?_
          have hl := lv_sub (l' := [(3, .int (nI (i + 1))), (2, .int ((carS Z b i) + (nI 0))), (0, .ref (ad 0)), (1, .int (nI b))]) hl [0, 1, 2, 3] rfl
          have e2 : Value.int ((carS Z b i) + (nI 0)) = Value.int (carS Z b (i + 1)) := by first | (exfalso; omega) | (simp only [carS, drwB, c11, Nat.not_le.mpr c11, c21, decide_true, decide_false, Bool.and_true, Bool.true_and, Bool.and_false, Bool.false_and, Bool.or_true, Bool.true_or, Bool.or_false, Bool.false_or, Bool.and_self, Bool.or_self, if_true, if_false, eq_self, Bool.false_eq_true, Bool.true_eq_false, reduceCtorEq, nI_0, not_true_eq_false, not_false_eq_true, and_true, true_and, and_false, false_and, or_true, true_or, or_false, false_or, and_self, or_self, Int32.add_zero]; done) | (simp [carS, drwB, c11, Nat.not_le.mpr c11, c21, nI_0]; done) | (simp only [carS, drwB, c11, Nat.not_le.mpr c11, c21, decide_true, decide_false, Bool.and_true, Bool.true_and, Bool.and_false, Bool.false_and, Bool.or_true, Bool.true_or, Bool.or_false, Bool.false_or, Bool.and_self, Bool.or_self, if_true, if_false, eq_self, Bool.false_eq_true, Bool.true_eq_false, reduceCtorEq, nI_0, not_true_eq_false, not_false_eq_true, and_true, true_and, and_false, false_and, or_true, true_or, or_false, false_or, and_self, or_self, Int32.add_zero]; omega) | (simp [carS, drwB, c11, Nat.not_le.mpr c11, c21, nI_0]; omega)
          have hl := lv_hasE hl (lcons rfl (lcons e2 (lcons rfl (lcons rfl rfl))))
          exact ih4 (i + 1) (by omega) (by omega) _ _ hP hS _ hl
        · refine lv_aload_n hx hb dX6_carried_24 rfl (lv_at hl 2 rfl) ?_
          refine lv_iload_n hx hb dX6_carried_25 rfl (lv_at hl 0 rfl) ?_
          refine md_cVr (As := [.int (nI i)]) (rest := [.int (carS Z b i)]) hx hb hown htg hK hI hS hP hml hl.1 (m6_reason l D ct ad _ _ _ _ i n hw (by omega)) cw_X6_66 rfl rfl ⟨Nat.le_of_ble_eq_true rfl, Nat.le_of_ble_eq_true rfl⟩ (Nat.le_of_ble_eq_true rfl) dX6_carried_26 ⟨Nat.le_refl _, Nat.le_refl _⟩ (fun H locs hP hS => ?_)
          have hrl := @rsn_lt Z i
          refine lv_ifneN (tgt := 41) hx hb (by omega) dX6_carried_29 (by decide) (fun c29 => ?_) (fun c29 => ?_)
          · refine lv_iconst (v := nI 0) hx hb dX6_carried_41 (by decide) ?_
            refine lv_iadd hx hb dX6_carried_42 ?_
            refine lv_istore_n (lv' := [(2, .int ((carS Z b i) + (nI 0))), (3, .int (nI i)), (0, .ref (ad 0)), (1, .int (nI b))]) hx hb dX6_carried_43 rfl hl (by decide) rfl (fun ls hl => ?_)
            refine lv_iinc (v := nI (i + 1)) (lv' := [(3, .int (nI (i + 1))), (2, .int ((carS Z b i) + (nI 0))), (0, .ref (ad 0)), (1, .int (nI b))]) hx hb dX6_carried_44 hl (k := 1) rfl (nI_add i 1) (by decide) rfl (fun ls hl => ?_)
            refine lv_goto (tgt := 4) hx hb dX6_carried_47 (by decide) ?_
            have hl := lv_sub (l' := [(3, .int (nI (i + 1))), (2, .int ((carS Z b i) + (nI 0))), (0, .ref (ad 0)), (1, .int (nI b))]) hl [0, 1, 2, 3] rfl
            have e2 : Value.int ((carS Z b i) + (nI 0)) = Value.int (carS Z b (i + 1)) := by first | (exfalso; omega) | (simp only [carS, drwB, c11, Nat.not_le.mpr c11, c21, c29, decide_true, decide_false, Bool.and_true, Bool.true_and, Bool.and_false, Bool.false_and, Bool.or_true, Bool.true_or, Bool.or_false, Bool.false_or, Bool.and_self, Bool.or_self, if_true, if_false, eq_self, Bool.false_eq_true, Bool.true_eq_false, reduceCtorEq, nI_0, not_true_eq_false, not_false_eq_true, and_true, true_and, and_false, false_and, or_true, true_or, or_false, false_or, and_self, or_self, Int32.add_zero]; done) | (simp [carS, drwB, c11, Nat.not_le.mpr c11, c21, c29, nI_0]; done) | (simp only [carS, drwB, c11, Nat.not_le.mpr c11, c21, c29, decide_true, decide_false, Bool.and_true, Bool.true_and, Bool.and_false, Bool.false_and, Bool.or_true, Bool.true_or, Bool.or_false, Bool.false_or, Bool.and_self, Bool.or_self, if_true, if_false, eq_self, Bool.false_eq_true, Bool.true_eq_false, reduceCtorEq, nI_0, not_true_eq_false, not_false_eq_true, and_true, true_and, and_false, false_and, or_true, true_or, or_false, false_or, and_self, or_self, Int32.add_zero]; omega) | (simp [carS, drwB, c11, Nat.not_le.mpr c11, c21, c29, nI_0]; omega)
            have hl := lv_hasE hl (lcons rfl (lcons e2 (lcons rfl (lcons rfl rfl))))
            exact ih4 (i + 1) (by omega) (by omega) _ _ hP hS _ hl
          · refine lv_aload_n hx hb dX6_carried_32 rfl (lv_at hl 2 rfl) ?_
            refine lv_iload_n hx hb dX6_carried_33 rfl (lv_at hl 0 rfl) ?_
            refine lv_iconst (v := nI 0) hx hb dX6_carried_34 (by decide) ?_
            refine md_cVr (As := [.int (nI i), .int (nI 0)]) (rest := [.int (carS Z b i)]) hx hb hown htg hK hI hS hP hml hl.1 (m6_of l D ct ad _ _ _ _ i 0 (by omega) (by omega)) cw_X6_47 rfl rfl ⟨Nat.le_of_ble_eq_true rfl, Nat.le_of_ble_eq_true rfl⟩ (Nat.le_of_ble_eq_true rfl) dX6_carried_35 ⟨Nat.le_refl _, Nat.le_refl _⟩ (fun H locs hP hS => ?_)
            refine lv_goto (tgt := 42) hx hb dX6_carried_38 (by decide) ?_
            refine lv_iadd hx hb dX6_carried_42 ?_
            refine lv_istore_n (lv' := [(2, .int ((carS Z b i) + (Z (39 + 8 * i + 0)))), (3, .int (nI i)), (0, .ref (ad 0)), (1, .int (nI b))]) hx hb dX6_carried_43 rfl hl (by decide) rfl (fun ls hl => ?_)
            refine lv_iinc (v := nI (i + 1)) (lv' := [(3, .int (nI (i + 1))), (2, .int ((carS Z b i) + (Z (39 + 8 * i + 0)))), (0, .ref (ad 0)), (1, .int (nI b))]) hx hb dX6_carried_44 hl (k := 1) rfl (nI_add i 1) (by decide) rfl (fun ls hl => ?_)
            refine lv_goto (tgt := 4) hx hb dX6_carried_47 (by decide) ?_
            have hl := lv_sub (l' := [(3, .int (nI (i + 1))), (2, .int ((carS Z b i) + (Z (39 + 8 * i + 0)))), (0, .ref (ad 0)), (1, .int (nI b))]) hl [0, 1, 2, 3] rfl
            have e2 : Value.int ((carS Z b i) + (Z (39 + 8 * i + 0))) = Value.int (carS Z b (i + 1)) := by first | (exfalso; omega) | (simp only [carS, drwB, c11, Nat.not_le.mpr c11, c21, c29, decide_true, decide_false, Bool.and_true, Bool.true_and, Bool.and_false, Bool.false_and, Bool.or_true, Bool.true_or, Bool.or_false, Bool.false_or, Bool.and_self, Bool.or_self, if_true, if_false, eq_self, Bool.false_eq_true, Bool.true_eq_false, reduceCtorEq, nI_0, not_true_eq_false, not_false_eq_true, and_true, true_and, and_false, false_and, or_true, true_or, or_false, false_or, and_self, or_self, Int32.add_zero]; done) | (simp [carS, drwB, c11, Nat.not_le.mpr c11, c21, c29, nI_0]; done) | (simp only [carS, drwB, c11, Nat.not_le.mpr c11, c21, c29, decide_true, decide_false, Bool.and_true, Bool.true_and, Bool.and_false, Bool.false_and, Bool.or_true, Bool.true_or, Bool.or_false, Bool.false_or, Bool.and_self, Bool.or_self, if_true, if_false, eq_self, Bool.false_eq_true, Bool.true_eq_false, reduceCtorEq, nI_0, not_true_eq_false, not_false_eq_true, and_true, true_and, and_false, false_and, or_true, true_or, or_false, false_or, and_self, or_self, Int32.add_zero]; omega) | (simp [carS, drwB, c11, Nat.not_le.mpr c11, c21, c29, nI_0]; omega)
            have hl := lv_hasE hl (lcons rfl (lcons e2 (lcons rfl (lcons rfl rfl))))
            exact ih4 (i + 1) (by omega) (by omega) _ _ hP hS _ hl
  have hl := lv_sub (l' := [(3, .int (nI 0)), (2, .int (nI 0)), (0, .ref (ad 0)), (1, .int (nI b))]) hl [0, 1, 2, 3] rfl
  have e2 : Value.int (nI 0) = Value.int (carS Z b 0) := by rfl
  have hl := lv_hasE hl (lcons rfl (lcons e2 (lcons rfl (lcons rfl rfl))))
  exact lp4 (n - 0 + 1) 0 (by omega) (Nat.lt_succ_self _) _ _ hP hS _ hl
set_option maxRecDepth 100000 in
set_option maxHeartbeats 4000000 in
theorem m6_goesFirst (l : Launch) (D : va_G) (ct : Nat → ClassId) (ad : Nat → Nat) (Z g : Nat → Int32) (hs : Int64) (F : Nat → Nat → Int32) (k : Nat) (j : Nat)   (hk10 : k < 10) (hj10 : j < 10) : FMet l yX6_goesFirst cX6_goesFirst 3 (some .boolean) 1 22 D ct 8 ad [.ref (ad 0), .int (nI k), .int (nI j)] (mdc ct ad Z g hs F) (some (.int (bi (gofB Z k j)))) (mdc ct ad Z g hs F) := by
  refine FMet.of (by decide +kernel) (Nat.le_of_ble_eq_true rfl) ?_
  intro p e s m args below meth c ls hx hb hr hml hown hlocks htg hK hI hP hS hl
  have hl : lv_has ls 3 [(0, .ref (ad 0)), (1, .int (nI k)), (2, .int (nI j))] := hl
  refine lv_aload_n hx hb dX6_goesFirst_0 rfl (lv_at hl 0 rfl) ?_
  refine lv_iload_n hx hb dX6_goesFirst_1 rfl (lv_at hl 1 rfl) ?_
  refine lv_iconst (v := nI 3) hx hb dX6_goesFirst_2 (by decide) ?_
  refine md_cVr (As := [.int (nI k), .int (nI 3)]) (rest := []) hx hb hown htg hK hI hS hP hml hl.1 (m6_of l D ct ad _ _ _ _ k 3 (by omega) (by omega)) cw_X6_47 rfl rfl ⟨Nat.le_of_ble_eq_true rfl, Nat.le_of_ble_eq_true rfl⟩ (Nat.le_of_ble_eq_true rfl) dX6_goesFirst_3 ⟨Nat.le_refl _, Nat.le_refl _⟩ (fun H locs hP hS => ?_)
  refine lv_aload_n hx hb dX6_goesFirst_6 rfl (lv_at hl 0 rfl) ?_
  refine lv_iload_n hx hb dX6_goesFirst_7 rfl (lv_at hl 2 rfl) ?_
  refine lv_iconst (v := nI 3) hx hb dX6_goesFirst_8 (by decide) ?_
  refine md_cVr (As := [.int (nI j), .int (nI 3)]) (rest := [.int (Z (39 + 8 * k + 3))]) hx hb hown htg hK hI hS hP hml hl.1 (m6_of l D ct ad _ _ _ _ j 3 (by omega) (by omega)) cw_X6_47 rfl rfl ⟨Nat.le_of_ble_eq_true rfl, Nat.le_of_ble_eq_true rfl⟩ (Nat.le_of_ble_eq_true rfl) dX6_goesFirst_9 ⟨Nat.le_refl _, Nat.le_refl _⟩ (fun H locs hP hS => ?_)
  refine lv_icmp_gtR (tgt := 45) hx hb dX6_goesFirst_12 (by decide) (fun c12 => ?_) (fun c12 => ?_)
  · refine lv_iconst (v := nI 1) hx hb dX6_goesFirst_45 (by decide) ?_
    refine lv_goto (tgt := 50) hx hb dX6_goesFirst_46 (by decide) ?_
    refine fr_iret hx hb hr hlocks hK hI hS rfl dX6_goesFirst_50 ?_ ?_
    · exact (congrArg bi (show (gofB Z k j) = true from by first | (exfalso; omega) | (simp only [gofB, c12, Int32.not_le.mpr c12, decide_true, decide_false, Bool.and_true, Bool.true_and, Bool.and_false, Bool.false_and, Bool.or_true, Bool.true_or, Bool.or_false, Bool.false_or, Bool.and_self, Bool.or_self, if_true, if_false, eq_self, Bool.false_eq_true, Bool.true_eq_false, reduceCtorEq, nI_0, not_true_eq_false, not_false_eq_true, and_true, true_and, and_false, false_and, or_true, true_or, or_false, false_or, and_self, or_self, Int32.add_zero]; done) | (simp [gofB, c12, Int32.not_le.mpr c12, nI_0]; done) | (simp only [gofB, c12, Int32.not_le.mpr c12, decide_true, decide_false, Bool.and_true, Bool.true_and, Bool.and_false, Bool.false_and, Bool.or_true, Bool.true_or, Bool.or_false, Bool.false_or, Bool.and_self, Bool.or_self, if_true, if_false, eq_self, Bool.false_eq_true, Bool.true_eq_false, reduceCtorEq, nI_0, not_true_eq_false, not_false_eq_true, and_true, true_and, and_false, false_and, or_true, true_or, or_false, false_or, and_self, or_self, Int32.add_zero]; omega) | (simp [gofB, c12, Int32.not_le.mpr c12, nI_0]; omega))).symm
    · exact hP
  · refine lv_aload_n hx hb dX6_goesFirst_15 rfl (lv_at hl 0 rfl) ?_
    refine lv_iload_n hx hb dX6_goesFirst_16 rfl (lv_at hl 1 rfl) ?_
    refine lv_iconst (v := nI 3) hx hb dX6_goesFirst_17 (by decide) ?_
    refine md_cVr (As := [.int (nI k), .int (nI 3)]) (rest := []) hx hb hown htg hK hI hS hP hml hl.1 (m6_of l D ct ad _ _ _ _ k 3 (by omega) (by omega)) cw_X6_47 rfl rfl ⟨Nat.le_of_ble_eq_true rfl, Nat.le_of_ble_eq_true rfl⟩ (Nat.le_of_ble_eq_true rfl) dX6_goesFirst_18 ⟨Nat.le_refl _, Nat.le_refl _⟩ (fun H locs hP hS => ?_)
    refine lv_aload_n hx hb dX6_goesFirst_21 rfl (lv_at hl 0 rfl) ?_
    refine lv_iload_n hx hb dX6_goesFirst_22 rfl (lv_at hl 2 rfl) ?_
    refine lv_iconst (v := nI 3) hx hb dX6_goesFirst_23 (by decide) ?_
    refine md_cVr (As := [.int (nI j), .int (nI 3)]) (rest := [.int (Z (39 + 8 * k + 3))]) hx hb hown htg hK hI hS hP hml hl.1 (m6_of l D ct ad _ _ _ _ j 3 (by omega) (by omega)) cw_X6_47 rfl rfl ⟨Nat.le_of_ble_eq_true rfl, Nat.le_of_ble_eq_true rfl⟩ (Nat.le_of_ble_eq_true rfl) dX6_goesFirst_24 ⟨Nat.le_refl _, Nat.le_refl _⟩ (fun H locs hP hS => ?_)
    refine lv_icmp_ne (tgt := 49) hx hb dX6_goesFirst_27 (by decide) (fun c27 => ?_) (fun c27 => ?_)
    · refine lv_iconst (v := nI 0) hx hb dX6_goesFirst_49 (by decide) ?_
      refine fr_iret hx hb hr hlocks hK hI hS rfl dX6_goesFirst_50 ?_ ?_
      · exact (congrArg bi (show (gofB Z k j) = false from by first | (exfalso; omega) | (simp only [gofB, c12, Int32.not_lt.mpr c12, c27, decide_true, decide_false, Bool.and_true, Bool.true_and, Bool.and_false, Bool.false_and, Bool.or_true, Bool.true_or, Bool.or_false, Bool.false_or, Bool.and_self, Bool.or_self, if_true, if_false, eq_self, Bool.false_eq_true, Bool.true_eq_false, reduceCtorEq, nI_0, not_true_eq_false, not_false_eq_true, and_true, true_and, and_false, false_and, or_true, true_or, or_false, false_or, and_self, or_self, Int32.add_zero]; done) | (simp [gofB, c12, Int32.not_lt.mpr c12, c27, nI_0]; done) | (simp only [gofB, c12, Int32.not_lt.mpr c12, c27, decide_true, decide_false, Bool.and_true, Bool.true_and, Bool.and_false, Bool.false_and, Bool.or_true, Bool.true_or, Bool.or_false, Bool.false_or, Bool.and_self, Bool.or_self, if_true, if_false, eq_self, Bool.false_eq_true, Bool.true_eq_false, reduceCtorEq, nI_0, not_true_eq_false, not_false_eq_true, and_true, true_and, and_false, false_and, or_true, true_or, or_false, false_or, and_self, or_self, Int32.add_zero]; omega) | (simp [gofB, c12, Int32.not_lt.mpr c12, c27, nI_0]; omega))).symm
      · exact hP
    · refine lv_aload_n hx hb dX6_goesFirst_30 rfl (lv_at hl 0 rfl) ?_
      refine lv_iload_n hx hb dX6_goesFirst_31 rfl (lv_at hl 1 rfl) ?_
      refine lv_iconst (v := nI 0) hx hb dX6_goesFirst_32 (by decide) ?_
      refine md_cVr (As := [.int (nI k), .int (nI 0)]) (rest := []) hx hb hown htg hK hI hS hP hml hl.1 (m6_of l D ct ad _ _ _ _ k 0 (by omega) (by omega)) cw_X6_47 rfl rfl ⟨Nat.le_of_ble_eq_true rfl, Nat.le_of_ble_eq_true rfl⟩ (Nat.le_of_ble_eq_true rfl) dX6_goesFirst_33 ⟨Nat.le_refl _, Nat.le_refl _⟩ (fun H locs hP hS => ?_)
      refine lv_aload_n hx hb dX6_goesFirst_36 rfl (lv_at hl 0 rfl) ?_
      refine lv_iload_n hx hb dX6_goesFirst_37 rfl (lv_at hl 2 rfl) ?_
      refine lv_iconst (v := nI 0) hx hb dX6_goesFirst_38 (by decide) ?_
      refine md_cVr (As := [.int (nI j), .int (nI 0)]) (rest := [.int (Z (39 + 8 * k + 0))]) hx hb hown htg hK hI hS hP hml hl.1 (m6_of l D ct ad _ _ _ _ j 0 (by omega) (by omega)) cw_X6_47 rfl rfl ⟨Nat.le_of_ble_eq_true rfl, Nat.le_of_ble_eq_true rfl⟩ (Nat.le_of_ble_eq_true rfl) dX6_goesFirst_39 ⟨Nat.le_refl _, Nat.le_refl _⟩ (fun H locs hP hS => ?_)
      refine lv_icmp_leR (tgt := 49) hx hb dX6_goesFirst_42 (by decide) (fun c42 => ?_) (fun c42 => ?_)
      · refine lv_iconst (v := nI 0) hx hb dX6_goesFirst_49 (by decide) ?_
        refine fr_iret hx hb hr hlocks hK hI hS rfl dX6_goesFirst_50 ?_ ?_
        · exact (congrArg bi (show (gofB Z k j) = false from by first | (exfalso; omega) | (simp only [gofB, c12, Int32.not_lt.mpr c12, c27, c42, Int32.not_lt.mpr c42, decide_true, decide_false, Bool.and_true, Bool.true_and, Bool.and_false, Bool.false_and, Bool.or_true, Bool.true_or, Bool.or_false, Bool.false_or, Bool.and_self, Bool.or_self, if_true, if_false, eq_self, Bool.false_eq_true, Bool.true_eq_false, reduceCtorEq, nI_0, not_true_eq_false, not_false_eq_true, and_true, true_and, and_false, false_and, or_true, true_or, or_false, false_or, and_self, or_self, Int32.add_zero]; done) | (simp [gofB, c12, Int32.not_lt.mpr c12, c27, c42, Int32.not_lt.mpr c42, nI_0]; done) | (simp only [gofB, c12, Int32.not_lt.mpr c12, c27, c42, Int32.not_lt.mpr c42, decide_true, decide_false, Bool.and_true, Bool.true_and, Bool.and_false, Bool.false_and, Bool.or_true, Bool.true_or, Bool.or_false, Bool.false_or, Bool.and_self, Bool.or_self, if_true, if_false, eq_self, Bool.false_eq_true, Bool.true_eq_false, reduceCtorEq, nI_0, not_true_eq_false, not_false_eq_true, and_true, true_and, and_false, false_and, or_true, true_or, or_false, false_or, and_self, or_self, Int32.add_zero]; omega) | (simp [gofB, c12, Int32.not_lt.mpr c12, c27, c42, Int32.not_lt.mpr c42, nI_0]; omega))).symm
        · exact hP
      · refine lv_iconst (v := nI 1) hx hb dX6_goesFirst_45 (by decide) ?_
        refine lv_goto (tgt := 50) hx hb dX6_goesFirst_46 (by decide) ?_
        refine fr_iret hx hb hr hlocks hK hI hS rfl dX6_goesFirst_50 ?_ ?_
        · exact (congrArg bi (show (gofB Z k j) = true from by first | (exfalso; omega) | (simp only [gofB, c12, Int32.not_lt.mpr c12, c27, c42, Int32.not_le.mpr c42, decide_true, decide_false, Bool.and_true, Bool.true_and, Bool.and_false, Bool.false_and, Bool.or_true, Bool.true_or, Bool.or_false, Bool.false_or, Bool.and_self, Bool.or_self, if_true, if_false, eq_self, Bool.false_eq_true, Bool.true_eq_false, reduceCtorEq, nI_0, not_true_eq_false, not_false_eq_true, and_true, true_and, and_false, false_and, or_true, true_or, or_false, false_or, and_self, or_self, Int32.add_zero]; done) | (simp [gofB, c12, Int32.not_lt.mpr c12, c27, c42, Int32.not_le.mpr c42, nI_0]; done) | (simp only [gofB, c12, Int32.not_lt.mpr c12, c27, c42, Int32.not_le.mpr c42, decide_true, decide_false, Bool.and_true, Bool.true_and, Bool.and_false, Bool.false_and, Bool.or_true, Bool.true_or, Bool.or_false, Bool.false_or, Bool.and_self, Bool.or_self, if_true, if_false, eq_self, Bool.false_eq_true, Bool.true_eq_false, reduceCtorEq, nI_0, not_true_eq_false, not_false_eq_true, and_true, true_and, and_false, false_and, or_true, true_or, or_false, false_or, and_self, or_self, Int32.add_zero]; omega) | (simp [gofB, c12, Int32.not_lt.mpr c12, c27, c42, Int32.not_le.mpr c42, nI_0]; omega))).symm
        · exact hP
set_option maxRecDepth 100000 in
set_option maxHeartbeats 4000000 in
theorem m6_firstToShed (l : Launch) (D : va_G) (ct : Nat → ClassId) (ad : Nat → Nat) (Z g : Nat → Int32) (hs : Int64) (F : Nat → Nat → Int32) (b : Nat) (n : Nat)  (hw : zW Z n) (hb4 : b < 4) : FMet l yX6_firstToShed cX6_firstToShed 4 (some .int) 3 67 D ct 8 ad [.ref (ad 0), .int (nI b)] (mdc ct ad Z g hs F) (some (.int (ox (ftn Z b n)))) (mdc ct ad Z g hs F) := by
  refine FMet.of (by decide +kernel) (Nat.le_of_ble_eq_true rfl) ?_
  intro p e s m args below meth c ls hx hb hr hml hown hlocks htg hK hI hP hS hl
  have hl : lv_has ls 4 [(0, .ref (ad 0)), (1, .int (nI b))] := hl
  have hn10 := hw.1
  refine lv_iconst (v := -1) hx hb dX6_firstToShed_0 (by decide) ?_
  refine lv_istore_n (lv' := [(2, .int (-1)), (0, .ref (ad 0)), (1, .int (nI b))]) hx hb dX6_firstToShed_1 rfl hl (by decide) rfl (fun ls hl => ?_)
  refine lv_iconst (v := nI 0) hx hb dX6_firstToShed_2 (by decide) ?_
  refine lv_istore_n (lv' := [(3, .int (nI 0)), (2, .int (-1)), (0, .ref (ad 0)), (1, .int (nI b))]) hx hb dX6_firstToShed_3 rfl hl (by decide) rfl (fun ls hl => ?_)
  have lp4 : ∀ (fu4 : Nat) (i : Nat), i ≤ n → n - i < fu4 → ∀ (H : Heap) (locs : List Loc), fP D 8 ad (mdc ct ad Z g hs F) H → va_S (fA 8 ad) s.heap H locs → ∀ (ls : Array Slot), lv_has ls 4 [(3, .int (nI i)), (2, .int (ox (ftn Z b i))), (0, .ref (ad 0)), (1, .int (nI b))] → W p l e ({ frames := 3, cells := 0, slots := 0, locals := 67 }) s m args below meth c H locs 0 0 (MQ below (fQ D ct 8 ad (some (.int (ox (ftn Z b n)))) (mdc ct ad Z g hs F)) args s 0 0 (fA 8 ad)) (F0 m 4 ls []) := by
    intro fu4
    induction fu4 with
    | zero => intro i hi hfu4; exact absurd hfu4 (Nat.not_lt_zero _)
    | succ fu4 ih4 =>
      intro i hi hfu4 H locs hP hS ls hl
      refine lv_iload_n hx hb dX6_firstToShed_4 rfl (lv_at hl 0 rfl) ?_
      refine lv_aload_n hx hb dX6_firstToShed_5 rfl (lv_at hl 2 rfl) ?_
      refine md_g1 hx hb hown htg hK hP dX6_firstToShed_6 ?_
      refine lv_iconst (v := nI 4) hx hb dX6_firstToShed_9 (by decide) ?_
      refine md_l1 hx hb hK hP (by omega) dX6_firstToShed_10 ?_
      refine lv_teq (hw).2.1 ?_
      refine lv_icmp_geN (tgt := 57) hx hb (by omega) (by omega) dX6_firstToShed_11 (by decide) (fun c11 => ?_) (fun c11 => ?_)
      · refine lv_iload_n hx hb dX6_firstToShed_57 rfl (lv_at hl 1 rfl) ?_
        refine fr_iret hx hb hr hlocks hK hI hS rfl dX6_firstToShed_58 ?_ ?_
        · rw [show i = n from by omega]
        · exact hP
      · refine lv_aload_n hx hb dX6_firstToShed_14 rfl (lv_at hl 2 rfl) ?_
        refine lv_iload_n hx hb dX6_firstToShed_15 rfl (lv_at hl 0 rfl) ?_
        refine lv_iload_n hx hb dX6_firstToShed_16 rfl (lv_at hl 3 rfl) ?_
        refine md_cVr (As := [.int (nI i), .int (nI b)]) (rest := []) hx hb hown htg hK hI hS hP hml hl.1 (m6_isOn l D ct ad _ _ _ _ i b n hw (by omega) (by omega)) cw_X6_62 rfl rfl ⟨Nat.le_of_ble_eq_true rfl, Nat.le_of_ble_eq_true rfl⟩ (Nat.le_of_ble_eq_true rfl) dX6_firstToShed_17 ⟨Nat.le_refl _, Nat.le_refl _⟩ (fun H locs hP hS => ?_)
        refine lv_ifeqB (tgt := 49) hx hb dX6_firstToShed_20 (by decide) (fun c20 => ?_) (fun c20 => ?_)
        · refine lv_iload_n hx hb dX6_firstToShed_49 rfl (lv_at hl 1 rfl) ?_
          refine lv_istore_n (lv' := [(2, .int (ox (ftn Z b i))), (3, .int (nI i)), (0, .ref (ad 0)), (1, .int (nI b))]) hx hb dX6_firstToShed_50 rfl hl (by decide) rfl (fun ls hl => ?_)
          refine lv_iinc (v := nI (i + 1)) (lv' := [(3, .int (nI (i + 1))), (2, .int (ox (ftn Z b i))), (0, .ref (ad 0)), (1, .int (nI b))]) hx hb dX6_firstToShed_51 hl (k := 1) rfl (nI_add i 1) (by decide) rfl (fun ls hl => ?_)
          refine lv_goto (tgt := 4) hx hb dX6_firstToShed_54 (by decide) ?_
          have hl := lv_sub (l' := [(3, .int (nI (i + 1))), (2, .int (ox (ftn Z b i))), (0, .ref (ad 0)), (1, .int (nI b))]) hl [0, 1, 2, 3] rfl
          have e2 : Value.int (ox (ftn Z b i)) = Value.int (ox (ftn Z b (i + 1))) := by first | (rw [ftn_no]; simp only [drwB, c11, Nat.not_le.mpr c11, c20, decide_true, decide_false, Bool.and_true, Bool.true_and, Bool.and_false, Bool.false_and, Bool.or_true, Bool.true_or, Bool.or_false, Bool.false_or, Bool.and_self, Bool.or_self, if_true, if_false, eq_self, Bool.false_eq_true, Bool.true_eq_false, reduceCtorEq, nI_0, not_true_eq_false, not_false_eq_true, and_true, true_and, and_false, false_and, or_true, true_or, or_false, false_or, and_self, or_self, Int32.add_zero]; done) | (rw [ftn_worse d32 c42, ox_n d32]; done) | (rw [ftn_first, ox_n (by omega)]; simp only [drwB, c11, Nat.not_le.mpr c11, c20, decide_true, decide_false, Bool.and_true, Bool.true_and, Bool.and_false, Bool.false_and, Bool.or_true, Bool.true_or, Bool.or_false, Bool.false_or, Bool.and_self, Bool.or_self, if_true, if_false, eq_self, Bool.false_eq_true, Bool.true_eq_false, reduceCtorEq, nI_0, not_true_eq_false, not_false_eq_true, and_true, true_and, and_false, false_and, or_true, true_or, or_false, false_or, and_self, or_self, Int32.add_zero]; exact ox_m (ftn_le Z b i (by omega)) c33) | (rw [ftn_better (by simp only [drwB, c11, Nat.not_le.mpr c11, c20, decide_true, decide_false, Bool.and_true, Bool.true_and, Bool.and_false, Bool.false_and, Bool.or_true, Bool.true_or, Bool.or_false, Bool.false_or, Bool.and_self, Bool.or_self, if_true, if_false, eq_self, Bool.false_eq_true, Bool.true_eq_false, reduceCtorEq, nI_0, not_true_eq_false, not_false_eq_true, and_true, true_and, and_false, false_and, or_true, true_or, or_false, false_or, and_self, or_self, Int32.add_zero]) c42, ox_n (by omega)])
          have hl := lv_hasE hl (lcons rfl (lcons e2 (lcons rfl (lcons rfl rfl))))
          exact ih4 (i + 1) (by omega) (by omega) _ _ hP hS _ hl
        · refine lv_aload_n hx hb dX6_firstToShed_23 rfl (lv_at hl 2 rfl) ?_
          refine lv_iload_n hx hb dX6_firstToShed_24 rfl (lv_at hl 0 rfl) ?_
          refine md_cVr (As := [.int (nI i)]) (rest := []) hx hb hown htg hK hI hS hP hml hl.1 (m6_reason l D ct ad _ _ _ _ i n hw (by omega)) cw_X6_66 rfl rfl ⟨Nat.le_of_ble_eq_true rfl, Nat.le_of_ble_eq_true rfl⟩ (Nat.le_of_ble_eq_true rfl) dX6_firstToShed_25 ⟨Nat.le_refl _, Nat.le_refl _⟩ (fun H locs hP hS => ?_)
          have hrl := @rsn_lt Z i
          refine lv_ifneN (tgt := 49) hx hb (by omega) dX6_firstToShed_28 (by decide) (fun c28 => ?_) (fun c28 => ?_)
          · refine lv_iload_n hx hb dX6_firstToShed_49 rfl (lv_at hl 1 rfl) ?_
            refine lv_istore_n (lv' := [(2, .int (ox (ftn Z b i))), (3, .int (nI i)), (0, .ref (ad 0)), (1, .int (nI b))]) hx hb dX6_firstToShed_50 rfl hl (by decide) rfl (fun ls hl => ?_)
            refine lv_iinc (v := nI (i + 1)) (lv' := [(3, .int (nI (i + 1))), (2, .int (ox (ftn Z b i))), (0, .ref (ad 0)), (1, .int (nI b))]) hx hb dX6_firstToShed_51 hl (k := 1) rfl (nI_add i 1) (by decide) rfl (fun ls hl => ?_)
            refine lv_goto (tgt := 4) hx hb dX6_firstToShed_54 (by decide) ?_
            have hl := lv_sub (l' := [(3, .int (nI (i + 1))), (2, .int (ox (ftn Z b i))), (0, .ref (ad 0)), (1, .int (nI b))]) hl [0, 1, 2, 3] rfl
            have e2 : Value.int (ox (ftn Z b i)) = Value.int (ox (ftn Z b (i + 1))) := by first | (rw [ftn_no]; simp only [drwB, c11, Nat.not_le.mpr c11, c20, c28, decide_true, decide_false, Bool.and_true, Bool.true_and, Bool.and_false, Bool.false_and, Bool.or_true, Bool.true_or, Bool.or_false, Bool.false_or, Bool.and_self, Bool.or_self, if_true, if_false, eq_self, Bool.false_eq_true, Bool.true_eq_false, reduceCtorEq, nI_0, not_true_eq_false, not_false_eq_true, and_true, true_and, and_false, false_and, or_true, true_or, or_false, false_or, and_self, or_self, Int32.add_zero]; done) | (rw [ftn_worse d32 c42, ox_n d32]; done) | (rw [ftn_first, ox_n (by omega)]; simp only [drwB, c11, Nat.not_le.mpr c11, c20, c28, decide_true, decide_false, Bool.and_true, Bool.true_and, Bool.and_false, Bool.false_and, Bool.or_true, Bool.true_or, Bool.or_false, Bool.false_or, Bool.and_self, Bool.or_self, if_true, if_false, eq_self, Bool.false_eq_true, Bool.true_eq_false, reduceCtorEq, nI_0, not_true_eq_false, not_false_eq_true, and_true, true_and, and_false, false_and, or_true, true_or, or_false, false_or, and_self, or_self, Int32.add_zero]; exact ox_m (ftn_le Z b i (by omega)) c33) | (rw [ftn_better (by simp only [drwB, c11, Nat.not_le.mpr c11, c20, c28, decide_true, decide_false, Bool.and_true, Bool.true_and, Bool.and_false, Bool.false_and, Bool.or_true, Bool.true_or, Bool.or_false, Bool.false_or, Bool.and_self, Bool.or_self, if_true, if_false, eq_self, Bool.false_eq_true, Bool.true_eq_false, reduceCtorEq, nI_0, not_true_eq_false, not_false_eq_true, and_true, true_and, and_false, false_and, or_true, true_or, or_false, false_or, and_self, or_self, Int32.add_zero]) c42, ox_n (by omega)])
            have hl := lv_hasE hl (lcons rfl (lcons e2 (lcons rfl (lcons rfl rfl))))
            exact ih4 (i + 1) (by omega) (by omega) _ _ hP hS _ hl
          · refine lv_iload_n hx hb dX6_firstToShed_31 rfl (lv_at hl 1 rfl) ?_
            refine lv_iconst (v := -1) hx hb dX6_firstToShed_32 (by decide) ?_
            refine lv_icmp_eq (tgt := 45) hx hb dX6_firstToShed_33 (by decide) (fun c33 => ?_) (fun c33 => ?_)
            · refine lv_iload_n hx hb dX6_firstToShed_45 rfl (lv_at hl 0 rfl) ?_
              refine lv_goto (tgt := 50) hx hb dX6_firstToShed_46 (by decide) ?_
              refine lv_istore_n (lv' := [(2, .int (nI i)), (3, .int (nI i)), (0, .ref (ad 0)), (1, .int (nI b))]) hx hb dX6_firstToShed_50 rfl hl (by decide) rfl (fun ls hl => ?_)
              refine lv_iinc (v := nI (i + 1)) (lv' := [(3, .int (nI (i + 1))), (2, .int (nI i)), (0, .ref (ad 0)), (1, .int (nI b))]) hx hb dX6_firstToShed_51 hl (k := 1) rfl (nI_add i 1) (by decide) rfl (fun ls hl => ?_)
              refine lv_goto (tgt := 4) hx hb dX6_firstToShed_54 (by decide) ?_
              have hl := lv_sub (l' := [(3, .int (nI (i + 1))), (2, .int (nI i)), (0, .ref (ad 0)), (1, .int (nI b))]) hl [0, 1, 2, 3] rfl
              have e2 : Value.int (nI i) = Value.int (ox (ftn Z b (i + 1))) := by first | (rw [ftn_no]; simp only [drwB, c11, Nat.not_le.mpr c11, c20, c28, c33, decide_true, decide_false, Bool.and_true, Bool.true_and, Bool.and_false, Bool.false_and, Bool.or_true, Bool.true_or, Bool.or_false, Bool.false_or, Bool.and_self, Bool.or_self, if_true, if_false, eq_self, Bool.false_eq_true, Bool.true_eq_false, reduceCtorEq, nI_0, not_true_eq_false, not_false_eq_true, and_true, true_and, and_false, false_and, or_true, true_or, or_false, false_or, and_self, or_self, Int32.add_zero]; done) | (rw [ftn_worse d32 c42, ox_n d32]; done) | (rw [ftn_first, ox_n (by omega)]; simp only [drwB, c11, Nat.not_le.mpr c11, c20, c28, c33, decide_true, decide_false, Bool.and_true, Bool.true_and, Bool.and_false, Bool.false_and, Bool.or_true, Bool.true_or, Bool.or_false, Bool.false_or, Bool.and_self, Bool.or_self, if_true, if_false, eq_self, Bool.false_eq_true, Bool.true_eq_false, reduceCtorEq, nI_0, not_true_eq_false, not_false_eq_true, and_true, true_and, and_false, false_and, or_true, true_or, or_false, false_or, and_self, or_self, Int32.add_zero]; exact ox_m (ftn_le Z b i (by omega)) c33) | (rw [ftn_better (by simp only [drwB, c11, Nat.not_le.mpr c11, c20, c28, c33, decide_true, decide_false, Bool.and_true, Bool.true_and, Bool.and_false, Bool.false_and, Bool.or_true, Bool.true_or, Bool.or_false, Bool.false_or, Bool.and_self, Bool.or_self, if_true, if_false, eq_self, Bool.false_eq_true, Bool.true_eq_false, reduceCtorEq, nI_0, not_true_eq_false, not_false_eq_true, and_true, true_and, and_false, false_and, or_true, true_or, or_false, false_or, and_self, or_self, Int32.add_zero]) c42, ox_n (by omega)])
              have hl := lv_hasE hl (lcons rfl (lcons e2 (lcons rfl (lcons rfl rfl))))
              exact ih4 (i + 1) (by omega) (by omega) _ _ hP hS _ hl
            · have d32 := ox_nm c33
              have dl := ftn_lt Z b i
              refine lv_aload_n hx hb dX6_firstToShed_36 rfl (lv_at hl 2 rfl) ?_
              refine lv_iload_n hx hb dX6_firstToShed_37 rfl (lv_at hl 0 rfl) ?_
              refine lv_iload_n hx hb dX6_firstToShed_38 rfl (lv_at hl 1 rfl) ?_
              refine lv_teq (ox_n d32) ?_
              refine md_cVr (As := [.int (nI i), .int (nI (ftn Z b i))]) (rest := []) hx hb hown htg hK hI hS hP hml hl.1 (m6_goesFirst l D ct ad _ _ _ _ i (ftn Z b i) (by omega) (by omega)) cw_X6_69 rfl rfl ⟨Nat.le_of_ble_eq_true rfl, Nat.le_of_ble_eq_true rfl⟩ (Nat.le_of_ble_eq_true rfl) dX6_firstToShed_39 ⟨Nat.le_refl _, Nat.le_refl _⟩ (fun H locs hP hS => ?_)
              refine lv_ifeqB (tgt := 49) hx hb dX6_firstToShed_42 (by decide) (fun c42 => ?_) (fun c42 => ?_)
              · refine lv_iload_n hx hb dX6_firstToShed_49 rfl (lv_at hl 1 rfl) ?_
                refine lv_teq (ox_n d32) ?_
                refine lv_istore_n (lv' := [(2, .int (nI (ftn Z b i))), (3, .int (nI i)), (0, .ref (ad 0)), (1, .int (nI b))]) hx hb dX6_firstToShed_50 rfl hl (by decide) rfl (fun ls hl => ?_)
                refine lv_iinc (v := nI (i + 1)) (lv' := [(3, .int (nI (i + 1))), (2, .int (nI (ftn Z b i))), (0, .ref (ad 0)), (1, .int (nI b))]) hx hb dX6_firstToShed_51 hl (k := 1) rfl (nI_add i 1) (by decide) rfl (fun ls hl => ?_)
                refine lv_goto (tgt := 4) hx hb dX6_firstToShed_54 (by decide) ?_
                have hl := lv_sub (l' := [(3, .int (nI (i + 1))), (2, .int (nI (ftn Z b i))), (0, .ref (ad 0)), (1, .int (nI b))]) hl [0, 1, 2, 3] rfl
                have e2 : Value.int (nI (ftn Z b i)) = Value.int (ox (ftn Z b (i + 1))) := by first | (rw [ftn_no]; simp only [drwB, c11, Nat.not_le.mpr c11, c20, c28, c33, c42, decide_true, decide_false, Bool.and_true, Bool.true_and, Bool.and_false, Bool.false_and, Bool.or_true, Bool.true_or, Bool.or_false, Bool.false_or, Bool.and_self, Bool.or_self, if_true, if_false, eq_self, Bool.false_eq_true, Bool.true_eq_false, reduceCtorEq, nI_0, not_true_eq_false, not_false_eq_true, and_true, true_and, and_false, false_and, or_true, true_or, or_false, false_or, and_self, or_self, Int32.add_zero]; done) | (rw [ftn_worse d32 c42, ox_n d32]; done) | (rw [ftn_first, ox_n (by omega)]; simp only [drwB, c11, Nat.not_le.mpr c11, c20, c28, c33, c42, decide_true, decide_false, Bool.and_true, Bool.true_and, Bool.and_false, Bool.false_and, Bool.or_true, Bool.true_or, Bool.or_false, Bool.false_or, Bool.and_self, Bool.or_self, if_true, if_false, eq_self, Bool.false_eq_true, Bool.true_eq_false, reduceCtorEq, nI_0, not_true_eq_false, not_false_eq_true, and_true, true_and, and_false, false_and, or_true, true_or, or_false, false_or, and_self, or_self, Int32.add_zero]; exact ox_m (ftn_le Z b i (by omega)) c33) | (rw [ftn_better (by simp only [drwB, c11, Nat.not_le.mpr c11, c20, c28, c33, c42, decide_true, decide_false, Bool.and_true, Bool.true_and, Bool.and_false, Bool.false_and, Bool.or_true, Bool.true_or, Bool.or_false, Bool.false_or, Bool.and_self, Bool.or_self, if_true, if_false, eq_self, Bool.false_eq_true, Bool.true_eq_false, reduceCtorEq, nI_0, not_true_eq_false, not_false_eq_true, and_true, true_and, and_false, false_and, or_true, true_or, or_false, false_or, and_self, or_self, Int32.add_zero]) c42, ox_n (by omega)])
                have hl := lv_hasE hl (lcons rfl (lcons e2 (lcons rfl (lcons rfl rfl))))
                exact ih4 (i + 1) (by omega) (by omega) _ _ hP hS _ hl
              · refine lv_iload_n hx hb dX6_firstToShed_45 rfl (lv_at hl 0 rfl) ?_
                refine lv_goto (tgt := 50) hx hb dX6_firstToShed_46 (by decide) ?_
                refine lv_istore_n (lv' := [(2, .int (nI i)), (3, .int (nI i)), (0, .ref (ad 0)), (1, .int (nI b))]) hx hb dX6_firstToShed_50 rfl hl (by decide) rfl (fun ls hl => ?_)
                refine lv_iinc (v := nI (i + 1)) (lv' := [(3, .int (nI (i + 1))), (2, .int (nI i)), (0, .ref (ad 0)), (1, .int (nI b))]) hx hb dX6_firstToShed_51 hl (k := 1) rfl (nI_add i 1) (by decide) rfl (fun ls hl => ?_)
                refine lv_goto (tgt := 4) hx hb dX6_firstToShed_54 (by decide) ?_
                have hl := lv_sub (l' := [(3, .int (nI (i + 1))), (2, .int (nI i)), (0, .ref (ad 0)), (1, .int (nI b))]) hl [0, 1, 2, 3] rfl
                have e2 : Value.int (nI i) = Value.int (ox (ftn Z b (i + 1))) := by first | (rw [ftn_no]; simp only [drwB, c11, Nat.not_le.mpr c11, c20, c28, c33, c42, decide_true, decide_false, Bool.and_true, Bool.true_and, Bool.and_false, Bool.false_and, Bool.or_true, Bool.true_or, Bool.or_false, Bool.false_or, Bool.and_self, Bool.or_self, if_true, if_false, eq_self, Bool.false_eq_true, Bool.true_eq_false, reduceCtorEq, nI_0, not_true_eq_false, not_false_eq_true, and_true, true_and, and_false, false_and, or_true, true_or, or_false, false_or, and_self, or_self, Int32.add_zero]; done) | (rw [ftn_worse d32 c42, ox_n d32]; done) | (rw [ftn_first, ox_n (by omega)]; simp only [drwB, c11, Nat.not_le.mpr c11, c20, c28, c33, c42, decide_true, decide_false, Bool.and_true, Bool.true_and, Bool.and_false, Bool.false_and, Bool.or_true, Bool.true_or, Bool.or_false, Bool.false_or, Bool.and_self, Bool.or_self, if_true, if_false, eq_self, Bool.false_eq_true, Bool.true_eq_false, reduceCtorEq, nI_0, not_true_eq_false, not_false_eq_true, and_true, true_and, and_false, false_and, or_true, true_or, or_false, false_or, and_self, or_self, Int32.add_zero]; exact ox_m (ftn_le Z b i (by omega)) c33) | (rw [ftn_better (by simp only [drwB, c11, Nat.not_le.mpr c11, c20, c28, c33, c42, decide_true, decide_false, Bool.and_true, Bool.true_and, Bool.and_false, Bool.false_and, Bool.or_true, Bool.true_or, Bool.or_false, Bool.false_or, Bool.and_self, Bool.or_self, if_true, if_false, eq_self, Bool.false_eq_true, Bool.true_eq_false, reduceCtorEq, nI_0, not_true_eq_false, not_false_eq_true, and_true, true_and, and_false, false_and, or_true, true_or, or_false, false_or, and_self, or_self, Int32.add_zero]) c42, ox_n (by omega)])
                have hl := lv_hasE hl (lcons rfl (lcons e2 (lcons rfl (lcons rfl rfl))))
                exact ih4 (i + 1) (by omega) (by omega) _ _ hP hS _ hl
  have hl := lv_sub (l' := [(3, .int (nI 0)), (2, .int (-1)), (0, .ref (ad 0)), (1, .int (nI b))]) hl [0, 1, 2, 3] rfl
  have e2 : Value.int (-1) = Value.int (ox (ftn Z b 0)) := by rfl
  have hl := lv_hasE hl (lcons rfl (lcons e2 (lcons rfl (lcons rfl rfl))))
  exact lp4 (n - 0 + 1) 0 (by omega) (Nat.lt_succ_self _) _ _ hP hS _ hl
set_option maxRecDepth 100000 in
set_option maxHeartbeats 4000000 in
theorem m6_shedByRank (l : Launch) (D : va_G) (ct : Nat → ClassId) (ad : Nat → Nat) (Z g : Nat → Int32) (hs : Int64) (F : Nat → Nat → Int32) (b : Nat) (n : Nat)  (hw : zW Z n) (hb4 : b < 4) : FMet l yX6_shedByRank cX6_shedByRank 2 (none : Option Jvm.ClassFile.FieldType) 4 90 D ct 8 ad [.ref (ad 0), .int (nI b)] (mdc ct ad Z g hs F) none (mdc ct ad (shdZ Z b n) g hs F) := by
  refine FMet.of (by decide +kernel) (Nat.le_of_ble_eq_true rfl) ?_
  intro p e s m args below meth c ls hx hb hr hml hown hlocks htg hK hI hP hS hl
  have hl : lv_has ls 2 [(0, .ref (ad 0)), (1, .int (nI b))] := hl
  have hn10 := hw.1
  have lp0 : ∀ (fu0 : Nat) (f : Nat) (X : Nat → Int32), zW X n → drN X b n ≤ f → shL b n f X = shL b n 10 Z → f < fu0 → ∀ (H : Heap) (locs : List Loc), fP D 8 ad (mdc ct ad X g hs F) H → va_S (fA 8 ad) s.heap H locs → ∀ (ls : Array Slot), lv_has ls 2 [(0, .ref (ad 0)), (1, .int (nI b))] → W p l e ({ frames := 4, cells := 0, slots := 0, locals := 90 }) s m args below meth c H locs 0 0 (MQ below (fQ D ct 8 ad none (mdc ct ad (shdZ Z b n) g hs F)) args s 0 0 (fA 8 ad)) (F0 m 0 ls []) := by
    intro fu0
    induction fu0 with
    | zero => intro f X hX hdf hres hfu0; exact absurd hfu0 (Nat.not_lt_zero _)
    | succ fu0 ih0 =>
      intro f X hX hdf hres hfu0 H locs hP hS ls hl
      refine lv_aload_n hx hb dX6_shedByRank_0 rfl (lv_at hl 0 rfl) ?_
      refine md_g1 hx hb hown htg hK hP dX6_shedByRank_1 ?_
      refine lv_iconst (v := nI 1) hx hb dX6_shedByRank_4 (by decide) ?_
      refine md_l1 hx hb hK hP (by omega) dX6_shedByRank_5 ?_
      refine lv_iconst (v := nI 1) hx hb dX6_shedByRank_6 (by decide) ?_
      refine lv_icmp_ne (tgt := 58) hx hb dX6_shedByRank_7 (by decide) (fun c7 => ?_) (fun c7 => ?_)
      · refine fr_vret hx hb hr hlocks hK hI hS dX6_shedByRank_58 ?_
        refine fP.eqc (congrArg (fun v9 => mdc ct ad v9 g hs F) (show (shdZ Z b n) = X from by rw [shdZ, ← hres]; cases f <;> first | rfl | (simp only [shL, shC, c7, decide_true, decide_false, Bool.and_true, Bool.true_and, Bool.and_false, Bool.false_and, Bool.or_true, Bool.true_or, Bool.or_false, Bool.false_or, Bool.and_self, Bool.or_self, if_true, if_false, eq_self, Bool.false_eq_true, Bool.true_eq_false, reduceCtorEq, nI_0, not_true_eq_false, not_false_eq_true, and_true, true_and, and_false, false_and, or_true, true_or, or_false, false_or, and_self, or_self, Int32.add_zero]; done)).symm) ?_
        exact hP
      · refine lv_aload_n hx hb dX6_shedByRank_10 rfl (lv_at hl 0 rfl) ?_
        refine lv_iload_n hx hb dX6_shedByRank_11 rfl (lv_at hl 1 rfl) ?_
        refine lv_iconst (v := nI 1) hx hb dX6_shedByRank_12 (by decide) ?_
        refine md_cVr (As := [.int (nI b), .int (nI 1)]) (rest := []) hx hb hown htg hK hI hS hP hml hl.1 (m6_by l D ct ad _ _ _ _ b 1 (by omega) (by omega)) cw_X6_59 rfl rfl ⟨Nat.le_of_ble_eq_true rfl, Nat.le_of_ble_eq_true rfl⟩ (Nat.le_of_ble_eq_true rfl) dX6_shedByRank_13 ⟨Nat.le_refl _, Nat.le_refl _⟩ (fun H locs hP hS => ?_)
        refine lv_iconst (v := nI 1) hx hb dX6_shedByRank_16 (by decide) ?_
        refine lv_icmp_ne (tgt := 58) hx hb dX6_shedByRank_17 (by decide) (fun c17 => ?_) (fun c17 => ?_)
        · refine fr_vret hx hb hr hlocks hK hI hS dX6_shedByRank_58 ?_
          refine fP.eqc (congrArg (fun v9 => mdc ct ad v9 g hs F) (show (shdZ Z b n) = X from by rw [shdZ, ← hres]; cases f <;> first | rfl | (simp only [shL, shC, c7, c17, decide_true, decide_false, Bool.and_true, Bool.true_and, Bool.and_false, Bool.false_and, Bool.or_true, Bool.true_or, Bool.or_false, Bool.false_or, Bool.and_self, Bool.or_self, if_true, if_false, eq_self, Bool.false_eq_true, Bool.true_eq_false, reduceCtorEq, nI_0, not_true_eq_false, not_false_eq_true, and_true, true_and, and_false, false_and, or_true, true_or, or_false, false_or, and_self, or_self, Int32.add_zero]; done)).symm) ?_
          exact hP
        · refine lv_aload_n hx hb dX6_shedByRank_20 rfl (lv_at hl 0 rfl) ?_
          refine lv_iload_n hx hb dX6_shedByRank_21 rfl (lv_at hl 1 rfl) ?_
          refine md_cVr (As := [.int (nI b)]) (rest := []) hx hb hown htg hK hI hS hP hml hl.1 (m6_carried l D ct ad _ _ _ _ b n hX (by omega)) cw_X6_72 rfl rfl ⟨Nat.le_of_ble_eq_true rfl, Nat.le_of_ble_eq_true rfl⟩ (Nat.le_of_ble_eq_true rfl) dX6_shedByRank_22 ⟨Nat.le_refl _, Nat.le_refl _⟩ (fun H locs hP hS => ?_)
          refine lv_aload_n hx hb dX6_shedByRank_25 rfl (lv_at hl 0 rfl) ?_
          refine lv_iload_n hx hb dX6_shedByRank_26 rfl (lv_at hl 1 rfl) ?_
          refine lv_iconst (v := nI 0) hx hb dX6_shedByRank_27 (by decide) ?_
          refine md_cVr (As := [.int (nI b), .int (nI 0)]) (rest := [.int (carS X b n)]) hx hb hown htg hK hI hS hP hml hl.1 (m6_by l D ct ad _ _ _ _ b 0 (by omega) (by omega)) cw_X6_59 rfl rfl ⟨Nat.le_of_ble_eq_true rfl, Nat.le_of_ble_eq_true rfl⟩ (Nat.le_of_ble_eq_true rfl) dX6_shedByRank_28 ⟨Nat.le_refl _, Nat.le_refl _⟩ (fun H locs hP hS => ?_)
          refine lv_icmp_leR (tgt := 58) hx hb dX6_shedByRank_31 (by decide) (fun c31 => ?_) (fun c31 => ?_)
          · refine fr_vret hx hb hr hlocks hK hI hS dX6_shedByRank_58 ?_
            refine fP.eqc (congrArg (fun v9 => mdc ct ad v9 g hs F) (show (shdZ Z b n) = X from by rw [shdZ, ← hres]; cases f <;> first | rfl | (simp only [shL, shC, c7, c17, c31, Int32.not_lt.mpr c31, decide_true, decide_false, Bool.and_true, Bool.true_and, Bool.and_false, Bool.false_and, Bool.or_true, Bool.true_or, Bool.or_false, Bool.false_or, Bool.and_self, Bool.or_self, if_true, if_false, eq_self, Bool.false_eq_true, Bool.true_eq_false, reduceCtorEq, nI_0, not_true_eq_false, not_false_eq_true, and_true, true_and, and_false, false_and, or_true, true_or, or_false, false_or, and_self, or_self, Int32.add_zero]; done)).symm) ?_
            exact hP
          · have hC : shC X b n = true := by simp only [shC, c7, c17, c31, Int32.not_le.mpr c31, decide_true, Bool.and_self]
            have hF := shC_ftn hX hb4 c31
            have hd := drN_sh hX hF
            have hfl := ftn_lt X b n
            have hf1 : 1 ≤ f := by omega
            refine lv_aload_n hx hb dX6_shedByRank_34 rfl (lv_at hl 0 rfl) ?_
            refine lv_aload_n hx hb dX6_shedByRank_35 rfl (lv_at hl 0 rfl) ?_
            refine lv_iload_n hx hb dX6_shedByRank_36 rfl (lv_at hl 1 rfl) ?_
            refine md_cVr (As := [.int (nI b)]) (rest := [.ref (ad 0)]) hx hb hown htg hK hI hS hP hml hl.1 (m6_firstToShed l D ct ad _ _ _ _ b n hX (by omega)) cw_X6_75 rfl rfl ⟨Nat.le_of_ble_eq_true rfl, Nat.le_of_ble_eq_true rfl⟩ (Nat.le_of_ble_eq_true rfl) dX6_shedByRank_37 ⟨Nat.le_refl _, Nat.le_refl _⟩ (fun H locs hP hS => ?_)
            refine lv_teq (ox_n hF) ?_
            refine lv_iconst (v := nI 5) hx hb dX6_shedByRank_40 (by decide) ?_
            refine lv_iconst (v := nI 1) hx hb dX6_shedByRank_41 (by decide) ?_
            refine md_cV0 (As := [.int (nI (ftn X b n)), .int (nI 5), .int (nI 1)]) (rest := []) hx hb hown htg hK hI hS hP hml hl.1 (m6_lay l D ct ad _ _ _ _ (ftn X b n) 5 (nI 1) (by omega) (by omega)) cw_X6_78 rfl rfl ⟨Nat.le_of_ble_eq_true rfl, Nat.le_of_ble_eq_true rfl⟩ (Nat.le_of_ble_eq_true rfl) dX6_shedByRank_42 ⟨Nat.le_refl _, Nat.le_refl _⟩ (fun H locs hP hS => ?_)
            refine lv_aload_n hx hb dX6_shedByRank_45 rfl (lv_at hl 0 rfl) ?_
            refine md_g1 hx hb hown htg hK hP dX6_shedByRank_46 ?_
            refine lv_iconst (v := nI 5) hx hb dX6_shedByRank_49 (by decide) ?_
            refine lv_dup2_11 hx hb dX6_shedByRank_50 rfl rfl ?_
            refine md_l1 hx hb hK hP (by omega) dX6_shedByRank_51 ?_
            refine lv_iconst (v := nI 1) hx hb dX6_shedByRank_52 (by decide) ?_
            refine lv_iadd hx hb dX6_shedByRank_53 ?_
            refine md_s1 hx hb hK hI hS hP (by omega) dX6_shedByRank_54 (fun H locs hP hS => ?_)
            refine lv_goto (tgt := 0) hx hb dX6_shedByRank_55 (by decide) ?_
            have hl := lv_sub (l' := [(0, .ref (ad 0)), (1, .int (nI b))]) hl [0, 1] rfl
            have hP := fP.eqc (congrArg (fun v9 => mdc ct ad v9 g hs F) (show (upd (upd X (39 + 8 * (ftn X b n) + 5) (nI 1)) 5 (((upd X (39 + 8 * (ftn X b n) + 5) (nI 1)) 5) + (nI 1))) = (shS X b n) from by rfl)) hP
            exact ih0 (f - 1) (shS X b n) (shS_zW hX) (by omega) (by rw [show f = (f - 1) + 1 from by omega] at hres; simpa only [shL, hC, if_true] using hres) (by omega) _ _ hP hS _ hl
  have hl := lv_sub (l' := [(0, .ref (ad 0)), (1, .int (nI b))]) hl [0, 1] rfl
  exact lp0 (10 + 1) 10 Z (hw) (by have := drN_le Z b n; omega) (rfl) (Nat.lt_succ_self _) _ _ hP hS _ hl
